/-! the shape of what was read: a row of actions covers an interval of numbers -/
def act_ok (M : mw_S) (k q s : Nat) : Prop := (∃ w, 1 ≤ w ∧ w ≤ 10 ∧ M.2.2.1 14 s = nI w) ∧ (M.2.2.1 15 s = -1 ∨ ∃ v, v ≤ 999 ∧ M.2.2.1 15 s = nI v) ∧ (M.2.2.1 14 s = 2 → ∃ c, c < 6 ∧ M.2.2.1 15 s = nI c) ∧ M.2.2.1 81 s = nI k ∧ M.2.2.1 82 s = nI q
/-- less and try have a block below them -/
def dOk (M : mw_S) (deep s : Nat) : Prop := (M.2.2.1 14 s = 9 ∨ M.2.2.1 14 s = 10) → deep ≤ 5
theorem dOk.same {M M' : mw_S} {deep s : Nat} (h : dOk M deep s) (e : M'.2.2.1 14 s = M.2.2.1 14 s) : dOk M' deep s := by
  unfold dOk
  rw [e]
  exact h
theorem dOk.of {M : mw_S} {deep s : Nat} (h1 : ¬ M.2.2.1 14 s = 9) (h2 : ¬ M.2.2.1 14 s = 10) : dOk M deep s := fun z => absurd z (fun y => y.elim h1 h2)
def COV (M : mw_S) (k q : Nat) : Nat → Nat → Int32 → Nat → Nat → Prop
  | 0, _, _, _, _ => False
  | f + 1, deep, v, s, e => (v = -1 ∧ s = e) ∨ (v = nI s ∧ s < e ∧ (deep ≤ 6 ∧ dOk M deep s) ∧ act_ok M k q s ∧ ∃ m1 m2, s + 1 ≤ m1 ∧ m1 ≤ m2 ∧ m2 ≤ e ∧ COV M k q f (deep + 1) (M.2.2.1 16 s) (s + 1) m1 ∧ COV M k q f (deep + 1) (M.2.2.1 17 s) m1 m2 ∧ COV M k q f deep (M.2.2.1 18 s) m2 e)
theorem act_ok.same {M M' : mw_S} {k q s : Nat} (h : act_ok M k q s) (e : ∀ j, (14 ≤ j ∧ j ≤ 18 ∨ 80 ≤ j ∧ j ≤ 83) → M'.2.2.1 j s = M.2.2.1 j s) : act_ok M' k q s := by
  unfold act_ok
  rw [e 14 (by omega), e 15 (by omega), e 81 (by omega), e 82 (by omega)]
  exact h
theorem act_ok.same' {M M' : mw_S} {k q s : Nat} (h : act_ok M k q s) (e : ∀ j, (14 ≤ j ∧ j ≤ 15 ∨ 81 ≤ j ∧ j ≤ 82) → ¬ j = 17 → M'.2.2.1 j s = M.2.2.1 j s) : act_ok M' k q s := by
  unfold act_ok
  rw [e 14 (by omega) (by omega), e 15 (by omega) (by omega), e 81 (by omega) (by omega), e 82 (by omega) (by omega)]
  exact h
theorem COV.same {M M' : mw_S} {k q : Nat} : ∀ (f deep : Nat) (v : Int32) (s e : Nat), (∀ j i, s ≤ i → i < e → (14 ≤ j ∧ j ≤ 18 ∨ 80 ≤ j ∧ j ≤ 83) → M'.2.2.1 j i = M.2.2.1 j i) → COV M k q f deep v s e → COV M' k q f deep v s e := by
  intro f
  induction f with
  | zero => intro deep v s e _ h; exact h
  | succ f ih =>
    intro deep v s e he h
    rcases h with h | ⟨h1, h2, h3, h4, m1, m2, p1, p2, p3, c1, c2, c3⟩
    · exact Or.inl h
    · refine Or.inr ⟨h1, h2, ⟨h3.1, h3.2.same (he 14 s (by omega) h2 (by omega))⟩, h4.same (fun j hj => he j s (by omega) h2 hj), m1, m2, p1, p2, p3, ?_, ?_, ?_⟩
      · rw [he 16 s (by omega) h2 (by omega)]
        exact ih _ _ _ _ (fun j i a b c => he j i (by omega) (by omega) c) c1
      · rw [he 17 s (by omega) h2 (by omega)]
        exact ih _ _ _ _ (fun j i a b c => he j i (by omega) (by omega) c) c2
      · rw [he 18 s (by omega) h2 (by omega)]
        exact ih _ _ _ _ (fun j i a b c => he j i (by omega) (by omega) c) c3
theorem COV.up {M : mw_S} {k q : Nat} : ∀ (f deep : Nat) (v : Int32) (s e : Nat), COV M k q f deep v s e → COV M k q (f + 1) deep v s e := by
  intro f
  induction f with
  | zero => intro deep v s e h; exact h.elim
  | succ f ih =>
    intro deep v s e h
    rcases h with h | ⟨h1, h2, h3, h4, m1, m2, p1, p2, p3, c1, c2, c3⟩
    · exact Or.inl h
    · exact Or.inr ⟨h1, h2, h3, h4, m1, m2, p1, p2, p3, ih _ _ _ _ c1, ih _ _ _ _ c2, ih _ _ _ _ c3⟩
theorem COV.le {M : mw_S} {k q f g deep : Nat} {v : Int32} {s e : Nat} (h : COV M k q f deep v s e) (hfg : f ≤ g) : COV M k q g deep v s e := by
  obtain ⟨i, rfl⟩ := Nat.le.dest hfg
  clear hfg
  induction i with
  | zero => exact h
  | succ i ih => exact COV.up _ _ _ _ _ ih
/-- with some fuel -/
def CV (M : mw_S) (k q deep : Nat) (v : Int32) (s e : Nat) : Prop := ∃ f, COV M k q f deep v s e
theorem CV.nil {M : mw_S} {k q deep s : Nat} : CV M k q deep (-1) s s := ⟨1, Or.inl ⟨rfl, rfl⟩⟩
theorem CV.same {M M' : mw_S} {k q deep : Nat} {v : Int32} {s e : Nat} (h : CV M k q deep v s e) (he : ∀ j i, s ≤ i → i < e → (14 ≤ j ∧ j ≤ 18 ∨ 80 ≤ j ∧ j ≤ 83) → M'.2.2.1 j i = M.2.2.1 j i) : CV M' k q deep v s e := by
  obtain ⟨f, h⟩ := h
  exact ⟨f, COV.same f deep v s e he h⟩
/-- an action with its parts -/
def ACT (M : mw_S) (k q deep a e : Nat) : Prop := act_ok M k q a ∧ dOk M deep a ∧ ∃ m1, a + 1 ≤ m1 ∧ m1 ≤ e ∧ CV M k q (deep + 1) (M.2.2.1 16 a) (a + 1) m1 ∧ CV M k q (deep + 1) (M.2.2.1 17 a) m1 e
theorem CV.cons {M : mw_S} {k q deep s m e : Nat} (hd : deep ≤ 6) (h1 : ACT M k q deep s m) (hm : m ≤ e) (h2 : CV M k q deep (M.2.2.1 18 s) m e) : CV M k q deep (nI s) s e := by
  obtain ⟨a1, a7, m1, a2, a3, ⟨f1, a4⟩, f2, a5⟩ := h1
  obtain ⟨f3, a6⟩ := h2
  exact ⟨f1 + f2 + f3 + 1, Or.inr ⟨rfl, by omega, ⟨hd, a7⟩, a1, m1, m, a2, a3, hm, a4.le (by omega), a5.le (by omega), a6.le (by omega)⟩⟩
section COVP
variable {tb : Nat → Nat} {n a0 t k q : Nat} {M : mw_S}
/-- what kp protects -/
theorem kp.V {a u : Nat} {tl : Int32} {M M' : mw_S} (h : kp a u tl M M') {j i : Nat} (hj : 14 ≤ j ∧ j ≤ 18 ∨ 80 ≤ j ∧ j ≤ 83) (hi : i < a) (ht : ¬ (j = 18 ∧ tl = nI i)) : M'.2.2.1 j i = M.2.2.1 j i := h.2.2.2 j i (Or.inr (Or.inl ⟨hj, hi, ht⟩))
theorem neg1 {i : Nat} (h : i < 4000) : ¬ (-1 : Int32) = nI i := fun e => absurd (show nI i < 0 by rw [← e]; decide) (nI_pos (by omega))
theorem kp.V1 {a u : Nat} {M M' : mw_S} (h : kp a u (-1) M M') {j i : Nat} (hj : 14 ≤ j ∧ j ≤ 18 ∨ 80 ≤ j ∧ j ≤ 83) (hi : i < a) (ha : a ≤ 4000) : M'.2.2.1 j i = M.2.2.1 j i := h.V hj hi (fun z => neg1 (by omega) z.2)
theorem pI.kA_ (h : pI tb n a0 M t) : M.1 13 = nI (ka M) ∧ a0 ≤ ka M ∧ ka M < 4000 := by
  obtain ⟨a, h1, h2, h3, h4, h5⟩ := h.a
  have e : ka M = a := h2
  rw [e]
  exact ⟨h1, h3, h5⟩
/-- what the reading of a block gives, with fuel f -/
def cvF (tb : Nat → Nat) (n a0 k q f : Nat) (F : pr_F) : Prop := ∀ (M : mw_S) (t deep : Nat) (hd tl : Int32), pI tb n a0 M t → n - qs tb n t < f → deep ≤ 6 → ¬ (F M t deep hd tl).1 = -2 →
  ka M ≤ ka (F M t deep hd tl).2.1 ∧ (tl = -1 → hd = -1 → CV (F M t deep hd tl).2.1 k q deep (F M t deep hd tl).1 (ka M) (ka (F M t deep hd tl).2.1)) ∧ (∀ y, tl = nI y → y < ka M → M.2.2.1 18 y = -1 → (F M t deep hd tl).1 = hd ∧ CV (F M t deep hd tl).2.1 k q deep ((F M t deep hd tl).2.1.2.2.1 18 y) (ka M) (ka (F M t deep hd tl).2.1))
theorem cvB {F : pr_F} {f deep : Nat} (hF : cvF tb n a0 k q f F) (hI : pI tb n a0 M t) (hf : n - qs tb n t ≤ f) (hr : ¬ (pB tb n F M t deep).1 = -2) : ka M ≤ ka (pB tb n F M t deep).2.1 ∧ deep ≤ 6 ∧ CV (pB tb n F M t deep).2.1 k q deep (pB tb n F M t deep).1 (ka M) (ka (pB tb n F M t deep).2.1) := by
  unfold pB at hr ⊢
  by_cases hc : cd tb n t = 4 ∧ deep ≤ 6
  · rw [if_pos hc] at hr ⊢
    have := qs_lt (tb := tb) (n := n) (t := t) (by omega)
    obtain ⟨h1, h2, -⟩ := hF _ _ _ _ _ hI.w (by omega) hc.2 hr
    exact ⟨h1, hc.2, h2 rfl rfl⟩
  · rw [if_neg hc] at hr; exact absurd rfl hr
theorem setV_ne {M : mw_S} {j i l y : Nat} {x : Int32} (h : ¬ (l = j ∧ y = i)) : (mw_setV M j i x).2.2.1 l y = M.2.2.1 l y := mw_u2_ne _ _ h
theorem setV_eq {M : mw_S} {j i : Nat} {x : Int32} : (mw_setV M j i x).2.2.1 j i = x := mw_u2_eq _ _ _ _
/-- the parts behind a number or try: action x's own cells, the first block, the second -/
theorem cvPt {F : pr_F} {f deep x : Nat} (hR : pRF tb n a0 f F) (hK : ∀ a u, kF tb n a0 f a u (-1) F) (hF : cvF tb n a0 k q f F) (hI : pI tb n a0 M t) (hf : n - qs tb n t ≤ f) (hx : ka M = x + 1) (hok : act_ok M k q x) (h18 : M.2.2.1 18 x = -1) (hr : ¬ (pPt tb n F M t x deep).1 = 0) : ka M ≤ ka (pPt tb n F M t x deep).2.1 ∧ ACT (pPt tb n F M t x deep).2.1 k q deep x (ka (pPt tb n F M t x deep).2.1) ∧ (pPt tb n F M t x deep).2.1.2.2.1 18 x = -1 := by
  have hka := hI.kA_
  have key1 := kB (M0 := M) (tl := -1) (hK (ka M) 0) hI hf (deep + 1) ⟨kp.refl M, Nat.le_refl _, Nat.zero_le _⟩
  unfold pPt pPt1 at hr ⊢
  have hB := cvB (k := k) (q := q) (deep := deep + 1) hF hI hf
  have hBp := pB_post hR hI hf (deep + 1)
  generalize pB tb n F M t (deep + 1) = r at hr hB hBp key1 ⊢
  by_cases h1 : r.1 = -2
  · rw [if_pos h1] at hr; exact absurd rfl hr
  · rw [if_neg h1] at hr ⊢
    obtain ⟨b1, b2, b3⟩ := hB h1
    obtain ⟨g1, g2⟩ := hBp.resolve_left h1
    have hq1 := qs_le_of (tb := tb) (n := n) g2
    have hq2 := qs_le_of (tb := tb) (n := n) (show t ≤ t + 1 by omega)
    have hkr := g1.kA_
    have gV := g1.sV (j := 16) (k := x) (x := r.1) rfl
    -- the memory with the first block
    have c1 : CV (mw_setV r.2.1 16 x r.1) k q (deep + 1) r.1 (x + 1) (ka r.2.1) := by
      rw [← hx]
      exact b3.same (fun j i a b c => setV_ne (by omega))
    have c2 : act_ok (mw_setV r.2.1 16 x r.1) k q x := by
      refine ⟨?_, ?_, ?_, ?_, ?_⟩
      · rw [setV_ne (by omega), key1.1.V1 (by omega) (by omega) (by omega)]; exact hok.1
      · rw [setV_ne (by omega), key1.1.V1 (by omega) (by omega) (by omega)]; exact hok.2.1
      · rw [setV_ne (by omega), setV_ne (by omega), key1.1.V1 (by omega) (by omega) (by omega), key1.1.V1 (by omega) (by omega) (by omega)]; exact hok.2.2.1
      · rw [setV_ne (by omega), key1.1.V1 (by omega) (by omega) (by omega)]; exact hok.2.2.2.1
      · rw [setV_ne (by omega), key1.1.V1 (by omega) (by omega) (by omega)]; exact hok.2.2.2.2
    have c3 : (mw_setV r.2.1 16 x r.1).2.2.1 16 x = r.1 := setV_eq
    have c4 : (mw_setV r.2.1 16 x r.1).2.2.1 18 x = -1 := by rw [setV_ne (by omega), key1.1.V1 (by omega) (by omega) (by omega)]; exact h18
    have ek : ka (mw_setV r.2.1 16 x r.1) = ka r.2.1 := rfl
    generalize mw_setV r.2.1 16 x r.1 = M1 at hr gV c1 c2 c3 c4 ek ⊢
    -- the second part
    have two : ∀ z : pr_T, ¬ z.1 = 0 → (z = pT tb n M1 r.2.2 30 ∨ z = pT tb n M1 r.2.2 31) → ¬ (pO2 x (pB tb n F z.2.1 z.2.2 (deep + 1))).1 = 0 → ka M ≤ ka (pO2 x (pB tb n F z.2.1 z.2.2 (deep + 1))).2.1 ∧ ACT (pO2 x (pB tb n F z.2.1 z.2.2 (deep + 1))).2.1 k q deep x (ka (pO2 x (pB tb n F z.2.1 z.2.2 (deep + 1))).2.1) ∧ (pO2 x (pB tb n F z.2.1 z.2.2 (deep + 1))).2.1.2.2.1 18 x = -1 := by
      intro z hz hzz hr2
      have gz : pI tb n a0 z.2.1 z.2.2 ∧ r.2.2 ≤ z.2.2 ∧ z.2.1.2.2.1 = M1.2.2.1 ∧ ka z.2.1 = ka M1 := by
        have e : ∀ c, z = pT tb n M1 r.2.2 c → pI tb n a0 z.2.1 z.2.2 ∧ r.2.2 ≤ z.2.2 ∧ z.2.1.2.2.1 = M1.2.2.1 ∧ ka z.2.1 = ka M1 := by
          intro c e
          subst e
          unfold pT at hz ⊢
          by_cases cc : cd tb n r.2.2 = c
          · rw [if_pos cc] at hz ⊢; exact ⟨gV.w, Nat.le_succ _, rfl, rfl⟩
          · rw [if_neg cc] at hz; exact absurd rfl hz
        rcases hzz with e1 | e1
        · exact e 30 e1
        · exact e 31 e1
      obtain ⟨z1, z2, z3, z4⟩ := gz
      have hq3 := qs_le_of (tb := tb) (n := n) z2
      have key2 := kB (M0 := z.2.1) (tl := -1) (hK (ka z.2.1) 0) z1 (by omega) (deep + 1) ⟨kp.refl _, Nat.le_refl _, Nat.zero_le _⟩
      have hB2 := cvB (k := k) (q := q) (deep := deep + 1) hF z1 (by omega)
      have hkz := z1.kA_
      generalize pB tb n F z.2.1 z.2.2 (deep + 1) = r2 at hr2 hB2 key2 ⊢
      have h2 : ¬ r2.1 = -2 := fun e => hr2 (if_pos e)
      obtain ⟨d1, d2, d3⟩ := hB2 h2
      have eV : ∀ j i, (14 ≤ j ∧ j ≤ 18 ∨ 80 ≤ j ∧ j ≤ 83) → i < ka M1 → ¬ (j = 17 ∧ i = x) → (mw_setV r2.2.1 17 x r2.1).2.2.1 j i = M1.2.2.1 j i := by
        intro j i hj hi hn
        rw [setV_ne hn, key2.1.V1 hj (by omega) (by omega), z3]
      refine ⟨by show ka M ≤ ka r2.2.1; omega, ⟨c2.same' ?_, fun _ => by omega, ka M1, by omega, by show ka M1 ≤ ka r2.2.1; omega, ?_, ?_⟩, ?_⟩
      · intro j hj hj2
        exact eV j x (by omega) (by omega) (by omega)
      · show CV (mw_setV r2.2.1 17 x r2.1) k q (deep + 1) ((mw_setV r2.2.1 17 x r2.1).2.2.1 16 x) (x + 1) (ka M1)
        rw [eV 16 x (by omega) (by omega) (by omega), c3, ek]
        exact c1.same (fun j i a b c => eV j i c (by omega) (by omega))
      · show CV (mw_setV r2.2.1 17 x r2.1) k q (deep + 1) ((mw_setV r2.2.1 17 x r2.1).2.2.1 17 x) (ka M1) (ka r2.2.1)
        rw [setV_eq, ← z4]
        exact d3.same (fun j i a b c => setV_ne (by omega))
      · exact (eV 18 x (by omega) (by omega) (by omega)).trans c4
    unfold pO at hr ⊢
    by_cases ht : M1.2.2.1 14 x = 10
    · rw [if_pos ht] at hr ⊢
      unfold pO1 at hr ⊢
      by_cases hz : (pT tb n M1 r.2.2 31).1 = 0
      · rw [if_pos hz] at hr; exact absurd hz hr
      · rw [if_neg hz] at hr ⊢; exact two _ hz (Or.inr rfl) hr
    · rw [if_neg ht] at hr ⊢
      by_cases he : cd tb n r.2.2 = 30
      · rw [if_pos he] at hr ⊢
        unfold pO1 at hr ⊢
        by_cases hz : (pT tb n M1 r.2.2 30).1 = 0
        · rw [if_pos hz] at hr; exact absurd hz hr
        · rw [if_neg hz] at hr ⊢; exact two _ hz (Or.inl rfl) hr
      · rw [if_neg he]
        refine ⟨by show ka M ≤ ka M1; omega, ⟨c2.same' (fun j hj hj2 => setV_ne (by omega)), fun _ => by omega, ka M1, by omega, Nat.le_refl _, ?_, ?_⟩, ?_⟩
        · show CV (mw_setV M1 17 x (-1)) k q (deep + 1) ((mw_setV M1 17 x (-1)).2.2.1 16 x) (x + 1) (ka M1)
          rw [setV_ne (by omega), c3, ek]
          exact c1.same (fun j i a b c => setV_ne (by omega))
        · show CV (mw_setV M1 17 x (-1)) k q (deep + 1) ((mw_setV M1 17 x (-1)).2.2.1 17 x) (ka M1) (ka M1)
          rw [setV_eq]
          exact CV.nil
        · exact (setV_ne (by omega)).trans c4
theorem pT_V {M : mw_S} {t c : Nat} : (pT tb n M t c).2.1.2.2.1 = M.2.2.1 ∧ ka (pT tb n M t c).2.1 = ka M := by
  unfold pT
  by_cases h : cd tb n t = c
  · rw [if_pos h]; exact ⟨rfl, rfl⟩
  · rw [if_neg h]; exact ⟨rfl, rfl⟩
/-- an action without parts -/
theorem ACT.leaf {deep x : Nat} (h1 : act_ok M k q x) (h2 : M.2.2.1 16 x = -1) (h3 : M.2.2.1 17 x = -1) (h4 : dOk M deep x) : ACT M k q deep x (x + 1) := ⟨h1, h4, x + 1, Nat.le_refl _, Nat.le_refl _, by rw [h2]; exact CV.nil, by rw [h3]; exact CV.nil⟩
/-- a new action's own cells -/
theorem pA0_V {deep : Nat} {o : Int32} : (pA0 tb n k q deep t o M).2.2.1 14 (ka M) = o ∧ (pA0 tb n k q deep t o M).2.2.1 15 (ka M) = 0 ∧ (pA0 tb n k q deep t o M).2.2.1 16 (ka M) = -1 ∧ (pA0 tb n k q deep t o M).2.2.1 17 (ka M) = -1 ∧ (pA0 tb n k q deep t o M).2.2.1 18 (ka M) = -1 ∧ (pA0 tb n k q deep t o M).2.2.1 81 (ka M) = nI k ∧ (pA0 tb n k q deep t o M).2.2.1 82 (ka M) = nI q ∧ (pA0 tb n k q deep t o M).2.2.1 83 (ka M) = nI (qs tb n t) := by
  have base : ∀ j, 14 ≤ j ∧ j ≤ 18 ∨ 80 ≤ j ∧ j ≤ 83 → (rm_gh (rm_action (mw_setS M 47 (M.1 47 + 1)) (M.1 13).toNatClampNeg o 0) (M.1 13).toNatClampNeg deep k q (qs tb n t)).2.2.1 j (ka M) = (pA0 tb n k q deep t o M).2.2.1 j (ka M) := by
    intro j hj
    unfold pA0
    by_cases z : o = 1 ∨ o = 8
    · rw [if_pos z]
      unfold rm_useG rm_use
      symm
      rw [setV_ne (by omega)]
      show (mw_setV _ 46 _ _).2.2.1 j (ka M) = _
      rw [setV_ne (by omega), setV_ne (by omega), setV_ne (by omega), setV_ne (by omega), setV_ne (by omega)]
    · rw [if_neg z]
  rw [← base 14 (by omega), ← base 15 (by omega), ← base 16 (by omega), ← base 17 (by omega), ← base 18 (by omega), ← base 81 (by omega), ← base 82 (by omega), ← base 83 (by omega)]
  unfold rm_gh rm_action ka
  refine ⟨?_, ?_, ?_, ?_, ?_, ?_, ?_, ?_⟩
  · rw [setV_ne (by omega), setV_ne (by omega), setV_ne (by omega), setV_ne (by omega)]
    show (mw_setV _ 18 _ _).2.2.1 14 _ = _
    rw [setV_ne (by omega), setV_ne (by omega), setV_ne (by omega), setV_ne (by omega), setV_eq]
  · rw [setV_ne (by omega), setV_ne (by omega), setV_ne (by omega), setV_ne (by omega)]
    show (mw_setV _ 18 _ _).2.2.1 15 _ = _
    rw [setV_ne (by omega), setV_ne (by omega), setV_ne (by omega), setV_eq]
  · rw [setV_ne (by omega), setV_ne (by omega), setV_ne (by omega), setV_ne (by omega)]
    show (mw_setV _ 18 _ _).2.2.1 16 _ = _
    rw [setV_ne (by omega), setV_ne (by omega), setV_eq]
  · rw [setV_ne (by omega), setV_ne (by omega), setV_ne (by omega), setV_ne (by omega)]
    show (mw_setV _ 18 _ _).2.2.1 17 _ = _
    rw [setV_ne (by omega), setV_eq]
  · rw [setV_ne (by omega), setV_ne (by omega), setV_ne (by omega), setV_ne (by omega)]
    show (mw_setV _ 18 _ _).2.2.1 18 _ = _
    rw [setV_eq]
  · rw [setV_ne (by omega), setV_ne (by omega), setV_eq]
  · rw [setV_ne (by omega), setV_eq]
  · rw [setV_eq]
theorem pA0_k (hI : pI tb n a0 M t) {deep : Nat} {o : Int32} : ka (pA0 tb n k q deep t o M) = ka M + 1 := by
  have h := hI.kA_
  have e : (pA0 tb n k q deep t o M).1 13 = nI (ka M + 1) := by
    unfold pA0
    by_cases z : o = 1 ∨ o = 8
    · rw [if_pos z]; rfl
    · rw [if_neg z]; rfl
  unfold ka at e ⊢
  rw [e, nI_clamp (by unfold ka at h; omega)]
theorem opI_v {c : Nat} (h : ¬ opI c = 0) : opI c = nI (c - 12) := by
  unfold opI at h ⊢
  by_cases z : 13 ≤ c ∧ c ≤ 22
  · rw [if_pos z]
  · rw [if_neg z] at h; exact absurd rfl h
theorem cvA {F : pr_F} {f deep : Nat} (hR : pRF tb n a0 f F) (hK : ∀ a u, kF tb n a0 f a u (-1) F) (hF : cvF tb n a0 k q f F) (hI : pI tb n a0 M t) (hf : n - qs tb n t ≤ f) (hr : ¬ (pA tb n F k q M t deep).1 = -1) : (pA tb n F k q M t deep).1 = nI (ka M) ∧ ka M + 1 ≤ ka (pA tb n F k q M t deep).2.1 ∧ ACT (pA tb n F k q M t deep).2.1 k q deep (ka M) (ka (pA tb n F k q M t deep).2.1) ∧ (pA tb n F k q M t deep).2.1.2.2.1 18 (ka M) = -1 := by
  obtain ⟨a, a1, a2, a3, -, -⟩ := (pA_post (k := k) (q := q) (deep := deep) hR hI hf).resolve_left hr
  have eka : ka M = a := by unfold ka; rw [a1, nI_clamp (by omega)]
  refine ⟨by rw [a3, eka], ?_⟩
  unfold pA at hr ⊢
  by_cases c0 : opI (cd tb n t) = 0
  · rw [if_pos c0] at hr; exact absurd rfl hr
  · rw [if_neg c0] at hr ⊢
    by_cases c60 : M.1 47 = 60
    · rw [if_pos c60] at hr; exact absurd rfl hr
    · rw [if_neg c60] at hr ⊢
      obtain ⟨h13, h22⟩ := opI_n c0
      have hov := opI_v c0
      have g := pA0_S (k := k) (q := q) (deep := deep) (o := opI (cd tb n t)) hI h13 h22 c60
      have hq1 := (qs_lt (tb := tb) (n := n) (t := t) (by omega)).2.1
      obtain ⟨v14, v15, v16, v17, v18, v81, v82, -⟩ := pA0_V (tb := tb) (n := n) (t := t) (k := k) (q := q) (M := M) (deep := deep) (o := opI (cd tb n t))
      have kk := pA0_k (k := k) (q := q) hI (deep := deep) (o := opI (cd tb n t))
      change ¬ (pA1 tb n F k q (opI (cd tb n t)) (pw tb n (pA0 tb n k q deep t (opI (cd tb n t)) M) t) (t + 1) (ka M) deep).1 = -1 at hr
      show ka M + 1 ≤ ka (pA1 tb n F k q (opI (cd tb n t)) (pw tb n (pA0 tb n k q deep t (opI (cd tb n t)) M) t) (t + 1) (ka M) deep).2.1 ∧ ACT (pA1 tb n F k q (opI (cd tb n t)) (pw tb n (pA0 tb n k q deep t (opI (cd tb n t)) M) t) (t + 1) (ka M) deep).2.1 k q deep (ka M) (ka (pA1 tb n F k q (opI (cd tb n t)) (pw tb n (pA0 tb n k q deep t (opI (cd tb n t)) M) t) (t + 1) (ka M) deep).2.1) ∧ (pA1 tb n F k q (opI (cd tb n t)) (pw tb n (pA0 tb n k q deep t (opI (cd tb n t)) M) t) (t + 1) (ka M) deep).2.1.2.2.1 18 (ka M) = -1
      have e14 : (pw tb n (pA0 tb n k q deep t (opI (cd tb n t)) M) t).2.2.1 = (pA0 tb n k q deep t (opI (cd tb n t)) M).2.2.1 := rfl
      have ek : ka (pw tb n (pA0 tb n k q deep t (opI (cd tb n t)) M) t) = ka M + 1 := kk
      rw [← e14] at v14 v15 v16 v17 v18 v81 v82
      generalize pw tb n (pA0 tb n k q deep t (opI (cd tb n t)) M) t = M1 at hr g v14 v15 v16 v17 v18 v81 v82 ek ⊢
      have hw : ∃ w, 1 ≤ w ∧ w ≤ 10 ∧ M1.2.2.1 14 (ka M) = nI w := ⟨cd tb n t - 12, by omega, by omega, by rw [v14, hov]⟩
      have ok0 : ¬ opI (cd tb n t) = 2 → ∀ M2 : mw_S, (∀ j, ¬ j = 15 → M2.2.2.1 j (ka M) = M1.2.2.1 j (ka M)) → (M2.2.2.1 15 (ka M) = -1 ∨ ∃ v, v ≤ 999 ∧ M2.2.2.1 15 (ka M) = nI v) → act_ok M2 k q (ka M) := by
        intro hn2 M2 e1 e2
        refine ⟨by rw [e1 14 (by omega)]; exact hw, e2, fun z => ?_, by rw [e1 81 (by omega)]; exact v81, by rw [e1 82 (by omega)]; exact v82⟩
        rw [e1 14 (by omega), v14] at z
        exact absurd z hn2
      have fin : ∀ (z : pr_T), ¬ (pE (ka M) z).1 = -1 → ¬ z.1 = 0 := fun z h e => h (if_pos e)
      unfold pA1 at hr ⊢
      by_cases c2 : opI (cd tb n t) = 2
      · rw [if_pos c2] at hr ⊢
        unfold pC at hr ⊢
        by_cases hc : hkI (cd tb n (t + 1)) < 0
        · rw [if_pos hc] at hr; exact absurd rfl hr
        · rw [if_neg hc] at hr ⊢
          obtain ⟨h7, h12, hk7⟩ := hkI_n hc
          have tv := pT_V (tb := tb) (n := n) (M := pw tb n (rm_useG (mw_setV (mw_setV M1 15 (ka M) (hkI (cd tb n (t + 1)))) 83 (ka M) (nI (qs tb n (t + 1)))) (ka M) (nI k) (nI q) 2 (hkI (cd tb n (t + 1)))) (t + 1)) (t := t + 1 + 1) (c := 6)
          have uv : ∀ j, 14 ≤ j ∧ j ≤ 18 ∨ 80 ≤ j ∧ j ≤ 82 → (pw tb n (rm_useG (mw_setV (mw_setV M1 15 (ka M) (hkI (cd tb n (t + 1)))) 83 (ka M) (nI (qs tb n (t + 1)))) (ka M) (nI k) (nI q) 2 (hkI (cd tb n (t + 1)))) (t + 1)).2.2.1 j (ka M) = (mw_setV M1 15 (ka M) (hkI (cd tb n (t + 1)))).2.2.1 j (ka M) := by
            intro j hj
            show (rm_useG _ _ _ _ _ _).2.2.1 j (ka M) = _
            unfold rm_useG rm_use
            rw [setV_ne (by omega)]
            show (mw_setV _ 46 _ _).2.2.1 j (ka M) = _
            rw [setV_ne (by omega), setV_ne (by omega), setV_ne (by omega), setV_ne (by omega), setV_ne (by omega), setV_ne (by omega)]
          have uk : ka (pw tb n (rm_useG (mw_setV (mw_setV M1 15 (ka M) (hkI (cd tb n (t + 1)))) 83 (ka M) (nI (qs tb n (t + 1)))) (ka M) (nI k) (nI q) 2 (hkI (cd tb n (t + 1)))) (t + 1)) = ka M1 := rfl
          generalize pw tb n (rm_useG (mw_setV (mw_setV M1 15 (ka M) (hkI (cd tb n (t + 1)))) 83 (ka M) (nI (qs tb n (t + 1)))) (ka M) (nI k) (nI q) 2 (hkI (cd tb n (t + 1)))) (t + 1) = M2 at hr tv uv uk ⊢
          have ok2 : act_ok M2 k q (ka M) := by
            refine ⟨?_, Or.inr ⟨cd tb n (t + 1) - 7, by omega, ?_⟩, fun _ => ⟨cd tb n (t + 1) - 7, by omega, ?_⟩, ?_, ?_⟩
            · rw [uv 14 (by omega), setV_ne (by omega)]; exact hw
            · rw [uv 15 (by omega), setV_eq, hk7]
            · rw [uv 15 (by omega), setV_eq, hk7]
            · rw [uv 81 (by omega), setV_ne (by omega)]; exact v81
            · rw [uv 82 (by omega), setV_ne (by omega)]; exact v82
          have w16 : M2.2.2.1 16 (ka M) = -1 := by rw [uv 16 (by omega), setV_ne (by omega)]; exact v16
          have w17 : M2.2.2.1 17 (ka M) = -1 := by rw [uv 17 (by omega), setV_ne (by omega)]; exact v17
          have w18 : M2.2.2.1 18 (ka M) = -1 := by rw [uv 18 (by omega), setV_ne (by omega)]; exact v18
          show ka M + 1 ≤ ka (pT tb n M2 (t + 1 + 1) 6).2.1 ∧ ACT (pT tb n M2 (t + 1 + 1) 6).2.1 k q deep (ka M) (ka (pT tb n M2 (t + 1 + 1) 6).2.1) ∧ (pT tb n M2 (t + 1 + 1) 6).2.1.2.2.1 18 (ka M) = -1
          rw [tv.2, tv.1, uk, ek]
          refine ⟨Nat.le_refl _, ?_, w18⟩
          have w14 : M2.2.2.1 14 (ka M) = 2 := by rw [uv 14 (by omega), setV_ne (by omega), v14]; exact c2
          exact ACT.leaf (ok2.same (fun j _ => by rw [tv.1])) (by rw [tv.1]; exact w16) (by rw [tv.1]; exact w17) (dOk.of (by rw [tv.1, w14]; decide) (by rw [tv.1, w14]; decide))
      · rw [if_neg c2] at hr ⊢
        have leaf : ∀ (M2 : mw_S) (t2 : Nat), act_ok M2 k q (ka M) → M2.2.2.1 16 (ka M) = -1 → M2.2.2.1 17 (ka M) = -1 → M2.2.2.1 18 (ka M) = -1 → ka M2 = ka M + 1 → dOk M2 deep (ka M) → ka M + 1 ≤ ka (pE (ka M) (pT tb n M2 t2 6)).2.1 ∧ ACT (pE (ka M) (pT tb n M2 t2 6)).2.1 k q deep (ka M) (ka (pE (ka M) (pT tb n M2 t2 6)).2.1) ∧ (pE (ka M) (pT tb n M2 t2 6)).2.1.2.2.1 18 (ka M) = -1 := by
          intro M2 t2 b1 b2 b3 b4 b5 b6
          have tv := pT_V (tb := tb) (n := n) (M := M2) (t := t2) (c := 6)
          show ka M + 1 ≤ ka (pT tb n M2 t2 6).2.1 ∧ ACT (pT tb n M2 t2 6).2.1 k q deep (ka M) (ka (pT tb n M2 t2 6).2.1) ∧ (pT tb n M2 t2 6).2.1.2.2.1 18 (ka M) = -1
          rw [tv.2, tv.1, b5]
          exact ⟨Nat.le_refl _, ACT.leaf (b1.same (fun j _ => by rw [tv.1])) (by rw [tv.1]; exact b2) (by rw [tv.1]; exact b3) (b6.same (by rw [tv.1])), b4⟩
        have parts : ∀ (M2 : mw_S) (t2 : Nat), pI tb n a0 M2 t2 → t + 1 ≤ t2 → act_ok M2 k q (ka M) → M2.2.2.1 18 (ka M) = -1 → ka M2 = ka M + 1 → ¬ (pE (ka M) (pPt tb n F M2 t2 (ka M) deep)).1 = -1 → ka M + 1 ≤ ka (pE (ka M) (pPt tb n F M2 t2 (ka M) deep)).2.1 ∧ ACT (pE (ka M) (pPt tb n F M2 t2 (ka M) deep)).2.1 k q deep (ka M) (ka (pE (ka M) (pPt tb n F M2 t2 (ka M) deep)).2.1) ∧ (pE (ka M) (pPt tb n F M2 t2 (ka M) deep)).2.1.2.2.1 18 (ka M) = -1 := by
          intro M2 t2 b0 bt b1 b2 b3 b4
          have hq2 := qs_le_of (tb := tb) (n := n) bt
          have := cvPt (deep := deep) hR hK hF b0 (by omega) b3 b1 b2 (fin _ b4)
          rw [b3] at this
          exact this
        by_cases c1 : opI (cd tb n t) = 1
        · rw [if_pos c1]
          exact leaf M1 (t + 1) (ok0 c2 M1 (fun _ _ => rfl) (Or.inr ⟨0, by omega, v15⟩)) v16 v17 v18 ek (dOk.of (by rw [v14, c1]; decide) (by rw [v14, c1]; decide))
        · rw [if_neg c1] at hr ⊢
          by_cases c10 : opI (cd tb n t) = 10
          · rw [if_pos c10] at hr ⊢
            exact parts M1 (t + 1) g (Nat.le_refl _) (ok0 c2 M1 (fun _ _ => rfl) (Or.inr ⟨0, by omega, v15⟩)) v18 ek hr
          · rw [if_neg c10] at hr ⊢
            have hnp := pNum_post g (ka M)
            have nv : ¬ (pNum tb n M1 (t + 1) (ka M)).1 = 0 → (∀ j, ¬ j = 15 → (pNum tb n M1 (t + 1) (ka M)).2.1.2.2.1 j (ka M) = M1.2.2.1 j (ka M)) ∧ ((pNum tb n M1 (t + 1) (ka M)).2.1.2.2.1 15 (ka M) = -1 ∨ ∃ v, v ≤ 999 ∧ (pNum tb n M1 (t + 1) (ka M)).2.1.2.2.1 15 (ka M) = nI v) ∧ ka (pNum tb n M1 (t + 1) (ka M)).2.1 = ka M1 := by
              intro z
              unfold pNum at z ⊢
              by_cases x1 : cd tb n (t + 1) = 32
              · rw [if_pos x1]
                exact ⟨fun j hj => setV_ne (by omega), Or.inl setV_eq, rfl⟩
              · rw [if_neg x1] at z ⊢
                by_cases x2 : cd tb n (t + 1) = 3
                · rw [if_pos x2]
                  exact ⟨fun j hj => setV_ne (by omega), Or.inr ⟨nu tb n (t + 1), nu_le x2, setV_eq⟩, rfl⟩
                · rw [if_neg x2] at z; exact absurd rfl z
            unfold pA2 at hr ⊢
            generalize pNum tb n M1 (t + 1) (ka M) = z at hr hnp nv ⊢
            by_cases hz : z.1 = 0
            · rw [if_pos hz] at hr; exact absurd rfl hr
            · rw [if_neg hz] at hr ⊢
              obtain ⟨-, z1, z2⟩ := hnp.resolve_left hz
              obtain ⟨y1, y2, y3⟩ := nv hz
              have okz := ok0 c2 z.2.1 y1 y2
              have z16 := (y1 16 (by omega)).trans v16
              have z17 := (y1 17 (by omega)).trans v17
              have z18 := (y1 18 (by omega)).trans v18
              by_cases c9 : opI (cd tb n t) = 9
              · rw [if_pos c9] at hr ⊢
                exact parts z.2.1 z.2.2 z1 (by omega) okz z18 (y3.trans ek) hr
              · rw [if_neg c9]
                exact leaf z.2.1 z.2.2 okz z16 z17 z18 (y3.trans ek) (dOk.of (by rw [y1 14 (by omega), v14]; exact c9) (by rw [y1 14 (by omega), v14]; exact c10))
theorem cvL : ∀ f, cvF tb n a0 k q f (pL tb n k q f) := by
  intro f
  induction f with
  | zero => intro M t deep hd tl _ hf; omega
  | succ f ih =>
    intro M t deep hd tl hI hf hd6 hr
    have ee : pL tb n k q (f + 1) M t deep hd tl = (if cd tb n t = 5 then (hd, pw tb n M t, t + 1) else pN (pL tb n k q f) deep hd tl (pA tb n (pL tb n k q f) k q M t deep)) := rfl
    rw [ee] at hr ⊢
    by_cases c5 : cd tb n t = 5
    · rw [if_pos c5] at hr ⊢
      refine ⟨Nat.le_refl _, fun e1 e2 => ?_, fun y e1 e2 e3 => ⟨rfl, ?_⟩⟩
      · show CV (pw tb n M t) k q deep hd (ka M) (ka M)
        rw [e2]; exact CV.nil
      · show CV (pw tb n M t) k q deep (M.2.2.1 18 y) (ka M) (ka M)
        rw [e3]; exact CV.nil
    · rw [if_neg c5] at hr ⊢
      have hA := cvA (k := k) (q := q) (deep := deep) (pL_post k q f) (fun a u => kL k q f) ih hI (by omega)
      have hAp := pA_post (k := k) (q := q) (deep := deep) (pL_post k q f) hI (by omega)
      have kpA := kA (M0 := M) (tl := -1) (a := ka M) (u := 0) (k := k) (q := q) (deep := deep) (pL_post k q f) (kL k q f) hI (by omega) ⟨kp.refl M, Nat.le_refl _, Nat.zero_le _⟩
      have hka := hI.kA_
      unfold pN at hr ⊢
      generalize pA tb n (pL tb n k q f) k q M t deep = r at hr hA hAp kpA ⊢
      by_cases c0 : 0 ≤ r.1
      · rw [if_pos c0] at hr ⊢
        have hne : ¬ r.1 = -1 := fun e => by rw [e] at c0; exact absurd c0 (by decide)
        obtain ⟨x1, x2, x3, x4⟩ := hA hne
        obtain ⟨a, a1, a2, a3, ⟨g1, g2⟩, hlt⟩ := hAp.resolve_left hne
        have hq1 := qs_le_of (tb := tb) (n := n) g2
        have hq2 := qs_le (tb := tb) (n := n) r.2.2
        have hkr := g1.kA_
        have ext : ∀ (M1 M2 : mw_S), (∀ j i, (14 ≤ j ∧ j ≤ 18 ∨ 80 ≤ j ∧ j ≤ 83) → i < ka r.2.1 → ¬ (j = 18 ∧ i = ka M) → M2.2.2.1 j i = r.2.1.2.2.1 j i) → ACT M2 k q deep (ka M) (ka r.2.1) := by
          intro M1 M2 h
          obtain ⟨b1, b6, m1, b2, b3, b4, b5⟩ := x3
          refine ⟨b1.same' (fun j hj _ => h j _ (by omega) (by omega) (by omega)), b6.same (h 14 _ (by omega) (by omega) (by omega)), m1, b2, b3, ?_, ?_⟩
          · rw [h 16 _ (by omega) (by omega) (by omega)]
            exact b4.same (fun j i e1 e2 e3 => h j i e3 (by omega) (by omega))
          · rw [h 17 _ (by omega) (by omega) (by omega)]
            exact b5.same (fun j i e1 e2 e3 => h j i e3 (by omega) (by omega))
        by_cases ct : tl < 0
        · rw [if_pos ct] at hr ⊢
          have kp2 := kL (M0 := r.2.1) (tb := tb) (n := n) (a0 := a0) (a := ka r.2.1) (u := 0) (tl := r.1) k q f r.2.1 r.2.2 deep r.1 r.1 g1 (by omega) (Or.inr (Or.inl rfl)) ⟨kp.refl _, Nat.le_refl _, Nat.zero_le _⟩
          obtain ⟨y1, y2, y3⟩ := ih r.2.1 r.2.2 deep r.1 r.1 g1 (by omega) hd6 hr
          obtain ⟨z1, z2⟩ := y3 (ka M) x1 (by omega) x4
          generalize pL tb n k q f r.2.1 r.2.2 deep r.1 r.1 = R at hr kp2 y1 z1 z2 ⊢
          refine ⟨by omega, fun _ _ => ?_, fun y e1 e2 e3 => ?_⟩
          · rw [z1, x1]
            exact CV.cons hd6 (ext M R.2.1 (fun j i e1 e2 e3 => kp2.1.V e1 e2 (fun z => e3 ⟨z.1, by
              have := z.2
              rw [x1] at this
              exact ((nI_eq (by omega) (by omega)).mp this).symm⟩))) y1 z2
          · rw [e1] at ct; exact absurd ct (nI_pos (by omega))
        · rw [if_neg ct] at hr ⊢
          refine ⟨?_, fun e1 _ => ?_, fun y e1 e2 e3 => ?_⟩
          · have y1 := (ih _ r.2.2 deep hd r.1 (g1.sV (j := 18) (k := tl.toNatClampNeg) (x := r.1) rfl) (by omega) hd6 hr).1
            have : ka r.2.1 ≤ _ := y1
            omega
          · rw [e1] at ct; exact absurd (by decide) ct
          · subst e1
            rw [nI_clamp (by omega)] at hr ⊢
            have gV := g1.sV (j := 18) (k := y) (x := r.1) rfl
            have hny : ¬ y = ka M := by omega
            have kp2 := kL (M0 := mw_setV r.2.1 18 y r.1) (tb := tb) (n := n) (a0 := a0) (a := ka r.2.1) (u := 0) (tl := r.1) k q f (mw_setV r.2.1 18 y r.1) r.2.2 deep hd r.1 gV (by omega) (Or.inr (Or.inl rfl)) ⟨kp.refl _, Nat.le_refl _, Nat.zero_le _⟩
            obtain ⟨y1, y2, y3⟩ := ih (mw_setV r.2.1 18 y r.1) r.2.2 deep hd r.1 gV (by omega) hd6 hr
            obtain ⟨z1, z2⟩ := y3 (ka M) x1 (by show ka M < ka r.2.1; omega) (by rw [setV_ne (by omega)]; exact x4)
            generalize pL tb n k q f (mw_setV r.2.1 18 y r.1) r.2.2 deep hd r.1 = R at hr kp2 y1 z1 z2 ⊢
            refine ⟨z1, ?_⟩
            have e18 : R.2.1.2.2.1 18 y = nI (ka M) := by
              rw [kp2.1.V (by omega) (by omega) (fun z => by
                have := z.2
                rw [x1] at this
                have := (nI_eq (by omega) (by omega)).mp this
                omega), setV_eq, x1]
            rw [e18]
            refine CV.cons hd6 (m := ka r.2.1) ?_ y1 z2
            obtain ⟨b1, b6, m1, b2, b3, b4, b5⟩ := x3
            have h : ∀ j i, (14 ≤ j ∧ j ≤ 18 ∨ 80 ≤ j ∧ j ≤ 83) → ka M ≤ i → i < ka r.2.1 → ¬ (j = 18 ∧ i = ka M) → R.2.1.2.2.1 j i = r.2.1.2.2.1 j i := by
              intro j i e1 e4 e5 e6
              rw [kp2.1.V e1 e5 (fun z => e6 ⟨z.1, by
                have := z.2
                rw [x1] at this
                exact ((nI_eq (by omega) (by omega)).mp this).symm⟩), setV_ne (by omega)]
            refine ⟨b1.same' (fun j hj _ => h j _ (by omega) (by omega) (by omega) (by omega)), b6.same (h 14 _ (by omega) (by omega) (by omega) (by omega)), m1, b2, b3, ?_, ?_⟩
            · rw [h 16 _ (by omega) (by omega) (by omega) (by omega)]
              exact b4.same (fun j i e1 e4 e5 => h j i e5 (by omega) (by omega) (by omega))
            · rw [h 17 _ (by omega) (by omega) (by omega) (by omega)]
              exact b5.same (fun j i e1 e4 e5 => h j i e5 (by omega) (by omega) (by omega))
      · rw [if_neg c0] at hr; exact absurd rfl hr
end COVP
