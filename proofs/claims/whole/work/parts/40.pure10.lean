/-! reading keeps its bounds -/
def pI (tb : Nat → Nat) (n a0 : Nat) (M : mw_S) (t : Nat) : Prop := pP tb n M t ∧ M.1 30 = 1 ∧ 2 * a0 + n ≤ 4200 ∧ (∃ a, M.1 13 = nI a ∧ a0 ≤ a ∧ 2 * a ≤ 2 * a0 + qs tb n t) ∧ (∃ u, M.1 41 = nI u ∧ u ≤ qs tb n t) ∧ (∃ b, M.1 47 = nI b ∧ b < 2 ^ 32) ∧ ∃ b, M.1 37 = nI b ∧ b ≤ qs tb n t
theorem n47 (x : Int32) : ∃ b, x = nI b ∧ b < 2 ^ 32 := by
  refine ⟨x.toBitVec.toNat, ?_, x.toBitVec.isLt⟩
  rw [← Int32.toBitVec_inj]
  show x.toBitVec = BitVec.ofNat 32 x.toBitVec.toNat
  rw [BitVec.ofNat_toNat]
  simp
theorem mw_W.gh {m : Nat} {ad : Nat → Nat} {h0 h : mm_H} {M : mw_S} (hW : mw_W m ad h0 M h) {j i : Nat} {x : Int32} (hj : Nat.ble 74 j = true) : mw_W m ad h0 (mw_setV M j i x) h := by
  have hj := Nat.le_of_ble_eq_true hj
  obtain ⟨w1, w2, w3, w4, w5, w6, w7, w8, w9, w10⟩ := hW
  refine ⟨w1, fun l hl hk => ?_, w3, w4, w5, w6, w7, w8, w9, mw_BV w10 (fun z => ?_)⟩
  · rw [mw_cVne (by omega)]
    exact w2 l hl hk
  · unfold mw_k at z
    rw [List.getD_eq_getElem?_getD, List.getElem?_eq_none (by show mw_tab.length ≤ j; exact hj)] at z
    cases z
theorem mw_W.gh4 {m : Nat} {ad : Nat → Nat} {h0 h : mm_H} {M : mw_S} {a deep k q p : Nat} (hW : mw_W m ad h0 M h) : mw_W m ad h0 (rm_gh M a deep k q p) h := (((hW.gh rfl).gh rfl).gh rfl).gh rfl
section PI
variable {tb : Nat → Nat} {n a0 t : Nat} {M : mw_S}
theorem pI.n7 (h : pI tb n a0 M t) : n ≤ 700 := h.1.2.1
/-- what reading looks at -/
theorem pI.same {M' : mw_S} (h : pI tb n a0 M t) (h1 : M'.1 = M.1) (h2 : M'.2.2.1 0 = M.2.2.1 0) : pI tb n a0 M' t := by
  obtain ⟨p1, p2, p3, p4, p5, p6, p7⟩ := h
  exact ⟨p1.same (by rw [h1]) (by rw [h1]) (by rw [h1]) (by rw [h1]) (by rw [h1]) h2, by rw [h1]; exact p2, p3, by rw [h1]; exact p4, by rw [h1]; exact p5, by rw [h1]; exact p6, by rw [h1]; exact p7⟩
theorem V0 {M : mw_S} {j k : Nat} {x : Int32} (hj : Nat.ble 1 j = true) : (mw_setV M j k x).2.2.1 0 = M.2.2.1 0 := by
  funext i
  have := Nat.le_of_ble_eq_true hj
  exact mw_u2_ne _ _ (by omega)
theorem pI.sV (h : pI tb n a0 M t) {j k : Nat} {x : Int32} (hj : Nat.ble 1 j = true) : pI tb n a0 (mw_setV M j k x) t := h.same rfl (V0 hj)
theorem pI.w (h : pI tb n a0 M t) : pI tb n a0 (pw tb n M t) (t + 1) := by
  obtain ⟨p1, p2, p3, ⟨a, p4, p5, p6⟩, ⟨u, p7, p8⟩, p9, b, p10, p11⟩ := h
  have h1 := (qe_b (tb := tb) (n := n) t).1
  have h2 := qs_s (tb := tb) (n := n) t
  exact ⟨p1.w, p2, p3, ⟨a, p4, p5, by omega⟩, ⟨u, p7, by omega⟩, p9, b, p10, by omega⟩
theorem qs_mono : ∀ (i t : Nat), qs tb n t ≤ qs tb n (t + i) := by
  intro i
  induction i with
  | zero => intro t; exact Nat.le_refl _
  | succ i ih =>
    intro t
    have h1 := (qe_b (tb := tb) (n := n) (t + i)).1
    have h2 := qs_s (tb := tb) (n := n) (t + i)
    have := ih t
    exact Nat.le_trans this (Nat.le_trans h1 h2)
theorem qs_le_of {t' : Nat} (h : t ≤ t') : qs tb n t ≤ qs tb n t' := by
  obtain ⟨i, rfl⟩ := Nat.le.dest h
  exact qs_mono i t
/-- read on, and all is well -/
def pG (tb : Nat → Nat) (n a0 t : Nat) (r : pr_T) : Prop := pI tb n a0 r.2.1 r.2.2 ∧ t ≤ r.2.2
theorem pT_post (h : pI tb n a0 M t) (c : Nat) : ((pT tb n M t c).1 = 0 ∧ ¬ cd tb n t = c) ∨ ((pT tb n M t c).1 = 1 ∧ cd tb n t = c ∧ pG tb n a0 (t + 1) (pT tb n M t c)) := by
  unfold pT
  by_cases hc : cd tb n t = c
  · rw [if_pos hc]
    exact Or.inr ⟨rfl, hc, h.w, Nat.le_refl _⟩
  · rw [if_neg hc]
    exact Or.inl ⟨rfl, hc⟩
theorem pNum_post (h : pI tb n a0 M t) (x : Nat) : (pNum tb n M t x).1 = 0 ∨ ((pNum tb n M t x).1 = 1 ∧ pG tb n a0 (t + 1) (pNum tb n M t x)) := by
  unfold pNum
  by_cases hc : cd tb n t = 32
  · rw [if_pos hc]
    exact Or.inr ⟨rfl, (h.sV rfl).w, Nat.le_refl _⟩
  · rw [if_neg hc]
    by_cases h3 : cd tb n t = 3
    · rw [if_pos h3]
      exact Or.inr ⟨rfl, (h.sV rfl).w, Nat.le_refl _⟩
    · rw [if_neg h3]
      exact Or.inl rfl
/-- what the reading of a block keeps to, with fuel f -/
def pRF (tb : Nat → Nat) (n a0 f : Nat) (F : pr_F) : Prop := ∀ (M : mw_S) (t deep : Nat) (hd tl : Int32), pI tb n a0 M t → n - qs tb n t < f → (F M t deep hd tl).1 = -2 ∨ pG tb n a0 t (F M t deep hd tl)
theorem pB_post {F : pr_F} {f : Nat} (hF : pRF tb n a0 f F) (h : pI tb n a0 M t) (hf : n - qs tb n t ≤ f) (deep : Nat) : (pB tb n F M t deep).1 = -2 ∨ pG tb n a0 (t + 1) (pB tb n F M t deep) := by
  unfold pB
  by_cases hc : cd tb n t = 4 ∧ deep ≤ 6
  · rw [if_pos hc]
    have := qs_lt (tb := tb) (n := n) (t := t) (by omega)
    exact hF _ _ _ _ _ h.w (by omega)
  · rw [if_neg hc]
    exact Or.inl rfl
theorem pG.mono {r : pr_T} {t' : Nat} (h : pG tb n a0 t' r) (ht : t ≤ t') : pG tb n a0 t r := ⟨h.1, Nat.le_trans ht h.2⟩
theorem pO2_post {r : pr_T} {x : Nat} (h : r.1 = -2 ∨ pG tb n a0 t r) : (pO2 x r).1 = 0 ∨ ((pO2 x r).1 = 1 ∧ pG tb n a0 t (pO2 x r)) := by
  unfold pO2
  by_cases hc : r.1 = -2
  · exact Or.inl (if_pos hc)
  · exact Or.inr ⟨if_neg hc, (h.resolve_left hc).1.sV rfl, (h.resolve_left hc).2⟩
theorem pO1_post {F : pr_F} {f x deep : Nat} {r : pr_T} (hF : pRF tb n a0 f F) (h : r.1 = 0 ∨ (r.1 = 1 ∧ pG tb n a0 t r)) (hf : n - qs tb n t ≤ f) : (pO1 tb n F x deep r).1 = 0 ∨ ((pO1 tb n F x deep r).1 = 1 ∧ pG tb n a0 t (pO1 tb n F x deep r)) := by
  unfold pO1
  by_cases hc : r.1 = 0
  · rw [if_pos hc]; exact Or.inl hc
  · rw [if_neg hc]
    obtain ⟨-, g1, g2⟩ := h.resolve_left hc
    have := qs_le_of (tb := tb) (n := n) g2
    exact pO2_post ((pB_post hF g1 (by omega) (deep + 1)).imp id (fun z => z.mono (by omega)))
theorem pO_post {F : pr_F} {f x deep : Nat} (hF : pRF tb n a0 f F) (h : pI tb n a0 M t) (hf : n - qs tb n t ≤ f) : (pO tb n F M t x deep).1 = 0 ∨ ((pO tb n F M t x deep).1 = 1 ∧ pG tb n a0 t (pO tb n F M t x deep)) := by
  unfold pO
  by_cases h1 : M.2.2.1 14 x = 10
  · rw [if_pos h1]
    exact pO1_post hF ((pT_post h 31).imp (fun z => z.1) (fun z => ⟨z.1, z.2.2.mono (by omega)⟩)) hf
  · rw [if_neg h1]
    by_cases h2 : cd tb n t = 30
    · rw [if_pos h2]
      exact pO1_post hF ((pT_post h 30).imp (fun z => z.1) (fun z => ⟨z.1, z.2.2.mono (by omega)⟩)) hf
    · rw [if_neg h2]
      exact Or.inr ⟨rfl, h.sV rfl, Nat.le_refl _⟩
theorem pPt_post {F : pr_F} {f x deep : Nat} (hF : pRF tb n a0 f F) (h : pI tb n a0 M t) (hf : n - qs tb n t ≤ f) : (pPt tb n F M t x deep).1 = 0 ∨ ((pPt tb n F M t x deep).1 = 1 ∧ pG tb n a0 t (pPt tb n F M t x deep)) := by
  unfold pPt pPt1
  by_cases h1 : (pB tb n F M t (deep + 1)).1 = -2
  · rw [if_pos h1]; exact Or.inl rfl
  · rw [if_neg h1]
    obtain ⟨g1, g2⟩ := (pB_post hF h hf (deep + 1)).resolve_left h1
    have := qs_le_of (tb := tb) (n := n) g2
    have := qs_le_of (tb := tb) (n := n) (show t ≤ t + 1 by omega)
    exact (pO_post hF (g1.sV rfl) (by omega)).imp id (fun z => ⟨z.1, z.2.mono (by omega)⟩)
theorem pE_post {a : Nat} {r : pr_T} (ha : a < 4000) (h : r.1 = 0 ∨ (r.1 = 1 ∧ pG tb n a0 t r)) : (pE a r).1 = -1 ∨ ((pE a r).1 = nI a ∧ pG tb n a0 t (pE a r)) := by
  unfold pE
  rcases h with h | h
  · exact Or.inl (if_pos h)
  · exact Or.inr ⟨if_neg (by rw [h.1]; decide), h.2⟩
theorem pI.a (h : pI tb n a0 M t) : ∃ a, M.1 13 = nI a ∧ (M.1 13).toNatClampNeg = a ∧ a0 ≤ a ∧ 2 * a ≤ 2 * a0 + qs tb n t ∧ a < 4000 := by
  obtain ⟨p1, p2, p3, ⟨a, p4, p5, p6⟩, -⟩ := h
  have := qs_le (tb := tb) (n := n) t
  exact ⟨a, p4, by rw [p4, nI_clamp (by omega)], p5, p6, by omega⟩
theorem pI.u (h : pI tb n a0 M t) : ∃ u, M.1 41 = nI u ∧ (M.1 41).toNatClampNeg = u ∧ u ≤ qs tb n t ∧ u ≤ 700 := by
  obtain ⟨p1, p2, p3, -, ⟨u, p4, p5⟩, -⟩ := h
  have := qs_le (tb := tb) (n := n) t
  have := p1.2.1
  exact ⟨u, p4, by rw [p4, nI_clamp (by omega)], p5, by omega⟩
theorem rm_useG_S {M : mw_S} {a : Nat} {k q o c : Int32} : (rm_useG M a k q o c).1 = mw_u M.1 41 (nI ((M.1 41).toNatClampNeg + 1)) := rfl
theorem rm_useG_0 {M : mw_S} {a : Nat} {k q o c : Int32} : (rm_useG M a k q o c).2.2.1 0 = M.2.2.1 0 := by
  unfold rm_useG rm_use
  exact (V0 rfl).trans ((V0 rfl).trans ((V0 rfl).trans ((V0 rfl).trans ((V0 rfl).trans (V0 rfl)))))
/-- a use, and the word behind it -/
theorem pI.use (h : pI tb n a0 M t) (hc : 2 ≤ cd tb n t) {a : Nat} {k q o c : Int32} : pI tb n a0 (pw tb n (rm_useG M a k q o c) t) (t + 1) := by
  obtain ⟨u, q1, q2, q3, -⟩ := h.u
  have hlt := (qs_lt hc).2.1
  obtain ⟨p1, p2, p3, ⟨a1, p4, p5, p6⟩, -, p9, b, p10, p11⟩ := h
  refine ⟨(p1.same (M' := rm_useG M a k q o c) rfl rfl rfl rfl rfl rm_useG_0).w, p2, p3, ⟨a1, p4, p5, by omega⟩, ⟨u + 1, ?_, by omega⟩, p9, b, p10, by omega⟩
  · show nI ((M.1 41).toNatClampNeg + 1) = _
    rw [q2]
theorem pC_post {k q a : Nat} (h : pI tb n a0 M t) (ha : a < 4000) : (pC tb n k q M t a).1 = -1 ∨ ((pC tb n k q M t a).1 = nI a ∧ pG tb n a0 t (pC tb n k q M t a)) := by
  unfold pC
  by_cases hc : hkI (cd tb n t) < 0
  · rw [if_pos hc]; exact Or.inl rfl
  · rw [if_neg hc]
    have h7 : 7 ≤ cd tb n t := by
      unfold hkI at hc
      by_cases z : 7 ≤ cd tb n t ∧ cd tb n t ≤ 12
      · exact z.1
      · rw [if_neg z] at hc; exact absurd (by decide) hc
    exact pE_post ha ((pT_post (((h.sV rfl).sV rfl).use (by omega)) 6).imp (fun z => z.1) (fun z => ⟨z.1, z.2.2.mono (by omega)⟩))
theorem pA0_S {k q deep : Nat} {o : Int32} (h : pI tb n a0 M t) (h13 : 13 ≤ cd tb n t) (h22 : cd tb n t ≤ 22) (h60 : ¬ M.1 47 = 60) : pI tb n a0 (pw tb n (pA0 tb n k q deep t o M) t) (t + 1) := by
  obtain ⟨a, q1, q2, q3, q4, q5⟩ := h.a
  have hop := qs_op h13 h22
  have hn7 := h.n7
  -- behind the action itself, at the next word but one: told at t with the count of t + 1
  have base : ∀ (M1 : mw_S), M1.1 13 = nI (a + 1) → M1.1 47 = M.1 47 + 1 → (∀ j, ¬ j = 13 → ¬ j = 47 → ¬ j = 41 → M1.1 j = M.1 j) → (∃ u, M1.1 41 = nI u ∧ u ≤ qs tb n (t + 1)) → M1.2.2.1 0 = M.2.2.1 0 → pI tb n a0 (pw tb n M1 t) (t + 1) := by
    intro M1 e1 e2 e3 e4 e5
    obtain ⟨p1, p2, p3, -, -, -, b', p10, p11⟩ := h
    refine ⟨(p1.same (e3 1 (by decide) (by decide) (by decide)) (e3 26 (by decide) (by decide) (by decide)) (e3 27 (by decide) (by decide) (by decide)) (e3 28 (by decide) (by decide) (by decide)) (e3 29 (by decide) (by decide) (by decide)) e5).w, (e3 30 (by decide) (by decide) (by decide)).trans p2, p3, ⟨a + 1, e1, by omega, by omega⟩, e4, n47 _, b', (e3 37 (by decide) (by decide) (by decide)).trans p10, by omega⟩
  obtain ⟨u, u1, u2, u3, u4⟩ := h.u
  have hV : (rm_gh (rm_action (mw_setS M 47 (M.1 47 + 1)) (M.1 13).toNatClampNeg o 0) (M.1 13).toNatClampNeg deep k q (qs tb n t)).2.2.1 0 = M.2.2.1 0 := by
    unfold rm_gh rm_action
    exact (V0 rfl).trans ((V0 rfl).trans ((V0 rfl).trans ((V0 rfl).trans ((V0 rfl).trans ((V0 rfl).trans ((V0 rfl).trans ((V0 rfl).trans (V0 rfl))))))))
  have hS : (rm_gh (rm_action (mw_setS M 47 (M.1 47 + 1)) (M.1 13).toNatClampNeg o 0) (M.1 13).toNatClampNeg deep k q (qs tb n t)).1 = mw_u (mw_u M.1 47 (M.1 47 + 1)) 13 (nI (a + 1)) := by
    show mw_u (mw_u M.1 47 (M.1 47 + 1)) 13 (nI ((M.1 13).toNatClampNeg + 1)) = _
    rw [q2]
  unfold pA0
  generalize rm_gh (rm_action (mw_setS M 47 (M.1 47 + 1)) (M.1 13).toNatClampNeg o 0) (M.1 13).toNatClampNeg deep k q (qs tb n t) = Mg at hV hS ⊢
  by_cases ho : o = 1 ∨ o = 8
  · rw [if_pos ho]
    refine base _ ?_ ?_ ?_ ?_ (rm_useG_0.trans hV)
    · rw [rm_useG_S, hS]; rfl
    · rw [rm_useG_S, hS]; rfl
    · intro j a1 a2 a3
      rw [rm_useG_S, hS, mw_u_ne _ _ a3, mw_u_ne _ _ a1, mw_u_ne _ _ a2]
    · refine ⟨u + 1, ?_, by omega⟩
      rw [rm_useG_S, hS]
      show nI ((M.1 41).toNatClampNeg + 1) = _
      rw [u2]
  · rw [if_neg ho]
    refine base _ ?_ ?_ ?_ ?_ hV
    · rw [hS]; rfl
    · rw [hS]; rfl
    · intro j a1 a2 a3
      rw [hS, mw_u_ne _ _ a1, mw_u_ne _ _ a2]
    · refine ⟨u, ?_, by omega⟩
      rw [hS]
      exact u1
theorem pA1_post {F : pr_F} {f k q a deep : Nat} {o : Int32} (hF : pRF tb n a0 f F) (h : pI tb n a0 M t) (hf : n - qs tb n t ≤ f) (ha : a < 4000) : (pA1 tb n F k q o M t a deep).1 = -1 ∨ ((pA1 tb n F k q o M t a deep).1 = nI a ∧ pG tb n a0 t (pA1 tb n F k q o M t a deep)) := by
  unfold pA1
  have q1 := qs_le_of (tb := tb) (n := n) (show t ≤ t + 1 by omega)
  by_cases c2 : o = 2
  · rw [if_pos c2]; exact pC_post h ha
  · rw [if_neg c2]
    by_cases c1 : o = 1
    · rw [if_pos c1]; exact pE_post ha ((pT_post h 6).imp (fun z => z.1) (fun z => ⟨z.1, z.2.2.mono (by omega)⟩))
    · rw [if_neg c1]
      by_cases c10 : o = 10
      · rw [if_pos c10]; exact pE_post ha (pPt_post hF h hf)
      · rw [if_neg c10]
        unfold pA2
        by_cases z : (pNum tb n M t a).1 = 0
        · rw [if_pos z]; exact Or.inl rfl
        · rw [if_neg z]
          obtain ⟨-, g1, g2⟩ := (pNum_post h a).resolve_left z
          have := qs_le_of (tb := tb) (n := n) g2
          by_cases c9 : o = 9
          · rw [if_pos c9]; exact pE_post ha ((pPt_post hF g1 (by omega)).imp id (fun z => ⟨z.1, z.2.mono (by omega)⟩))
          · rw [if_neg c9]; exact pE_post ha ((pT_post g1 6).imp (fun z => z.1) (fun z => ⟨z.1, z.2.2.mono (by omega)⟩))
theorem opI_n {c : Nat} (h : ¬ opI c = 0) : 13 ≤ c ∧ c ≤ 22 := by
  unfold opI at h
  by_cases z : 13 ≤ c ∧ c ≤ 22
  · exact z
  · rw [if_neg z] at h; exact absurd rfl h
theorem pA_post {F : pr_F} {f k q deep : Nat} (hF : pRF tb n a0 f F) (h : pI tb n a0 M t) (hf : n - qs tb n t ≤ f) : (pA tb n F k q M t deep).1 = -1 ∨ (∃ a, M.1 13 = nI a ∧ a < 4000 ∧ (pA tb n F k q M t deep).1 = nI a ∧ pG tb n a0 (t + 1) (pA tb n F k q M t deep) ∧ qs tb n t < qs tb n (t + 1)) := by
  unfold pA
  by_cases c0 : opI (cd tb n t) = 0
  · rw [if_pos c0]; exact Or.inl rfl
  · rw [if_neg c0]
    by_cases c60 : M.1 47 = 60
    · rw [if_pos c60]; exact Or.inl rfl
    · rw [if_neg c60]
      obtain ⟨h13, h22⟩ := opI_n c0
      obtain ⟨a, q1, q2, q3, q4, q5⟩ := h.a
      have hlt := (qs_lt (tb := tb) (n := n) (t := t) (by omega)).2.1
      rw [q2]
      exact (pA1_post hF (pA0_S h h13 h22 c60) (by omega) q5).imp id (fun z => ⟨a, q1, q5, z.1, z.2, hlt⟩)
theorem pL_post (k q : Nat) : ∀ f, pRF tb n a0 f (pL tb n k q f) := by
  intro f
  induction f with
  | zero => intro M t deep hd tl _ hf; omega
  | succ f ih =>
    intro M t deep hd tl h hf
    show (if cd tb n t = 5 then (hd, pw tb n M t, t + 1) else pN (pL tb n k q f) deep hd tl (pA tb n (pL tb n k q f) k q M t deep)).1 = -2 ∨ pG tb n a0 t (if cd tb n t = 5 then (hd, pw tb n M t, t + 1) else pN (pL tb n k q f) deep hd tl (pA tb n (pL tb n k q f) k q M t deep))
    by_cases c5 : cd tb n t = 5
    · rw [if_pos c5]
      exact Or.inr ⟨h.w, Nat.le_succ _⟩
    · rw [if_neg c5]
      unfold pN
      rcases pA_post (k := k) (q := q) (deep := deep) ih h (by omega) with z | ⟨a, z1, z2, z3, z4, z5⟩
      · rw [z, if_neg (by decide)]
        exact Or.inl rfl
      · rw [z3, if_pos (nI_pos' (by omega))]
        have := qs_le_of (tb := tb) (n := n) z4.2
        have := qs_le (tb := tb) (n := n) (pA tb n (pL tb n k q f) k q M t deep).2.2
        by_cases ct : tl < 0
        · rw [if_pos ct]
          exact (ih _ _ deep _ _ z4.1 (by omega)).imp id (fun z => z.mono (by have := z4.2; omega))
        · rw [if_neg ct]
          exact (ih _ _ deep _ _ (z4.1.sV rfl) (by omega)).imp id (fun z => z.mono (by have := z4.2; omega))
end PI
