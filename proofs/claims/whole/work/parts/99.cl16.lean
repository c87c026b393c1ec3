/-! undo: the relation at rest again -/
/-- the entry m is forgotten -/
def fg3 (C : cw_C) (m : Nat) : cw_C := mw_u C 3 ((C 3).1, (C 3).2.1, (C 3).2.2.1, m)
/-- the vessels as they were before the record -/
def tkR (C T : cw_C) (m na : Nat) (H : hS) : Prop := (∀ g, ¬ g = 9 → T g = cw_sI C 11 0 8 (nI m) g) ∧ cN T 9 = cN C 9 ∧ (∀ i j, cR T 9 i j = cR C 9 i j) ∧ (∀ i j, ¬ j = 3 → ¬ j = 4 → cI T 9 i j = cI C 9 i j) ∧ ∀ i, i < na → cI T 9 i 3 = H.1 m i ∧ cI T 9 i 4 = H.2.1 m i
section UN
variable {p : Nat → Nat → Bool} {q : Nat → Bool} {ad : Nat → Nat → Nat} {C T : cw_C} {M : mw_S} {ab : Nat → Option Nat} {f i j a b m nk np na nb nt : Nat} {H : hS}
theorem fg3_o (h : ¬ f = 3) : fg3 C m f = C f := cu_ne h
theorem fg3_3 : fg3 C m 3 = ((C 3).1, (C 3).2.1, (C 3).2.2.1, m) := cu_eq
theorem fg3_I : cI (fg3 C m) f i j = cI C f i j := by
  by_cases e : f = 3
  · subst e; unfold cI; rw [fg3_3]
  · exact cI_o (fg3_o e)
theorem fg3_L : cL (fg3 C m) f i j = cL C f i j := by
  by_cases e : f = 3
  · subst e; unfold cL; rw [fg3_3]
  · exact cL_o (fg3_o e)
theorem fg3_R : cR (fg3 C m) f i j = cR C f i j := by
  by_cases e : f = 3
  · subst e; unfold cR; rw [fg3_3]
  · exact cR_o (fg3_o e)
theorem fg3_N3 : cN (fg3 C m) 3 = m := by unfold cN; rw [fg3_3]
theorem fg3_N (h : ¬ f = 3) : cN (fg3 C m) f = cN C f := cN_o (fg3_o h)
theorem fg3_less {h0 h : mm_H} (hC : cw ad h0 C h) (hm : m ≤ cN C 3) : cw ad h (fg3 C m) h := hC.less (fun g => by
  by_cases e : g = 3
  · subst e; rw [fg3_N3]; exact hm
  · rw [fg3_N e]; exact Nat.le_refl _) (fun g k _ => by
  by_cases e : g = 3
  · subst e; unfold cw_v; rw [fg3_3]
  · unfold cw_v; rw [fg3_o e])
theorem nC_fg3 (h : q 3 = false) : nC q (fg3 C m) = nC q C := nC_eq (fun g hg => fg3_o (fun z => by rw [z, h] at hg; cases hg))
theorem nD_fg3 (h : ∀ j, p 3 j = false) : nD p (fg3 C m) = nD p C := nD_o (fun g => by
  by_cases e : g = 3
  · subst e; exact Or.inl h
  · exact Or.inr (fg3_o e))
theorem nM_cb {n t : Nat} (h : q 53 = false) : nM q (rm_cb M n t) = nM q M := nM_eq (fun g hg => ⟨rfl, rfl, funext (fun i => if_neg (fun z => by rw [z.1, h] at hg; cases hg))⟩)
theorem nM_rst {n : Nat} (h1 : q 51 = false) (h2 : q 52 = false) (h3 : q 53 = false) : nM q (rm_rst M n a b) = nM q M := (nM_cb h3).trans ((nM_setV h2).trans ((nM_setV h1).trans ((nM_setV h2).trans (nM_setV h1))))
theorem rst_V {n l k : Nat} : (rm_rst M n a b).2.2.1 l k = if l = 52 ∧ k = a then M.2.2.1 59 (4 * n + 1) else if l = 51 ∧ k = a then M.2.2.1 59 (4 * n) else if l = 52 ∧ k = b then M.2.2.1 59 (4 * n + 3) else if l = 51 ∧ k = b then M.2.2.1 59 (4 * n + 2) else M.2.2.1 l k := rfl
theorem rst_W {n l k : Nat} : (rm_rst M n a b).2.2.2.1 l k = if l = 53 ∧ k < 5 then M.2.2.2.1 60 (5 * n + k) else M.2.2.2.1 l k := rfl
theorem tkR.nC (t : tkR C T m na H) (h9 : q 9 = false) (h11 : q 11 = false) : nC q T = nC q C := (nC_eq (fun g hg => t.1 g (fun z => by rw [z, h9] at hg; cases hg))).trans (nC_sI h11)
theorem tkR.nD (t : tkR C T m na H) (h9 : ∀ j, p 9 j = false) (h11 : p 11 8 = false) : nD p T = nD p C := (nD_o (fun g => by
  by_cases e : g = 9
  · subst e; exact Or.inl h9
  · exact Or.inr (t.1 g e))).trans (nD_sI h11)
theorem tkR.N (t : tkR C T m na H) : cN T f = cN C f := by
  by_cases e : f = 9
  · subst e; exact t.2.1
  · rw [cN_o (t.1 f e), cw_sI_N]
theorem un_rs (h : rsR ad C M ab nk np na (m + 1) nb nt H) (t : tkR C T m na H) (hA : M.2.2.1 56 m = nI a) (hB : M.2.2.1 58 m = nI b) (ha : a < na) (hb : b < na) : rsR ad (fg3 (cw_sR T 17 0 m none) m) (rm_rst (mw_setS M 54 (nI m)) m a b) ab nk np na m nb nt H := by
  have N : ∀ f, ¬ f = 3 → cN (fg3 (cw_sR T 17 0 m none) m) f = cN C f := fun f hf => by rw [fg3_N hf, cw_sR_N, t.N]
  have N3 : cN C 3 = m + 1 := h.cn.2.2
  have hna : na ≤ 20 := h.v.2.1
  obtain ⟨d1, d2, d3⟩ := h.d
  obtain ⟨a', b', ha', hb', e1, e2, ⟨e3, e4, e5, e6⟩, e7, e8, e9, e10, e11⟩ := d3 m (Nat.lt_succ_self m)
  have ea : a' = a := (nI_eq (by omega) (by omega)).mp (e1.symm.trans hA)
  have eb : b' = b := (nI_eq (by omega) (by omega)).mp (e2.symm.trans hB)
  subst ea; subst eb
  have W : ∀ i, i < na → (rm_rst (mw_setS M 54 (nI m)) m a' b').2.2.1 51 i = H.1 m i ∧ (rm_rst (mw_setS M 54 (nI m)) m a' b').2.2.1 52 i = H.2.1 m i := by
    intro i hi
    rw [rst_V, rst_V]
    by_cases ia : i = a'
    · subst ia; simp; exact ⟨e3, e4⟩
    · by_cases ib : i = b'
      · subst ib; simp [ia]; exact ⟨e5, e6⟩
      · simp [ia, ib]
        have z1 := e10 i hi ia ib
        have z2 := d1 i hi
        exact ⟨z2.1.symm.trans z1.1, z2.2.symm.trans z1.2⟩
  have V : ∀ l k, ¬ l = 51 → ¬ l = 52 → (rm_rst (mw_setS M 54 (nI m)) m a' b').2.2.1 l k = M.2.2.1 l k := by
    intro l k l1 l2
    rw [rst_V]
    simp [l1, l2]
    rfl
  have w11 : ∀ j, ¬ j = 8 → cI (fg3 (cw_sR T 17 0 m none) m) 11 0 j = cI C 11 0 j := fun j hj => by rw [fg3_I, cI_o (cw_sR_o (by decide)), cI_o (t.1 11 (by decide)), cI_sI_n (fun z => hj z.2.2)]
  have r11 : ∀ j, cR (fg3 (cw_sR T 17 0 m none) m) 11 0 j = cR C 11 0 j := fun j => by
    rw [fg3_R, cR_o (cw_sR_o (by decide)), cR_o (t.1 11 (by decide))]; unfold cR; rw [cw_sI_f]
  have o3I : ∀ i j, cI (fg3 (cw_sR T 17 0 m none) m) 3 i j = cI C 3 i j := fun i j => by rw [fg3_I, cI_o (cw_sR_o (by decide)), cI_o (t.1 3 (by decide)), cI_o (cw_sI_o (by decide))]
  have o3R : ∀ i j, cR (fg3 (cw_sR T 17 0 m none) m) 3 i j = cR C 3 i j := fun i j => by rw [fg3_R, cR_o (cw_sR_o (by decide)), cR_o (t.1 3 (by decide)), cR_o (cw_sI_o (by decide))]
  refine ⟨h.rg.nf rfl ((nC_fg3 rfl).trans ((nC_sR rfl).trans (t.nC rfl rfl))) ((nM_rst rfl rfl rfl).trans (nM_setS rfl)), h.ck.nf rfl ((nC_fg3 rfl).trans ((nC_sR rfl).trans (t.nC rfl rfl))) ((nM_rst rfl rfl rfl).trans (nM_setS rfl)), ?_, h.o.nd rfl ((nD_fg3 (fun _ => rfl)).trans ((nD_sR rfl).trans (t.nD (fun _ => rfl) rfl))) ((nM_rst rfl rfl rfl).trans (nM_setS rfl)), h.t.nf ((nM_rst rfl rfl rfl).trans (nM_setS rfl)), h.s, ?_, ?_, ?_, h.r.nd rfl ((nD_fg3 (fun _ => rfl)).trans ((nD_sR rfl).trans (t.nD (fun _ => rfl) rfl))) ((nM_rst rfl rfl rfl).trans (nM_setS rfl))⟩
  · obtain ⟨⟨c1, c2, c3, c4, c5, c6, c7⟩, c8, c9⟩ := h.cn
    exact ⟨⟨by rw [N _ (by decide)]; exact c1, by rw [N _ (by decide)]; exact c2, by rw [N _ (by decide)]; exact c3, by rw [N _ (by decide)]; exact c4, by rw [N _ (by decide)]; exact c5, by rw [N _ (by decide)]; exact c6, by rw [N _ (by decide)]; exact c7⟩, by rw [N _ (by decide)]; exact c8, fg3_N3⟩
  · obtain ⟨⟨v11, n16, n9⟩, hn20, v0, v1, s48, hV⟩ := h.v
    refine ⟨⟨by rw [N _ (by decide)]; exact v11, by rw [N _ (by decide)]; exact n16, by rw [N _ (by decide)]; exact n9⟩, hn20, (r11 4).trans v0, (w11 5 (by decide)).trans v1, s48, fun i hi => ?_⟩
    obtain ⟨p0, p1, ⟨k, hk, p2, p3⟩, p4, p5, p6⟩ := hV i hi
    obtain ⟨t1, -, t3, t4, t5⟩ := t
    rw [fg3_R, cR_sR_n (fun z => absurd z.1 (by decide)), cR_o (t1 16 (by decide)), cR_o (cw_sI_o (by decide)), fg3_I, fg3_I, fg3_I, fg3_I, fg3_R, cI_o (cw_sR_o (by decide)), cI_o (cw_sR_o (by decide)), cI_o (cw_sR_o (by decide)), cI_o (cw_sR_o (by decide)), cR_o (cw_sR_o (by decide)), t3, t4 _ _ (by decide) (by decide), t4 _ _ (by decide) (by decide), (t5 i hi).1, (t5 i hi).2, (W i hi).1, (W i hi).2, V _ _ (by decide) (by decide), V _ _ (by decide) (by decide)]
    exact ⟨p0, p1, ⟨k, hk, p2, p3⟩, p4, rfl, rfl⟩
  · obtain ⟨⟨n17, n3⟩, hn512, z7, z8, s54, hN⟩ := h.e
    refine ⟨⟨by rw [N _ (by decide)]; exact n17, by rw [fg3_N3]; exact Nat.le_refl _⟩, by omega, (r11 7).trans z7, ?_, ?_, fun i hi => ?_⟩
    · rw [fg3_I, cI_o (cw_sR_o (by decide)), cI_o (t.1 11 (by decide)), cI_sI_e]
    · rfl
    · obtain ⟨p0, p1, ⟨v, hv, p2, p3⟩, p4⟩ := hN i (by omega)
      rw [o3I, o3I, o3R, V _ _ (by decide) (by decide), V _ _ (by decide) (by decide), V _ _ (by decide) (by decide), fg3_R, cR_sR_n (fun z => absurd z.2.2 (by omega)), cR_o (t.1 17 (by decide)), cR_o (cw_sI_o (by decide))]
      exact ⟨p0, p1, ⟨v, hv, p2, p3⟩, p4⟩
  · refine ⟨fun i hi => ⟨(W i hi).1.symm, (W i hi).2.symm⟩, fun c hc => ⟨(d2 c hc).1, ?_⟩, fun e he => ?_⟩
    · rw [rst_W, if_pos ⟨rfl, hc⟩]
      exact (e11 c hc).1.symm
    · obtain ⟨a2, b2, k1, k2, k3, k4, ⟨k5, k6, k7, k8⟩, k9, k10, k11, k12, k13⟩ := d3 e (by omega)
      unfold enH
      rw [o3I, o3I, o3I, o3I, o3R]
      refine ⟨a2, b2, k1, k2, by rw [V _ _ (by decide) (by decide)]; exact k3, by rw [V _ _ (by decide) (by decide)]; exact k4, ?_, k9, k10, k11, k12, fun c hc => ?_⟩
      · rw [V _ _ (by decide) (by decide), V _ _ (by decide) (by decide), V _ _ (by decide) (by decide), V _ _ (by decide) (by decide)]
        exact ⟨k5, k6, k7, k8⟩
      · rw [rst_W, if_neg (fun z => absurd z.1 (by decide))]
        exact k13 c hc
theorem un_x1 {x u v : Int32} : x + (u - v) + (v - u) = x := by grind
theorem un_x2 {x u v : Int32} : x - (u - v) - (v - u) = x := by grind
theorem un_x3 {x u : Int32} : x + u - u = x := by grind
theorem un_x4 {x u : Int32} : x - u + u = x := by grind
theorem tkV_R (h : rsR ad C M ab nk np na (m + 1) nb nt H) (hA : M.2.2.1 56 m = nI a) (hB : M.2.2.1 58 m = nI a) (ha : a < na) : tkR C (tkV (cw_sI C 11 0 8 (nI m)) m a) m na H ∧ cR C 3 m 2 = none := by
  have hna : na ≤ 20 := h.v.2.1
  obtain ⟨d1, d2, d3⟩ := h.d
  obtain ⟨a', b', ha', hb', e1, e2, e3, e7, e8, e9, e10, e11⟩ := d3 m (Nat.lt_succ_self m)
  have ea : a' = a := (nI_eq (by omega) (by omega)).mp (e1.symm.trans hA)
  have eb : b' = a := (nI_eq (by omega) (by omega)).mp (e2.symm.trans hB)
  subst ea; subst eb
  refine ⟨⟨fun g hg => tkV_o hg, by rw [tkV_N, cw_sI_N], fun i j => ?_, fun i j j3 j4 => ?_, fun i hi => ?_⟩, e7.trans (if_pos rfl)⟩
  · unfold tkV cR; rw [cw_sI_f, cw_sI_f, cw_sI_o (by decide)]
  · unfold tkV; rw [cI_sI_n (fun z => j4 z.2.2), cI_sI_n (fun z => j3 z.2.2), cI_o (cw_sI_o (by decide))]
  · obtain ⟨-, -, -, -, p5, p6⟩ := h.v.2.2.2.2.2 i hi
    have z2 := d1 i hi
    unfold tkV
    by_cases ia : i = b'
    · subst ia
      rw [cI_sI_n (fun z => absurd z.2.2 (by decide)), cI_sI_e, cI_sI_e, cI_o (cw_sI_o (by decide)), cI_o (cw_sI_o (by decide)), cI_o (cw_sI_o (by decide)), cI_o (cw_sI_o (by decide)), cI_o (cw_sI_o (by decide)), p5, p6, ← z2.1, ← z2.2, e8.1, e8.2]
      exact ⟨un_x1, un_x3⟩
    · rw [cI_sI_n (fun z => ia z.2.1), cI_sI_n (fun z => ia z.2.1), cI_sI_n (fun z => ia z.2.1), cI_sI_n (fun z => ia z.2.1), cI_o (cw_sI_o (by decide)), cI_o (cw_sI_o (by decide)), p5, p6, ← z2.1, ← z2.2]
      exact e10 i hi ia ia
theorem tkP_R (h : rsR ad C M ab nk np na (m + 1) nb nt H) (hA : M.2.2.1 56 m = nI a) (hB : M.2.2.1 58 m = nI b) (ha : a < na) (hb : b < na) (hab : ¬ a = b) : tkR C (tkP (cw_sI C 11 0 8 (nI m)) m a b) m na H ∧ cR C 3 m 2 = some (ad 9 b) := by
  have hna : na ≤ 20 := h.v.2.1
  obtain ⟨d1, d2, d3⟩ := h.d
  obtain ⟨a', b', ha', hb', e1, e2, e3, e7, e8, e9, e10, e11⟩ := d3 m (Nat.lt_succ_self m)
  have ea : a' = a := (nI_eq (by omega) (by omega)).mp (e1.symm.trans hA)
  have eb : b' = b := (nI_eq (by omega) (by omega)).mp (e2.symm.trans hB)
  subst ea; subst eb
  refine ⟨⟨fun g hg => tkP_o hg, by rw [tkP_N, cw_sI_N], fun i j => ?_, fun i j j3 j4 => ?_, fun i hi => ?_⟩, e7.trans (if_neg hab)⟩
  · unfold tkP tkV cR; rw [cw_sI_f, cw_sI_f, cw_sI_f, cw_sI_f, cw_sI_o (by decide)]
  · unfold tkP tkV; rw [cI_sI_n (fun z => j4 z.2.2), cI_sI_n (fun z => j3 z.2.2), cI_sI_n (fun z => j4 z.2.2), cI_sI_n (fun z => j3 z.2.2), cI_o (cw_sI_o (by decide))]
  · obtain ⟨-, -, -, -, p5, p6⟩ := h.v.2.2.2.2.2 i hi
    have z2 := d1 i hi
    have s9 : cw_sI C 11 0 8 (nI m) 9 = C 9 := cw_sI_o (by decide)
    have s3 : cw_sI C 11 0 8 (nI m) 3 = C 3 := cw_sI_o (by decide)
    unfold tkP
    by_cases ib : i = b'
    · subst ib
      rw [cI_sI_n (fun z => absurd z.2.2 (by decide)), cI_sI_e, cI_sI_e, cI_o s9, cI_o s9, cI_o s3, cI_o s3, cI_o s3, p5, p6, ← z2.1, ← z2.2, (e9 hab).1, (e9 hab).2]
      exact ⟨un_x2, un_x4⟩
    · rw [cI_sI_n (fun z => ib z.2.1), cI_sI_n (fun z => ib z.2.1), cI_sI_n (fun z => ib z.2.1), cI_sI_n (fun z => ib z.2.1)]
      unfold tkV
      by_cases ia : i = a'
      · subst ia
        rw [cI_sI_n (fun z => absurd z.2.2 (by decide)), cI_sI_e, cI_sI_e, cI_o s9, cI_o s9, cI_o s3, cI_o s3, cI_o s3, p5, p6, ← z2.1, ← z2.2, e8.1, e8.2]
        exact ⟨un_x1, un_x3⟩
      · rw [cI_sI_n (fun z => ia z.2.1), cI_sI_n (fun z => ia z.2.1), cI_sI_n (fun z => ia z.2.1), cI_sI_n (fun z => ia z.2.1), cI_o s9, cI_o s9, p5, p6, ← z2.1, ← z2.2]
        exact e10 i hi ia ib
end UN
theorem un_aft {G : mm_G} {L : Nat × Nat} {d : Nat} {h h0 : mm_H} {ad : Nat → Nat → Nat} {C : cw_C} {M : mw_S} {ab : Nat → Option Nat} {nk np na m nb nt a b : Nat} {H : hS} (R : rsR ad C M ab nk np na (m + 1) nb nt H) (hA : M.2.2.1 56 m = nI a) (hB : M.2.2.1 58 m = nI b) (ha : a < na) (hb : b < na) (hC : cw ad h0 C h) : mm_Ok G mX11_undo L (d + 2) [.ref (ad 11 0)] h (aft ad h 0 0 ab nk np (.int (nI m)) (rm_rst (mw_setS M 54 (nI m)) m a b)) := by
  have hna : na ≤ 20 := R.v.2.1
  have q1 : cR C 3 m 1 = some (ad 9 a) := by
    obtain ⟨-, -, ⟨v, hv, p2, p3⟩, -⟩ := R.e.2.2.2.2.2 m (Nat.lt_succ_self m)
    have ea : v = a := (nI_eq (by omega) (by omega)).mp (p2.symm.trans hA)
    rw [← ea]; exact p3
  have N3 : cN C 3 = m + 1 := R.cn.2.2
  by_cases hab : a = b
  · subst hab
    obtain ⟨t, q2⟩ := tkV_R R hA hB ha
    refine mm_Ok.post (un_1 R.g R.v R.e ha q1 q2 hC) (fun r h1 z => ?_)
    exact ⟨z.1, h1, ad, _, na, m, nb, nt, H, fg3_less z.2.1 (by rw [cw_sR_N, t.N, N3]; exact Nat.le_succ m), un_rs R t hA hB ha ha, rfl, by rw [z.2.2]; exact Nat.le_refl _, by rw [z.2.2]; exact Nat.le_refl _⟩
  · obtain ⟨t, q2⟩ := tkP_R R hA hB ha hb hab
    refine mm_Ok.post (un_2 R.g R.v R.e ha q1 hb hab q2 hC) (fun r h1 z => ?_)
    exact ⟨z.1, h1, ad, _, na, m, nb, nt, H, fg3_less z.2.1 (by rw [cw_sR_N, t.N, N3]; exact Nat.le_succ m), un_rs R t hA hB ha hb, rfl, by rw [z.2.2]; exact Nat.le_refl _, by rw [z.2.2]; exact Nat.le_refl _⟩
