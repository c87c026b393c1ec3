/-! pack: what stays when it ends with a fault -/
def fg11 (C : cw_C) : cw_C := mw_u C 11 ((C 11).1, (C 11).2.1, (C 11).2.2.1, 1)
/-- the house behind a pack that joined nothing: the tape is empty, the place is told -/
def pkC (C : cw_C) (x : Int32) : cw_C := cw_sI (cw_sI (fg11 C) 11 0 1 0) 11 0 2 x
theorem cw_y0 (j : Nat) : ¬ cw_y 0 j = 1 := by
  match j with
  | 0 => decide
  | 1 => decide
  | 2 => decide
  | 3 => decide
  | 4 => decide
  | 5 => decide
  | j + 6 => exact show ¬ (0 : Nat) = 1 by decide
theorem cw_y11 (j : Nat) : ¬ cw_y 11 j = 1 := by
  match j with
  | 0 => decide
  | 1 => decide
  | 2 => decide
  | 3 => decide
  | 4 => decide
  | 5 => decide
  | 6 => decide
  | 7 => decide
  | 8 => decide
  | 9 => decide
  | j + 10 => exact show ¬ (0 : Nat) = 1 by decide
theorem cw_xL_free {f : Nat} {a : Nat → Int32} {b b' : Nat → Int64} {c : Nat → Option Nat} (h : ∀ j, ¬ cw_y f j = 1) : cw_x f a b c = cw_x f a b' c := by
  funext j
  unfold cw_x
  have := h j
  split
  · rfl
  · rename_i e; exact absurd e this
  · rfl
section PKB
variable {p : Nat → Nat → Bool} {q : Nat → Bool} {ad ad1 : Nat → Nat → Nat} {C C1 : cw_C} {M M' : mw_S} {ab : Nat → Option Nat} {h0 hb h1 : mm_H} {nk np na ne nb nt a0 g0 f i j : Nat} {H : hS} {x : Int32}
theorem fg11_o (h : ¬ f = 11) : fg11 C f = C f := cu_ne h
theorem fg11_11 : fg11 C 11 = ((C 11).1, (C 11).2.1, (C 11).2.2.1, 1) := cu_eq
theorem pkC_o (h : ¬ f = 11) : pkC C x f = C f := (cw_sI_o h).trans ((cw_sI_o h).trans (fg11_o h))
theorem pkC_N (h : ¬ f = 11) : cN (pkC C x) f = cN C f := cN_o (pkC_o h)
theorem pkC_N11 : cN (pkC C x) 11 = 1 := by unfold pkC; rw [cw_sI_N, cw_sI_N]; unfold cN; rw [fg11_11]
theorem pkC_R : cR (pkC C x) 11 i j = cR C 11 i j := by unfold pkC cR; rw [cw_sI_f, cw_sI_f, fg11_11]
theorem pkC_I (h1 : ¬ j = 1) (h2 : ¬ j = 2) : cI (pkC C x) 11 i j = cI C 11 i j := by
  unfold pkC
  rw [cI_sI_n (fun z => h2 z.2.2), cI_sI_n (fun z => h1 z.2.2)]
  unfold cI; rw [fg11_11]
theorem pkC_1 : cI (pkC C x) 11 0 1 = 0 := by unfold pkC; rw [cI_sI_n (by decide), cI_sI_e]
theorem pkC_2 : cI (pkC C x) 11 0 2 = x := by unfold pkC; rw [cI_sI_e]
theorem nC_pkC (h : q 11 = false) : nC q (pkC C x) = nC q C := nC_eq (fun g hg => pkC_o (fun z => by rw [z, h] at hg; cases hg))
theorem nD_pkC (h1 : p 11 1 = false) (h2 : p 11 2 = false) (h99 : p 11 99 = false) : nD p (pkC C x) = nD p C := nD_eq (fun g => by
  by_cases e : g = 11
  · subst e
    refine ⟨fun i j hj => ⟨pkC_I (fun z => by rw [z, h1] at hj; cases hj) (fun z => by rw [z, h2] at hj; cases hj), ?_, pkC_R⟩, fun hj => by rw [h99] at hj; cases hj⟩
    unfold pkC cL; rw [cw_sI_f, cw_sI_f, fg11_11]
  · exact ⟨fun i j _ => ⟨cI_o (pkC_o e), cL_o (pkC_o e), cR_o (pkC_o e)⟩, fun _ => cN_o (pkC_o e)⟩)
/-- what was made by the pack is forgotten -/
theorem pk_back (hC : cw ad1 hb C1 h1) (hr : ∀ f i, ¬ f = 11 → i < cN C f → i < cN C1 f ∧ ad1 f i = ad f i ∧ (C1 f).1 i = (C f).1 i ∧ (¬ f = 0 → (C1 f).2.1 i = (C f).2.1 i) ∧ (C1 f).2.2.1 i = (C f).2.2.1 i) (a11 : ad1 11 0 = ad 11 0) (n11 : 0 < cN C1 11) (i1 : cI C1 11 0 1 = 0) (i2 : cI C1 11 0 2 = x) (iI : ∀ j, ¬ j = 1 → ¬ j = 2 → cI C1 11 0 j = cI C 11 0 j) (iR : ∀ j, cR C1 11 0 j = cR C 11 0 j) : cw ad h1 (pkC C x) h1 := by
  obtain ⟨w1, w2, w3, w4, w5, w6, w7⟩ := hC
  have key : ∀ f i, i < cN (pkC C x) f → i < cN C1 f ∧ ad1 f i = ad f i ∧ cw_v (pkC C x) f i = cw_v C1 f i := by
    intro f i hi
    by_cases e : f = 11
    · subst e
      rw [pkC_N11] at hi
      have ei : i = 0 := by omega
      subst ei
      refine ⟨n11, a11, ?_⟩
      unfold cw_v
      have e1 : (pkC C x 11).1 0 = (C1 11).1 0 := funext fun j => by
        by_cases j1 : j = 1
        · subst j1; exact pkC_1.trans i1.symm
        · by_cases j2 : j = 2
          · subst j2; exact pkC_2.trans i2.symm
          · exact (pkC_I j1 j2).trans (iI j j1 j2).symm
      have e2 : (pkC C x 11).2.2.1 0 = (C1 11).2.2.1 0 := funext fun j => pkC_R.trans (iR j).symm
      rw [e1, e2]
      exact cw_xL_free cw_y11
    · rw [pkC_N e] at hi
      obtain ⟨a1, a2, a3, a4, a5⟩ := hr f i e hi
      refine ⟨a1, a2, ?_⟩
      unfold cw_v
      rw [pkC_o e, a3, a5]
      by_cases f0 : f = 0
      · subst f0; exact cw_xL_free cw_y0
      · rw [a4 f0]
  refine ⟨fun f i hf hi => ?_, fun f i g j hf hg hi hj e => ?_, fun _ _ _ => rfl, Nat.le_refl _, Nat.le_refl _, fun f i hf hi => ?_, fun _ _ hz _ _ => hz⟩
  · obtain ⟨a1, a2, a3⟩ := key f i hi
    rw [← a2, a3]; exact w1 f i hf a1
  · obtain ⟨a1, a2, -⟩ := key f i hi
    obtain ⟨b1, b2, -⟩ := key g j hj
    exact w2 f i g j hf hg a1 b1 (by rw [a2, b2]; exact e)
  · obtain ⟨a1, a2, -⟩ := key f i hi
    rw [← a2]; exact w6 f i hf a1
/-- the tape is empty, the place is told -/
theorem rsR.pkc (h : rsR ad C M ab nk np na ne nb nt H) : rsR ad (pkC C x) (mw_setS (mw_setS M 1 0) 24 x) ab nk np na ne nb nt H := by
  have nm : ∀ {q : Nat → Bool}, q 1 = false → q 24 = false → nM q (mw_setS (mw_setS M 1 0) 24 x) = nM q M := fun h1 h2 => (nM_setS h2).trans (nM_setS h1)
  refine ⟨h.rg.nf rfl (nC_pkC rfl) (nm rfl rfl), h.ck.nf rfl (nC_pkC rfl) (nm rfl rfl), h.cn.nf (nC_pkC rfl), ?_, h.t.nf (nm rfl rfl), h.s, ?_, h.e.nd rfl (nD_pkC rfl rfl rfl) (nm rfl rfl), h.d.nf rfl (nC_pkC rfl) (nm rfl rfl), h.r.nd rfl (nD_pkC rfl rfl rfl) (nm rfl rfl)⟩
  · obtain ⟨⟨n1, n2, n3⟩, a2, a3, a4, a5, a6, a7, a8⟩ := h.o
    exact ⟨⟨by rw [pkC_N11]; decide, by rw [pkC_N (by decide)]; exact n2, by rw [pkC_N (by decide)]; exact n3⟩, by rw [pkC_R]; exact a2, by rw [pkC_1]; rfl, by rw [pkC_2]; rfl, by rw [pkC_R]; exact a5, by rw [pkC_R]; exact a6, fun c c1 c4 => by rw [cI_o (pkC_o (by decide))]; exact a7 c c1 c4, fun i hi => by rw [cI_o (pkC_o (by decide))]; exact a8 i hi⟩
  · obtain ⟨⟨v11, n16, n9⟩, hn20, v0, v1, s48, hV⟩ := h.v
    refine ⟨⟨by rw [pkC_N11]; decide, by rw [pkC_N (by decide)]; exact n16, by rw [pkC_N (by decide)]; exact n9⟩, hn20, by rw [pkC_R]; exact v0, by rw [pkC_I (by decide) (by decide)]; exact v1, s48, fun i hi => ?_⟩
    rw [cR_o (pkC_o (by decide)), cI_o (pkC_o (by decide)), cR_o (pkC_o (by decide)), cI_o (pkC_o (by decide)), cI_o (pkC_o (by decide)), cI_o (pkC_o (by decide))]
    exact hV i hi
theorem nM_kk (hK : kk nk a0 g0 M M') (hq : ∀ j, q j = true → 48 ≤ j ∧ j ≤ 73) : nM q M' = nM q M := nM_eq (fun j hj => by
  have := hq j hj
  refine ⟨hK.1 j (by unfold kkS kbS kpS; omega), funext fun i => hK.2.2.2.2 j i (by unfold kkV; omega), funext fun i => hK.2.2.2.1 j i (by omega) (by omega) (by omega)⟩)
theorem gr73 : (∀ j, gW j = true → 48 ≤ j ∧ j ≤ 73) ∧ (∀ j, gN j = true → 48 ≤ j ∧ j ≤ 73) ∧ (∀ j, gX j = true → 48 ≤ j ∧ j ≤ 73) ∧ ∀ j, gH j = true → 48 ≤ j ∧ j ≤ 73 := by
  refine ⟨fun j h => ?_, fun j h => ?_, fun j h => ?_, fun j h => ?_⟩
  · obtain ⟨a, b⟩ := Bool.and_eq_true_iff.mp h
    exact ⟨Nat.le_of_ble_eq_true a, Nat.le_trans (Nat.le_of_ble_eq_true b) (by decide)⟩
  · obtain ⟨a, b⟩ := Bool.and_eq_true_iff.mp h
    exact ⟨Nat.le_trans (by decide) (Nat.le_of_ble_eq_true a), Nat.le_trans (Nat.le_of_ble_eq_true b) (by decide)⟩
  · obtain ⟨a, b⟩ := Bool.and_eq_true_iff.mp h
    exact ⟨Nat.le_trans (by decide) (Nat.le_of_ble_eq_true a), Nat.le_trans (Nat.le_of_ble_eq_true b) (by decide)⟩
  · obtain ⟨a, b⟩ := Bool.and_eq_true_iff.mp h
    exact ⟨Nat.le_trans (by decide) (Nat.le_of_ble_eq_true a), Nat.le_of_ble_eq_true b⟩
/-- the memory behind a reading, its ghosts as they were -/
theorem rsR.kkm (h : rsR ad C M ab nk np na ne nb nt H) (hK : kk nk a0 g0 M M') (ha : cN C 0 = a0) (hg : kg M = g0) (h13 : M'.1 13 = M.1 13) (h24 : M'.1 24 = M.1 24) (h111 : M'.1 111 = M.1 111) (hgh : ∀ j, 74 ≤ j → M'.2.2.1 j = M.2.2.1 j) : rsR ad C M' ab nk np na ne nb nt H := by
  have V := hK.2.2.2.2
  have ek : kg M' = kg M := by unfold kg; rw [h111]
  have hE := h.ck
  refine ⟨h.rg.read (N := cN C) (oK.refl (fun f => Nat.le_refl _)) rfl rfl rfl rfl rfl hK, hE.read (N := cN C) h.cn.1.1 h.cn.1.2.1 (oK.refl (fun f => Nat.le_refl _)) rfl rfl rfl hK hg (fun _ _ => rfl) (fun g hg1 => ?_) (by rw [ek]; exact hE.2.2.2.1.1) (by rw [ek]; exact hE.2.2.2.1.2) ?_, h.cn, ?_, ?_, ⟨(hK.1 3 (by unfold kkS kbS kpS; omega)).trans h.s.1, (hK.1 19 (by unfold kkS kbS kpS; omega)).trans h.s.2⟩, h.v.nf rfl rfl (nM_kk hK gr73.1), h.e.nf rfl rfl (nM_kk hK gr73.2.1), h.d.nf rfl rfl (nM_kk hK gr73.2.2.1), h.r.nf rfl rfl (nM_kk hK gr73.2.2.2)⟩
  · have b := hE.2.2.1 g hg1
    unfold bdR yK at b ⊢
    rw [hgh 98 (by decide), hgh 99 (by decide), hgh 112 (by decide), hgh 113 (by decide), hgh 107 (by decide), hgh 108 (by decide), hgh 109 (by decide)]
    exact b
  · obtain ⟨b1, b2, b3⟩ := hE.2.2.2.2.2
    refine ⟨h13.trans b1, b2, fun a ha1 => ?_⟩
    have := b3 a ha1
    unfold aR at this ⊢
    rw [hgh 83 (by decide), V 14 a (by unfold kkV; omega), V 15 a (by unfold kkV; omega), V 16 a (by unfold kkV; omega), V 17 a (by unfold kkV; omega), V 18 a (by unfold kkV; omega)]
    exact this
  · obtain ⟨a1, a2, a3, a4, a5, a6, a7, a8⟩ := h.o
    exact ⟨a1, a2, a3.trans (hK.1 1 (by unfold kkS kbS kpS; omega)).symm, a4.trans h24.symm, a5, a6, fun c c1 c4 => by rw [V 2 c (by unfold kkV; omega)]; exact a7 c c1 c4, fun i hi => by rw [V 0 i (by unfold kkV; omega)]; exact a8 i hi⟩
  · exact ⟨h.t.1, h.t.2.1, fun i hi => by rw [V 6 i (by unfold kkV; omega)]; exact h.t.2.2 i hi⟩
theorem rsR_U {u : Nat → Nat → Option Nat} {y : Option Nat} {g : Nat → Int32} : rsR ad C M ab nk np na ne nb nt H ↔ rsR ad C (mUN u y (mw_r25 M g)) ab nk np na ne nb nt H := Iff.rfl
end PKB
