/-! pour: the relation at rest again -/
section PRR
variable {p : Nat → Nat → Bool} {q : Nat → Bool} {ad : Nat → Nat → Nat} {C : cw_C} {M : mw_S} {ab : Nat → Option Nat} {y i j a b nk np na ne nb nt : Nat} {x v : Int32} {H : hS}
theorem nC_prV (h : q 9 = false) : nC q (prV C a b x v) = nC q C := (nC_sI h).trans ((nC_sI h).trans ((nC_sI h).trans (nC_sI h)))
theorem nD_prV (h3 : p 9 3 = false) (h4 : p 9 4 = false) : nD p (prV C a b x v) = nD p C := (nD_sI h4).trans ((nD_sI h3).trans ((nD_sI h4).trans (nD_sI h3)))
theorem prV_R : cR (prV C a b x v) 9 i j = cR C 9 i j := by
  unfold prV cR
  rw [cw_sI_f, cw_sI_f, cw_sI_f, cw_sI_f]
theorem prV_i (h : (¬ i = a ∧ ¬ i = b) ∨ (¬ j = 3 ∧ ¬ j = 4)) : cI (prV C a b x v) 9 i j = cI C 9 i j := by
  unfold prV
  rw [cI_sI_n (fun z => h.elim (fun y => y.2 z.2.1) (fun y => y.2 z.2.2)), cI_sI_n (fun z => h.elim (fun y => y.2 z.2.1) (fun y => y.1 z.2.2)), cI_sI_n (fun z => h.elim (fun y => y.1 z.2.1) (fun y => y.2 z.2.2)), cI_sI_n (fun z => h.elim (fun y => y.1 z.2.1) (fun y => y.1 z.2.2))]
theorem prV_b3 : cI (prV C a b x v) 9 b 3 = cI C 9 b 3 + x := by
  unfold prV
  rw [cI_sI_n (fun z => absurd z.2.2 (by decide)), cI_sI_e]
theorem prV_b4 : cI (prV C a b x v) 9 b 4 = cI C 9 b 4 + v := by
  unfold prV
  rw [cI_sI_e]
theorem prV_a3 (hab : ¬ a = b) : cI (prV C a b x v) 9 a 3 = cI C 9 a 3 - x := by
  unfold prV
  rw [cI_sI_n (fun z => hab z.2.1), cI_sI_n (fun z => hab z.2.1), cI_sI_n (fun z => absurd z.2.2 (by decide)), cI_sI_e]
theorem prV_a4 (hab : ¬ a = b) : cI (prV C a b x v) 9 a 4 = cI C 9 a 4 - v := by
  unfold prV
  rw [cI_sI_n (fun z => hab z.2.1), cI_sI_n (fun z => hab z.2.1), cI_sI_e]
theorem pr_rs (h : rsR ad C M ab nk np na ne nb nt H) (ha : a < na) (hb : b < na) (hab : ¬ a = b) (hn : ne < 512) : rsR (cw_ad ad (prV C a b x v) 3 y) (etC ad (prV C a b x v) ne (prI x v) (prR (ad 9 a) (ad 9 b)) y) (rm_pour M ne a b x v) ab nk np na (ne + 1) nb nt (etH (rm_pour M ne a b x v) H ne) := by
  have h3 : cN (prV C a b x v) 3 = ne := by rw [prV_N]; exact h.cn.2.2
  have ao : ∀ f, ¬ f = 3 → ∀ i, cw_ad ad (prV C a b x v) 3 y f i = ad f i := fun f hf i => cu2_ne (fun z => hf z.1)
  have o : ∀ f, ¬ f = 3 → ¬ f = 11 → ¬ f = 17 → etC ad (prV C a b x v) ne (prI x v) (prR (ad 9 a) (ad 9 b)) y f = prV C a b x v f := fun f a b c => etC_o a b c
  have N : ∀ f, ¬ f = 3 → cN (etC ad (prV C a b x v) ne (prI x v) (prR (ad 9 a) (ad 9 b)) y) f = cN C f := fun f hf => by rw [et_N hf, prV_N]
  refine ⟨h.rg.nf (nA_ad rfl) ((nC_et rfl rfl rfl).trans (nC_prV rfl)) (nM_pour rfl rfl rfl rfl rfl rfl rfl rfl rfl), h.ck.nf (nA_ad rfl) ((nC_et rfl rfl rfl).trans (nC_prV rfl)) (nM_pour rfl rfl rfl rfl rfl rfl rfl rfl rfl), ?_, h.o.nd (nA_ad rfl) ((nD_et (fun _ => rfl) rfl (fun _ => rfl)).trans (nD_prV rfl rfl)) (nM_pour rfl rfl rfl rfl rfl rfl rfl rfl rfl), h.t.nf (nM_pour rfl rfl rfl rfl rfl rfl rfl rfl rfl), h.s, ?_, ?_, ?_, h.r.nd (nA_ad rfl) ((nD_et (fun _ => rfl) rfl (fun _ => rfl)).trans (nD_prV rfl rfl)) (nM_pour rfl rfl rfl rfl rfl rfl rfl rfl rfl)⟩
  · obtain ⟨⟨c1, c2, c3, c4, c5, c6, c7⟩, c8, c9⟩ := h.cn
    exact ⟨⟨by rw [N _ (by decide)]; exact c1, by rw [N _ (by decide)]; exact c2, by rw [N _ (by decide)]; exact c3, by rw [N _ (by decide)]; exact c4, by rw [N _ (by decide)]; exact c5, by rw [N _ (by decide)]; exact c6, by rw [N _ (by decide)]; exact c7⟩, by rw [N _ (by decide)]; exact c8, by rw [et_N3, h3]⟩
  · obtain ⟨⟨v11, n16, n9⟩, hn20, v0, v1, s48, hV⟩ := h.v
    have z5 : cI (etC ad (prV C a b x v) ne (prI x v) (prR (ad 9 a) (ad 9 b)) y) 11 0 5 = cI C 11 0 5 := by
      unfold etC
      rw [cI_sI_n (by decide), cI_o (cw_sR_o (by decide)), cI_o (cw_row_o (by decide)), show cI (cw_new (prV C a b x v) 3) 11 0 5 = cI (prV C a b x v) 11 0 5 from cI_o (cw_ext_o (by decide)), cI_o (prV_o (by decide))]
    refine ⟨⟨by rw [N _ (by decide)]; exact v11, by rw [N _ (by decide)]; exact n16, by rw [N _ (by decide)]; exact n9⟩, hn20, by rw [et_11R, cR_o (prV_o (by decide)), ao 16 (by decide)]; exact v0, by rw [z5]; exact v1, s48, fun i hi => ?_⟩
    obtain ⟨p0, p1, ⟨k, hk, p2, p3⟩, p4, p5, p6⟩ := hV i hi
    have u9 := o 9 (by decide) (by decide) (by decide)
    have u16 := o 16 (by decide) (by decide) (by decide)
    rw [cR_o u16, cI_o u9, cI_o u9, cI_o u9, cI_o u9, cR_o u9, prV_R, cR_o (prV_o (by decide)), ao 9 (by decide), prV_i (Or.inr (by decide)), prV_i (Or.inr (by decide))]
    refine ⟨p0, p1, ⟨k, hk, ?_, by rw [ao 4 (by decide)]; exact p3⟩, ?_, ?_, ?_⟩
    · rw [pour_V hab]; simp; exact p2
    · rw [pour_V hab]; simp; exact p4
    · rw [pour_V hab]
      by_cases e : i = b
      · subst e; rw [prV_b3, p5]; simp
      · by_cases e' : i = a
        · subst e'; rw [prV_a3 hab, p5]; simp [e]
        · rw [prV_i (Or.inl ⟨e', e⟩), p5]; simp [e, e']
    · rw [pour_V hab]
      by_cases e : i = b
      · subst e; rw [prV_b4, p6]; simp
      · by_cases e' : i = a
        · subst e'; rw [prV_a4 hab, p6]; simp [e]
        · rw [prV_i (Or.inl ⟨e', e⟩), p6]; simp [e, e']
  · exact et_e (h.e.nd rfl (nD_prV rfl rfl) rfl) h3 hn ha (pour_M (na := na) hab) rfl
  · exact et_d (h.d.n3 (nC_prV rfl)) h3 ha hb (pour_M (na := na) hab) (if_neg hab).symm
end PRR
