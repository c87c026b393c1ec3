/-! charge, joined -/
def g3 (f : Nat) : Bool := Nat.beq f 3
section CHJ
variable {ad : Nat → Nat → Nat} {C C1 : cw_C} {M : mw_S} {ab : Nat → Option Nat} {y a nk np na ne nb nt : Nat} {w x : Int32} {H : hS} {Wt Ht : Nat → Nat → Int32} {Sm : Nat → Nat → Int64}
theorem enD_n3 : enD ad C M na ne Wt Ht Sm ↔ enD ad (nC g3 C) M na ne Wt Ht Sm := Iff.rfl
theorem enD.n3 (h : enD ad C M na ne Wt Ht Sm) (b : nC g3 C1 = nC g3 C) : enD ad C1 M na ne Wt Ht Sm := enD_n3.mpr (by rw [b]; exact enD_n3.mp h)
theorem ch_rs (h : rsR ad C M ab nk np na ne nb nt H) (ha : a < na) (hn : ne < 512) : rsR (cw_ad ad (chV C a w x) 3 y) (etC ad (chV C a w x) ne (chI w x) (chR (ad 9 a)) y) (rm_charge M ne a w x) ab nk np na (ne + 1) nb nt (etH (rm_charge M ne a w x) H ne) := by
  have h3 : cN (chV C a w x) 3 = ne := by rw [chV_N]; exact h.cn.2.2
  have ao : ∀ f, ¬ f = 3 → ∀ i, cw_ad ad (chV C a w x) 3 y f i = ad f i := fun f hf i => cu2_ne (fun z => hf z.1)
  have o : ∀ f, ¬ f = 3 → ¬ f = 11 → ¬ f = 17 → etC ad (chV C a w x) ne (chI w x) (chR (ad 9 a)) y f = chV C a w x f := fun f a b c => etC_o a b c
  have N : ∀ f, ¬ f = 3 → cN (etC ad (chV C a w x) ne (chI w x) (chR (ad 9 a)) y) f = cN C f := fun f hf => by rw [et_N hf, chV_N]
  refine ⟨h.rg.nf (nA_ad rfl) ((nC_et rfl rfl rfl).trans (nC_chV rfl)) (nM_chg rfl rfl rfl rfl rfl rfl rfl rfl rfl rfl), h.ck.nf (nA_ad rfl) ((nC_et rfl rfl rfl).trans (nC_chV rfl)) (nM_chg rfl rfl rfl rfl rfl rfl rfl rfl rfl rfl), ?_, h.o.nd (nA_ad rfl) ((nD_et (fun _ => rfl) rfl (fun _ => rfl)).trans (nD_chV rfl rfl)) (nM_chg rfl rfl rfl rfl rfl rfl rfl rfl rfl rfl), h.t.nf (nM_chg rfl rfl rfl rfl rfl rfl rfl rfl rfl rfl), h.s, ?_, ?_, ?_, h.r.nd (nA_ad rfl) ((nD_et (fun _ => rfl) rfl (fun _ => rfl)).trans (nD_chV rfl rfl)) (nM_chg rfl rfl rfl rfl rfl rfl rfl rfl rfl rfl)⟩
  · obtain ⟨⟨c1, c2, c3, c4, c5, c6, c7⟩, c8, c9⟩ := h.cn
    exact ⟨⟨by rw [N _ (by decide)]; exact c1, by rw [N _ (by decide)]; exact c2, by rw [N _ (by decide)]; exact c3, by rw [N _ (by decide)]; exact c4, by rw [N _ (by decide)]; exact c5, by rw [N _ (by decide)]; exact c6, by rw [N _ (by decide)]; exact c7⟩, by rw [N _ (by decide)]; exact c8, by rw [et_N3, h3]⟩
  · obtain ⟨⟨v11, n16, n9⟩, hn20, v0, v1, s48, hV⟩ := h.v
    have z5 : cI (etC ad (chV C a w x) ne (chI w x) (chR (ad 9 a)) y) 11 0 5 = cI C 11 0 5 := by
      unfold etC
      rw [cI_sI_n (by decide), cI_o (cw_sR_o (by decide)), cI_o (cw_row_o (by decide)), show cI (cw_new (chV C a w x) 3) 11 0 5 = cI (chV C a w x) 11 0 5 from cI_o (cw_ext_o (by decide)), cI_o (chV_o (by decide))]
    refine ⟨⟨by rw [N _ (by decide)]; exact v11, by rw [N _ (by decide)]; exact n16, by rw [N _ (by decide)]; exact n9⟩, hn20, by rw [et_11R, cR_o (chV_o (by decide)), ao 16 (by decide)]; exact v0, by rw [z5]; exact v1, s48, fun i hi => ?_⟩
    obtain ⟨p0, p1, ⟨k, hk, p2, p3⟩, p4, p5, p6⟩ := hV i hi
    have u9 := o 9 (by decide) (by decide) (by decide)
    have u16 := o 16 (by decide) (by decide) (by decide)
    rw [cR_o u16, cI_o u9, cI_o u9, cI_o u9, cI_o u9, cR_o u9, chV_R, cR_o (chV_o (by decide)), ao 9 (by decide), chV_i (Or.inr (by decide)), chV_i (Or.inr (by decide))]
    refine ⟨p0, p1, ⟨k, hk, ?_, by rw [ao 4 (by decide)]; exact p3⟩, ?_, ?_, ?_⟩
    · rw [chg_V]; simp; exact p2
    · rw [chg_V]; simp; exact p4
    · rw [chg_V]
      by_cases e : i = a
      · subst e; rw [chV_3, p5]; simp
      · rw [chV_i (Or.inl e), p5]; simp [e]
    · rw [chg_V]
      by_cases e : i = a
      · subst e; rw [chV_4, p6]; simp
      · rw [chV_i (Or.inl e), p6]; simp [e]
  · exact et_e (h.e.nd rfl (nD_chV rfl rfl) rfl) h3 hn ha (chg_M (na := na)) rfl
  · exact et_d (h.d.n3 (nC_chV rfl)) h3 ha ha (chg_M (na := na)) (if_pos rfl).symm
end CHJ
