/-! retire, joined -/
section RT
variable {ad : Nat → Nat → Nat} {C C1 : cw_C} {M : mw_S} {ab : Nat → Option Nat} {p nk np na ne nb nt : Nat} {H : hS}
theorem rt_rs (h : rsR ad C M ab nk np na ne nb nt H) (hp : p < np) (hC : C1 = cw_sI C 5 p 5 1) : rsR ad C1 (mw_setV M 22 p 1) ab nk np na ne nb nt H := by
  subst hC
  refine ⟨?_, h.ck.nf rfl (nC_sI rfl) (nM_setV rfl), ?_, h.o.nf rfl (nC_sI rfl) (nM_setV rfl), h.t.nf (nM_setV rfl), h.s, h.v.nf rfl (nC_sI rfl) (nM_setV rfl), h.e.nf rfl (nC_sI rfl) (nM_setV rfl), h.d.nf rfl (nC_sI rfl) (nM_setV rfl), h.r.nf rfl (nC_sI rfl) (nM_setV rfl)⟩
  · obtain ⟨⟨n7, n18, n19, h4, h5⟩, b, r0, r1, r2, r3, r4, hK, hP⟩ := h.rg
    have o : ∀ f, ¬ f = 5 → cw_sI C 5 p 5 1 f = C f := fun f hf => cw_sI_o hf
    refine ⟨by rw [cw_sI_N, cw_sI_N, cw_sI_N, cw_sI_N, cw_sI_N]; exact ⟨n7, n18, n19, h4, h5⟩, b, by rw [cR_o (o 7 (by decide))]; exact r0, by rw [cI_o (o 7 (by decide))]; exact r1, by rw [cR_o (o 7 (by decide))]; exact r2, by rw [cI_o (o 7 (by decide))]; exact r3, by rw [cI_o (o 7 (by decide))]; exact r4, fun i hi => by rw [cR_o (o 18 (by decide)), cL_o (o 4 (by decide))]; exact hK i hi, fun t ht => ?_⟩
    obtain ⟨q0, q1, q2, q3⟩ := hP t ht
    refine ⟨by rw [cR_o (o 19 (by decide))]; exact q0, ?_, ?_, ?_⟩
    · show cL (cw_sI C 5 p 5 1) 5 t 0 = M.2.2.2.1 101 t
      rw [← q1]; unfold cL; rw [cw_sI_f]
    · show cI (cw_sI C 5 p 5 1) 5 t 4 = mw_u2 M.2.2.1 22 p 1 21 t
      rw [cI_sI_n (fun z => absurd z.2.2 (by decide)), cu2_ne (fun z => absurd z.1 (by decide))]; exact q2
    · show cI (cw_sI C 5 p 5 1) 5 t 5 = mw_u2 M.2.2.1 22 p 1 22 t
      by_cases e : t = p
      · subst e; rw [cI_sI_e, cu2_eq]
      · rw [cI_sI_n (fun z => e z.2.1), cu2_ne (fun z => e z.2)]; exact q3
  · obtain ⟨⟨c1, c2, c3, c4, c5, c6, c7⟩, c8, c9⟩ := h.cn
    refine ⟨⟨?_, ?_, ?_, ?_, ?_, ?_, ?_⟩, ?_, ?_⟩ <;> rw [cw_sI_N] <;> assumption
theorem rt_same (h1 : M.2.2.1 22 p = 1) : mw_setV M 22 p 1 = M := by
  refine Prod.ext rfl (Prod.ext rfl (Prod.ext (funext fun j => funext fun i => ?_) rfl))
  show mw_u2 M.2.2.1 22 p 1 j i = M.2.2.1 j i
  by_cases e : j = 22 ∧ i = p
  · rw [e.1, e.2, cu2_eq, h1]
  · exact cu2_ne e
theorem rt_aft {G : mm_G} {L : Nat × Nat} {d n1 n2 : Nat} {h h0 : mm_H} (R : rsR ad C M ab nk np na ne nb nt H) (hp : p < np) (hz : M.2.2.1 22 p = 0 ∨ M.2.2.1 22 p = 1) (hC : cw ad h0 C h) : mm_Ok G mX11_retire L (d + 2) [.ref (ad 11 0), .int (nI p)] h (aft ad h n1 n2 ab nk np (.int (if M.2.2.1 22 p = 0 then 1 else 0)) (mw_setV M 22 p 1)) := by
  rcases hz with z | z
  · rw [if_pos z]
    exact mm_Ok.post (rt_1 R.g hp z hC) (fun r h1 y => ⟨y.1, h0, ad, _, na, ne, nb, nt, H, y.2.1, rt_rs R hp rfl, rfl, by rw [y.2.2]; exact Nat.le_add_right _ _, by rw [y.2.2]; exact Nat.le_add_right _ _⟩)
  · have z' : ¬ M.2.2.1 22 p = 0 := by rw [z]; decide
    rw [if_neg z', rt_same z]
    exact mm_Ok.post (rt_0 R.g hp z' hC) (fun r h1 y => y.aft R (Nat.zero_le _))
theorem rt_aftB {G : mm_G} {L : Nat × Nat} {d n1 n2 : Nat} {h h0 : mm_H} {i : Int32} (R : rsR ad C M ab nk np na ne nb nt H) (hi : sp_in i (nI np) = 0) (hC : cw ad h0 C h) : mm_Ok G mX11_retire L (d + 2) [.ref (ad 11 0), .int i] h (aft ad h n1 n2 ab nk np (.int (-1)) (rm_ans M 1)) := mm_Ok.post (rt_no R.g hi hC) (fun r h1 y => y.aft R (by decide))
end RT
