/-! charge: the relation at rest again -/
section CHG
variable {p : Nat → Nat → Bool} {q : Nat → Bool} {ad : Nat → Nat → Nat} {C : cw_C} {M : mw_S} {ab : Nat → Option Nat} {y i j a nk np na ne nb nt : Nat} {w x : Int32} {H : hS} {I : Nat → Int32} {Rr : Nat → Option Nat}
theorem nM_cp {n t : Nat} (h : q 60 = false) : nM q (rm_cp M n t) = nM q M := nM_eq (fun g hg => ⟨rfl, rfl, funext fun l => if_neg (fun z => by rw [z.1, h] at hg; cases hg)⟩)
theorem nM_rem {n b : Nat} {v z : Int32} (h5 : q 55 = false) (h6 : q 56 = false) (h7 : q 57 = false) (h8 : q 58 = false) (h9 : q 59 = false) (h60 : q 60 = false) : nM q (rm_rem M n v a z b) = nM q M := (nM_cp h60).trans ((nM_setV h9).trans ((nM_setV h9).trans ((nM_setV h9).trans ((nM_setV h9).trans ((nM_setV h8).trans ((nM_setV h7).trans ((nM_setV h6).trans (nM_setV h5))))))))
theorem nM_chg {n : Nat} (h1 : q 51 = false) (h2 : q 52 = false) (h3 : q 53 = false) (h4 : q 54 = false) (h5 : q 55 = false) (h6 : q 56 = false) (h7 : q 57 = false) (h8 : q 58 = false) (h9 : q 59 = false) (h60 : q 60 = false) : nM q (rm_charge M n a w x) = nM q M := (nM_setS h4).trans ((nM_setW h3).trans ((nM_setW h3).trans ((nM_setV h2).trans ((nM_setV h1).trans (nM_rem h5 h6 h7 h8 h9 h60)))))
theorem nC_et (h3 : q 3 = false) (h11 : q 11 = false) (h17 : q 17 = false) : nC q (etC ad C ne I Rr y) = nC q C := (nC_sI h11).trans ((nC_sR h17).trans ((nC_row h3).trans (nC_new h3)))
theorem nD_et (h3 : ∀ j, p 3 j = false) (h11 : p 11 8 = false) (h17 : ∀ j, p 17 j = false) : nD p (etC ad C ne I Rr y) = nD p C := (nD_sI h11).trans ((nD_sR (h17 ne)).trans ((nD_row h3).trans (nD_new h3)))
theorem nC_chV (h : q 9 = false) : nC q (chV C a w x) = nC q C := (nC_sI h).trans (nC_sI h)
theorem nD_chV (h3 : p 9 3 = false) (h4 : p 9 4 = false) : nD p (chV C a w x) = nD p C := (nD_sI h4).trans (nD_sI h3)
theorem chg_V {n : Nat} {l k : Nat} : (rm_charge M n a w x).2.2.1 l k = if l = 52 ∧ k = a then M.2.2.1 52 a + x else if l = 51 ∧ k = a then M.2.2.1 51 a + w else if l = 59 ∧ k = 4 * n + 3 then M.2.2.1 52 a else if l = 59 ∧ k = 4 * n + 2 then M.2.2.1 51 a else if l = 59 ∧ k = 4 * n + 1 then M.2.2.1 52 a else if l = 59 ∧ k = 4 * n then M.2.2.1 51 a else if l = 58 ∧ k = n then nI a else if l = 57 ∧ k = n then w else if l = 56 ∧ k = n then nI a else if l = 55 ∧ k = n then 1 else M.2.2.1 l k := rfl
theorem chg_W {n : Nat} {l k : Nat} : (rm_charge M n a w x).2.2.2.1 l k = if l = 53 ∧ k = 3 then M.2.2.2.1 53 3 + x.toInt64 else if l = 53 ∧ k = 0 then M.2.2.2.1 53 0 + w.toInt64 else if l = 60 ∧ 5 * n ≤ k ∧ k < 5 * n + 5 then M.2.2.2.1 53 (k - 5 * n) else M.2.2.2.1 l k := rfl
theorem chg_M : enM M (rm_charge M ne a w x) na ne a a 1 w w 0 x := by
  have lt : ∀ {k n c : Nat}, k < 4 * n → ¬ k = 4 * n + c := fun h => by omega
  refine ⟨rfl, ⟨?_, ?_, ?_, ?_⟩, fun e he => ⟨?_, ?_, ?_, ?_⟩, ⟨?_, ?_, ?_, ?_⟩, fun i hi => ?_, fun c hc => ⟨?_, ?_⟩, fun i hi => ?_, ⟨?_, ?_⟩, fun z => absurd rfl z, fun i _ ia _ => ⟨?_, ?_⟩⟩
  · rw [chg_V]; simp
  · rw [chg_V]; simp
  · rw [chg_V]; simp
  · rw [chg_V]; simp
  · rw [chg_V]; simp [show ¬ e = ne by omega]
  · rw [chg_V]; simp [show ¬ e = ne by omega]
  · rw [chg_V]; simp [show ¬ e = ne by omega]
  · rw [chg_V]; simp [show ¬ e = ne by omega]
  · rw [chg_V]; simp
  · rw [chg_V]; simp
  · rw [chg_V]; simp
  · rw [chg_V]; simp
  · rw [chg_V]; simp [show ¬ i = 4 * ne + 3 by omega, show ¬ i = 4 * ne + 2 by omega, show ¬ i = 4 * ne + 1 by omega, show ¬ i = 4 * ne by omega]
  · rw [chg_W]; simp [hc]
  · rw [chg_W]
    unfold ctr
    match c, hc with
    | 0, _ => simp
    | 1, _ => simp
    | 2, _ => simp
    | 3, _ => simp
    | 4, _ => simp
  · rw [chg_W]; simp [show ¬ 5 * ne ≤ i by omega]
  · rw [chg_V]; simp
  · rw [chg_V]; simp
  · rw [chg_V]; simp [ia]
  · rw [chg_V]; simp [ia]
end CHG
