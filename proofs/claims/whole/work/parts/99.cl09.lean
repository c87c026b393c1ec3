/-! pour: the reference's memory behind it -/
section PR
variable {q : Nat → Bool} {M : mw_S} {a b na ne : Nat} {x v : Int32}
theorem nM_pour {n : Nat} (h1 : q 51 = false) (h2 : q 52 = false) (h4 : q 54 = false) (h5 : q 55 = false) (h6 : q 56 = false) (h7 : q 57 = false) (h8 : q 58 = false) (h9 : q 59 = false) (h60 : q 60 = false) : nM q (rm_pour M n a b x v) = nM q M := (nM_setS h4).trans ((nM_setV h2).trans ((nM_setV h1).trans ((nM_setV h2).trans ((nM_setV h1).trans (nM_rem h5 h6 h7 h8 h9 h60)))))
theorem pour_V {n l k : Nat} (hab : ¬ a = b) : (rm_pour M n a b x v).2.2.1 l k = if l = 52 ∧ k = b then M.2.2.1 52 b + v else if l = 51 ∧ k = b then M.2.2.1 51 b + x else if l = 52 ∧ k = a then M.2.2.1 52 a - v else if l = 51 ∧ k = a then M.2.2.1 51 a - x else if l = 59 ∧ k = 4 * n + 3 then M.2.2.1 52 b else if l = 59 ∧ k = 4 * n + 2 then M.2.2.1 51 b else if l = 59 ∧ k = 4 * n + 1 then M.2.2.1 52 a else if l = 59 ∧ k = 4 * n then M.2.2.1 51 a else if l = 58 ∧ k = n then nI b else if l = 57 ∧ k = n then x else if l = 56 ∧ k = n then nI a else if l = 55 ∧ k = n then 2 else M.2.2.1 l k := by
  have i1 : (mw_setV (mw_setV (rm_rem M n 2 a x b) 51 a (M.2.2.1 51 a - x)) 52 a (M.2.2.1 52 a - v)).2.2.1 51 b = M.2.2.1 51 b := by
    show mw_u2 (mw_u2 (rm_rem M n 2 a x b).2.2.1 51 a (M.2.2.1 51 a - x)) 52 a (M.2.2.1 52 a - v) 51 b = _
    rw [cu2_ne (fun z => hab z.2.symm), cu2_ne (fun z => hab z.2.symm)]
    rfl
  have i2 : (mw_setV (mw_setV (mw_setV (rm_rem M n 2 a x b) 51 a (M.2.2.1 51 a - x)) 52 a (M.2.2.1 52 a - v)) 51 b (M.2.2.1 51 b + x)).2.2.1 52 b = M.2.2.1 52 b := by
    show mw_u2 (mw_u2 (mw_u2 (rm_rem M n 2 a x b).2.2.1 51 a (M.2.2.1 51 a - x)) 52 a (M.2.2.1 52 a - v)) 51 b (M.2.2.1 51 b + x) 52 b = _
    rw [cu2_ne (fun z => absurd z.1 (by decide)), cu2_ne (fun z => hab z.2.symm), cu2_ne (fun z => hab z.2.symm)]
    rfl
  unfold rm_pour
  rw [i1, i2]
  rfl
theorem pour_W {n l k : Nat} : (rm_pour M n a b x v).2.2.2.1 l k = if l = 60 ∧ 5 * n ≤ k ∧ k < 5 * n + 5 then M.2.2.2.1 53 (k - 5 * n) else M.2.2.2.1 l k := rfl
theorem pour_M (hab : ¬ a = b) : enM M (rm_pour M ne a b x v) na ne a b 2 x 0 x (-v) := by
  have hba : ¬ b = a := fun z => hab z.symm
  refine ⟨rfl, ⟨?_, ?_, ?_, ?_⟩, fun e he => ⟨?_, ?_, ?_, ?_⟩, ⟨?_, ?_, ?_, ?_⟩, fun i hi => ?_, fun c hc => ⟨?_, ?_⟩, fun i hi => ?_, ⟨?_, ?_⟩, fun z => ⟨?_, ?_⟩, fun i _ ia ib => ⟨?_, ?_⟩⟩
  · rw [pour_V hab]; simp
  · rw [pour_V hab]; simp
  · rw [pour_V hab]; simp
  · rw [pour_V hab]; simp
  · rw [pour_V hab]; simp [show ¬ e = ne by omega]
  · rw [pour_V hab]; simp [show ¬ e = ne by omega]
  · rw [pour_V hab]; simp [show ¬ e = ne by omega]
  · rw [pour_V hab]; simp [show ¬ e = ne by omega]
  · rw [pour_V hab]; simp
  · rw [pour_V hab]; simp
  · rw [pour_V hab]; simp
  · rw [pour_V hab]; simp
  · rw [pour_V hab]; simp [show ¬ i = 4 * ne + 3 by omega, show ¬ i = 4 * ne + 2 by omega, show ¬ i = 4 * ne + 1 by omega, show ¬ i = 4 * ne by omega]
  · rw [pour_W]; simp [hc]
  · rw [pour_W]
    unfold ctr
    simp
  · rw [pour_W]; simp [show ¬ 5 * ne ≤ i by omega]
  · rw [pour_V hab]; simp [hab, Int32.sub_eq_add_neg]
  · rw [pour_V hab]; simp [hab, Int32.sub_eq_add_neg]
  · rw [pour_V hab]; simp [Int32.sub_eq_add_neg]
  · rw [pour_V hab]; simp [Int32.sub_eq_add_neg]
  · rw [pour_V hab]; simp [ia, ib]
  · rw [pour_V hab]; simp [ia, ib]
end PR
