/-! pack: the text was read and something in it is wrong, or there is no room -/
section JS
variable {M : mw_S} {ab : Nat → Option Nat} {x : Int32}
theorem jbA_S {k q : Nat} {p : Int32} : ∀ (f : Nat) (c : Option Nat) (fp : fp_T), jbA (mw_setS M 1 x) ab k q p f c fp = jbA M ab k q p f c fp := by
  intro f
  induction f with
  | zero => intro c fp; rfl
  | succ f ih_ =>
    intro c fp
    cases c with
    | none => rfl
    | some j => exact ih_ (ab j) (jbS M ab k q p j fp)
theorem jd1F_S : ∀ (v i : Nat) (fp : fp_T), jd1F (mw_setS M 1 x) ab v i fp = jd1F M ab v i fp := by
  intro v
  induction v with
  | zero => intro i fp; rfl
  | succ v ih_ =>
    intro i fp
    show jd1F (mw_setS M 1 x) ab v (i + 1) (jbA (mw_setS M 1 x) ab (M.2.2.1 38 i).toNatClampNeg (M.2.2.1 39 i).toNatClampNeg (M.2.2.1 40 i) 64 (ab (M.2.2.1 38 i).toNatClampNeg) fp) = _
    rw [jbA_S, ih_]
    rfl
theorem jd2F_S : ∀ (v i : Nat) (fp : fp_T), jd2F (mw_setS M 1 x) ab v i fp = jd2F M ab v i fp := by
  intro v
  induction v with
  | zero => intro i fp; rfl
  | succ v ih_ => intro i fp; exact ih_ (i + 1) (juS M ab i fp)
theorem jdg_S {nb nu : Nat} {fp : fp_T} : jdg (mw_setS M 1 x) ab nb nu fp = jdg M ab nb nu fp := by
  unfold jdg
  rw [jd1F_S, jd2F_S]
end JS
section PKX
variable {G : mm_G} {L : Nat × Nat} {d : Nat} {ad ad1 ad3 : Nat → Nat → Nat} {C C1 C3 C9 : cw_C} {M M' R : mw_S} {ab : Nat → Option Nat} {h h0 hb h1 : mm_H} {nk np na ne nb nt nn a0 g0 f i j n : Nat} {H : hS} {x y : Int32} {tb : Nat → Nat} {fp : fp_T}
theorem pk_hr3 (o : oK (oN C) ad C ad3 C3) (o1 : oK (cN C) ad3 C3 ad3 C1) : ∀ f i, ¬ f = 11 → i < cN C f → i < cN C1 f ∧ ad3 f i = ad f i ∧ (C1 f).1 i = (C f).1 i ∧ (¬ f = 0 → (C1 f).2.1 i = (C f).2.1 i) ∧ (C1 f).2.2.1 i = (C f).2.2.1 i := by
  intro f i hf hi
  have hN : oN C f = cN C f := cu_ne hf
  have z := (o f).2 i (by rw [hN]; exact hi)
  have w := (o1 f).2 i hi
  exact ⟨Nat.lt_of_lt_of_le hi (o1 f).1, z.1, w.2.1.trans z.2.1, fun e => (w.2.2.1 e).trans (z.2.2.1 e), w.2.2.2.trans z.2.2.2⟩
/-- the house's own fields, behind the check -/
def hus (ad : Nat → Nat → Nat) (C : cw_C) (ad3 : Nat → Nat → Nat) (C3 : cw_C) : Prop := ad3 11 0 = ad 11 0 ∧ 0 < cN C3 11 ∧ cI C3 11 0 1 = 0 ∧ cI C3 11 0 2 = -1 ∧ (∀ j, ¬ j = 1 → ¬ j = 2 → cI C3 11 0 j = cI C 11 0 j) ∧ ∀ j, cR C3 11 0 j = cR C 11 0 j
theorem pk_bF (o : oK (oN C) ad C ad3 C3) (hu : hus ad C ad3 C3) (o1 : oK (cN C) ad3 C3 ad3 C1) (e11 : C1 11 = C3 11) (hC : cw ad3 hb (cw_sI C1 11 0 2 x) h1) : cw ad h1 (pkC C x) h1 := by
  obtain ⟨u1, u2, u3, u4, u5, u6⟩ := hu
  refine pk_back hC (fun f i hf hi => ?_) u1 (by rw [cw_sI_N, cN_o e11]; exact u2) (by rw [cI_sI_n (by decide), cI_o e11]; exact u3) cI_sI_e (fun j j1 j2 => by rw [cI_sI_n (fun z => j2 z.2.2), cI_o e11]; exact u5 j j1 j2) (fun j => ?_)
  · have e : cw_sI C1 11 0 2 x f = C1 f := cw_sI_o hf
    rw [cN_o e, e]
    exact pk_hr3 o o1 f i hf hi
  · have e : cR (cw_sI C1 11 0 2 x) 11 0 j = cR C1 11 0 j := by unfold cR; rw [cw_sI_f]
    rw [e, cR_o e11]; exact u6 j
theorem pk_bN (n13 : 0 < cN C 13) (o : oK (oN C) ad C ad3 C3) (hu : hus ad C ad3 C3) (o1 : oK (cN C) ad3 C3 ad3 C1) (e11 : C1 11 = C3 11) (hC : cw ad3 hb (cw_sI (cw_sI C1 11 0 2 (-1)) 13 0 3 (cI C1 13 0 3 + 1)) h1) : cw ad h1 (pkC (cAns C 3) (-1)) h1 := by
  obtain ⟨u1, u2, u3, u4, u5, u6⟩ := hu
  have eA : cAns C 3 = cw_sI C 13 0 3 (cI C 13 0 3 + 1) := if_neg (by decide)
  have hr := pk_hr3 o o1
  have e13 : cI C1 13 0 3 = cI C 13 0 3 := congrFun (hr 13 0 (by decide) n13).2.2.1 3
  rw [e13] at hC
  rw [eA]
  have c11 : cw_sI (cw_sI C1 11 0 2 (-1)) 13 0 3 (cI C 13 0 3 + 1) 11 = cw_sI C1 11 0 2 (-1) 11 := cw_sI_o (by decide)
  refine pk_back hC (fun f i hf hi => ?_) u1 (by rw [cw_sI_N, cw_sI_N, cN_o e11]; exact u2) (by rw [cI_o c11, cI_sI_n (by decide), cI_o e11]; exact u3) (by rw [cI_o c11, cI_sI_e]) (fun j j1 j2 => by rw [cI_o c11, cI_sI_n (fun z => j2 z.2.2), cI_o e11, cI_o (cw_sI_o (by decide))]; exact u5 j j1 j2) (fun j => ?_)
  · rw [cw_sI_N] at hi
    obtain ⟨a1, a2, a3, a4, a5⟩ := hr f i hf hi
    rw [cw_sI_N, cw_sI_N]
    refine ⟨a1, a2, ?_⟩
    have e1 : cw_sI C1 11 0 2 (-1) f = C1 f := cw_sI_o hf
    by_cases z : f = 13
    · subst z
      rw [cw_sI_f, cw_sI_f, e1]
      refine ⟨?_, a4, a5⟩
      show mw_u2 (C1 13).1 0 3 (cI C 13 0 3 + 1) i = mw_u2 (C 13).1 0 3 (cI C 13 0 3 + 1) i
      funext l
      unfold mw_u2
      rw [a3]
    · rw [show cw_sI (cw_sI C1 11 0 2 (-1)) 13 0 3 (cI C 13 0 3 + 1) f = C1 f from (cw_sI_o z).trans e1, show cw_sI C 13 0 3 (cI C 13 0 3 + 1) f = C f from cw_sI_o z]
      exact ⟨a3, a4, a5⟩
  · have e : cR (cw_sI C1 11 0 2 (-1)) 11 0 j = cR C1 11 0 j := by unfold cR; rw [cw_sI_f]
    rw [cR_o c11, e, cR_o e11, cR_o (cw_sI_o (by decide))]; exact u6 j
theorem kk.setF (hK : kk nk a0 g0 M R) : kk nk a0 g0 M (setF R fp) := (hK.sS (j := 31) (fun z => z.1.2.1 rfl)).sS (j := 32) (fun z => z.1.2.2.1 rfl)
theorem kk.ans3 (hK : kk nk a0 g0 M R) : kk nk a0 g0 (rm_ans M 3) (rm_ans R 3) := by
  have e1 : rm_ans M 3 = mw_setV M 2 3 (M.2.2.1 2 3 + 1) := if_neg (by decide)
  have e2 : rm_ans R 3 = mw_setV R 2 3 (R.2.2.1 2 3 + 1) := if_neg (by decide)
  rw [e1, e2]
  refine ⟨hK.1, hK.2.1, hK.2.2.1, hK.2.2.2.1, fun j i hv => ?_⟩
  show mw_u2 R.2.2.1 2 3 _ j i = mw_u2 M.2.2.1 2 3 _ j i
  by_cases z : j = 2 ∧ i = 3
  · obtain ⟨rfl, rfl⟩ := z
    rw [cu2_eq, cu2_eq, hK.2.2.2.2 2 3 (by unfold kkV; omega)]
  · rw [cu2_ne z, cu2_ne z]; exact hK.2.2.2.2 j i hv
end PKX
