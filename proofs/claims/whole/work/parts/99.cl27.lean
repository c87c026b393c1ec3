/-! act: what stays, and the reference's memory behind it -/
theorem bqf {f n : Nat} (h : ¬ f = n) : Nat.beq f n = false := by
  cases e : Nat.beq f n with
  | false => rfl
  | true => exact absurd (Nat.eq_of_beq_eq_true e) h
theorem ruF_o {f : Nat} (h8 : ¬ f = 8) (h9 : ¬ f = 9) (h14 : ¬ f = 14) (h15 : ¬ f = 15) (j : Nat) : ruF f j = true := by
  unfold ruF
  rw [bqf h8, bqf h9, bqf h14, bqf h15]
  rfl
section ACR
variable {p : Nat → Nat → Bool} {q : Nat → Bool} {ad ad1 : Nat → Nat → Nat} {C C1 C' : cw_C} {M M0 M1 M' Mf : mw_S} {ab : Nat → Option Nat} {oK oQ : Nat → Nat} {app K nk np na nA ne nb nt n e v y f i j : Nat} {B : rB_T} {T : Nat} {a x : Int32} {w : Int32 × mw_S} {H : hS}
theorem nD_L (h : nD p C1 = nD p C) {f i j : Nat} (hf : p f j = true) : cL C1 f i j = cL C f i j := by
  have e := congrArg (fun z => z.2.1 i j) (congrFun h f)
  have e : (bif p f j then (C1 f).2.1 i j else 0) = (bif p f j then (C f).2.1 i j else 0) := e
  rw [hf] at e
  exact e
theorem nD_N (h : nD p C1 = nD p C) {f : Nat} (hf : p f 99 = true) : cN C1 f = cN C f := by
  have e := congrArg (fun z => z.2.2.2) (congrFun h f)
  have e : (bif p f 99 then (C1 f).2.2.2 else 0) = (bif p f 99 then (C f).2.2.2 else 0) := e
  rw [hf] at e
  exact e
theorem rF.fam (h : rF app C C') (h8 : ¬ f = 8) (h9 : ¬ f = 9) (h14 : ¬ f = 14) (h15 : ¬ f = 15) : C' f = C f := by
  have u := ruF_o h8 h9 h14 h15
  exact Prod.ext (funext fun i => funext fun j => nD_I h.1 (u j)) (Prod.ext (funext fun i => funext fun j => nD_L h.1 (u j)) (Prod.ext (funext fun i => funext fun j => nD_R h.1 (u j)) (nD_N h.1 (u 99))))
theorem rF.nC (h : rF app C C') (h8 : q 8 = false) (h9 : q 9 = false) (h14 : q 14 = false) (h15 : q 15 = false) : nC q C' = nC q C := nC_eq (fun f hf => h.fam (fun z => by rw [z, h8] at hf; cases hf) (fun z => by rw [z, h9] at hf; cases hf) (fun z => by rw [z, h14] at hf; cases hf) (fun z => by rw [z, h15] at hf; cases hf))
theorem rF.nD (h : rF app C C') (h8 : ∀ j, p 8 j = false) (h9 : ∀ j, p 9 j = false) (h14 : ∀ j, p 14 j = false) (h15 : ∀ j, p 15 j = false) : nD p C' = nD p C := nD_o (fun g => by
  by_cases e8 : g = 8
  · subst e8; exact Or.inl h8
  by_cases e9 : g = 9
  · subst e9; exact Or.inl h9
  by_cases e14 : g = 14
  · subst e14; exact Or.inl h14
  by_cases e15 : g = 15
  · subst e15; exact Or.inl h15
  exact Or.inr (h.fam e8 e9 e14 e15))
/-- what an act leaves as it is, from its template's beginning to its end -/
def fsame (app : Nat) (M M' : mw_S) : Prop := (∀ j, ¬ (j = 63 ∨ j = 64 ∨ j = 65 ∨ j = 67 ∨ j = 68 ∨ j = 72) → M'.1 j = M.1 j) ∧ (∀ j i, ¬ j = 69 → ¬ j = 70 → ¬ j = 71 → ¬ j = 73 → (¬ j = 51 ∧ ¬ j = 52 ∨ ¬ i = app) → M'.2.2.1 j i = M.2.2.1 j i) ∧ ∀ j i, (¬ j = 53 ∨ ¬ i = 1 ∧ ¬ i = 2 ∧ ¬ i = 4) → M'.2.2.2.1 j i = M.2.2.2.1 j i
theorem fsame.refl : fsame app M M := ⟨fun _ _ => rfl, fun _ _ _ _ _ _ _ => rfl, fun _ _ _ => rfl⟩
theorem fsame.trans (h : fsame app M M0) (h' : fsame app M0 M1) : fsame app M M1 := ⟨fun j z => (h'.1 j z).trans (h.1 j z), fun j i a b c d e => (h'.2.1 j i a b c d e).trans (h.2.1 j i a b c d e), fun j i e => (h'.2.2 j i e).trans (h.2.2 j i e)⟩
theorem fsame.of (h : rn_same M M') (ha : rn_app M = app) : fsame app M M' := ⟨fun j z => h.1 j (fun y => z (by omega)) (fun y => z (by omega)) (fun y => z (by omega)) (fun y => z (by omega)), fun j i a b c d e => h.2.2.1 j i a b c d (by rw [ha]; exact e), fun j i e => h.2.2.2.1 j i e⟩
theorem fsame_63 : fsame app M (mw_setS M 63 x) := ⟨fun j z => if_neg (fun y => z (Or.inl y)), fun _ _ _ _ _ _ _ => rfl, fun _ _ _ => rfl⟩
theorem fsame_65 : fsame app M (mw_setS M 65 x) := ⟨fun j z => if_neg (fun y => z (Or.inr (Or.inr (Or.inl y)))), fun _ _ _ _ _ _ _ => rfl, fun _ _ _ => rfl⟩
def cde (x : Int32) : Prop := x = 0 ∨ x = 1 ∨ x = 2 ∨ x = 3
/-- a stage of the template -/
def stg (ab : Nat → Option Nat) (nk nA : Nat) (oK oQ : Nat → Nat) (app K : Nat) (M0 M : mw_S) (e : Nat) : Prop := rn_G M nk nA ab oK oQ app K ∧ (∃ t, rn_I M e t 0) ∧ rn_H M ∧ fsame app M0 M
theorem stg.next (h : stg ab nk nA oK oQ app K M0 M e) (he : e + 1 ≤ 6) (h0K : Ae ab K 0) {q : Nat} (hq : q < 6) : stg ab nk nA oK oQ app K M0 (rnH ab M q).2 (e + 1) ∧ cde (rnH ab M q).1 := by
  obtain ⟨h1, ⟨t, h2⟩, h3, h4⟩ := h
  obtain ⟨hs, ⟨t', -, hI⟩, hc⟩ := rnH_post h1 h2 he h0K hq (h3 q hq)
  have ha : rn_app M = app := by unfold rn_app; rw [h1.2.2.1.1, nI_clamp (by have := h1.2.2.1.2; omega)]
  exact ⟨⟨h1.same hs, ⟨t', hI⟩, fun q' hq' => by rw [hs.has]; exact h3 q' hq', h4.trans (fsame.of hs ha)⟩, hc⟩
theorem stg.s63 (h : stg ab nk nA oK oQ app K M0 M e) : stg ab nk nA oK oQ app K M0 (mw_setS M 63 x) e := ⟨h.1, h.2.1, h.2.2.1, h.2.2.2.trans fsame_63⟩
theorem stg.s65 (h : stg ab nk nA oK oQ app K M0 M e) : stg ab nk nA oK oQ app K M0 (mw_setS M 65 0) e := by
  obtain ⟨h1, ⟨t, h2⟩, h3, h4⟩ := h
  rw [mw_setS_self (show M.1 65 = 0 from h2.2.1.1)]
  exact ⟨h1, ⟨t, h2⟩, h3, h4⟩
theorem stg_W (h0K : Ae ab K 0) : ∀ (v q e : Nat) (w : Int32 × mw_S), stg ab nk nA oK oQ app K M0 w.2 e → cde w.1 → e + v ≤ 6 → q + v ≤ 6 → ∃ e', e' ≤ e + v ∧ stg ab nk nA oK oQ app K M0 (rnW ab v q w).2 e' ∧ cde (rnW ab v q w).1 := by
  intro v
  induction v with
  | zero => intro q e w h hc _ _; exact ⟨e, Nat.le_refl _, h, hc⟩
  | succ v ih =>
    intro q e w h hc he hq
    show ∃ e', e' ≤ e + (v + 1) ∧ stg ab nk nA oK oQ app K M0 (if w.1 = 0 then rnW ab v (q + 1) (rnH ab w.2 q) else w).2 e' ∧ cde (if w.1 = 0 then rnW ab v (q + 1) (rnH ab w.2 q) else w).1
    split
    · obtain ⟨a, b⟩ := h.next (by omega) h0K (q := q) (by omega)
      obtain ⟨e', e1, e2, e3⟩ := ih (q + 1) (e + 1) (rnH ab w.2 q) a b (by omega) (by omega)
      exact ⟨e', by omega, e2, e3⟩
    · exact ⟨e, by omega, h, hc⟩
theorem stg_70 (h0K : Ae ab K 0) (h : stg ab nk nA oK oQ app K M0 w.2 e) (hc : cde w.1) (he : e + 1 ≤ 6) : fsame app M0 (fl70 ab w).2.2 ∧ cde (fl70 ab w).1 := by
  unfold fl70
  obtain ⟨a, b⟩ := (stg.s65 h).next he h0K (q := 5) (by decide)
  split
  · exact ⟨h.2.2.2, Or.inr (Or.inr (Or.inr rfl))⟩
  · refine ⟨a.2.2.2, ?_⟩
    show cde (if _ = _ then _ else _)
    split
    · exact Or.inr (Or.inr (Or.inr rfl))
    · split
      · exact b
      · exact hc
theorem stg_0 (h0K : Ae ab K 0) (h : stg ab nk nA oK oQ app K M0 M 0) : fsame app M0 (fl0 ab (rnH ab M 0)).2.2 ∧ cde (fl0 ab (rnH ab M 0)).1 := by
  obtain ⟨a, b⟩ := h.next (by decide) h0K (q := 0) (by decide)
  unfold fl0
  split
  · exact ⟨(stg.s63 a).2.2.2, Or.inr (Or.inr (Or.inl rfl))⟩
  · obtain ⟨e', e1, e2, e3⟩ := stg_W h0K 4 1 1 ((rnH ab M 0).1, mw_setS (rnH ab M 0).2 63 0) (stg.s63 a) b (by decide) (by decide)
    exact stg_70 h0K e2 e3 (by omega)
theorem ac0_Vf {k l : Nat} : (ac0 M n app a).2.2.1 l k = if l = 59 ∧ k = 4 * n + 3 then M.2.2.1 52 app else if l = 59 ∧ k = 4 * n + 2 then M.2.2.1 51 app else if l = 59 ∧ k = 4 * n + 1 then M.2.2.1 52 app else if l = 59 ∧ k = 4 * n then M.2.2.1 51 app else if l = 58 ∧ k = n then nI app else if l = 57 ∧ k = n then a else if l = 56 ∧ k = n then nI app else if l = 55 ∧ k = n then 0 else M.2.2.1 l k := rfl
theorem ac0_Wf {k l : Nat} : (ac0 M n app a).2.2.2.1 l k = if l = 60 ∧ 5 * n ≤ k ∧ k < 5 * n + 5 then M.2.2.2.1 53 (k - 5 * n) else M.2.2.2.1 l k := rfl
theorem ac0_Vo {k l : Nat} (h : ¬ (55 ≤ l ∧ l ≤ 59)) : (ac0 M n app a).2.2.1 l k = M.2.2.1 l k := by
  rw [ac0_Vf, if_neg (by omega), if_neg (by omega), if_neg (by omega), if_neg (by omega), if_neg (by omega), if_neg (by omega), if_neg (by omega), if_neg (by omega)]
theorem ac0_Wo {k l : Nat} (h : ¬ l = 60) : (ac0 M n app a).2.2.2.1 l k = M.2.2.2.1 l k := by
  rw [ac0_Wf, if_neg (by omega)]
theorem ac0_So {l : Nat} (h : l < 61 ∨ 72 < l ∨ l = 64) : (ac0 M n app a).1 l = M.1 l := by
  rw [ac0_S]
  unfold mw_u
  rw [if_neg (by omega), if_neg (by omega), if_neg (by omega), if_neg (by omega), if_neg (by omega), if_neg (by omega), if_neg (by omega), if_neg (by omega)]
/-- fields beyond the vessels and the act's own -/
theorem nM_ac (fs : fsame app (ac0 M n app a) Mf) (hq : ∀ j, j < 74 → 51 ≤ j → q j = false) : nM q Mf = nM q M := nM_eq (fun j hj => by
  have hj2 : j < 51 ∨ 74 ≤ j := by
    rcases Nat.lt_or_ge j 51 with z | z
    · exact Or.inl z
    · rcases Nat.lt_or_ge j 74 with y | y
      · rw [hq j y z] at hj; cases hj
      · exact Or.inr y
  refine ⟨(fs.1 j (by omega)).trans (ac0_So (by omega)), funext fun i => (fs.2.1 j i (by omega) (by omega) (by omega) (by omega) (Or.inl ⟨by omega, by omega⟩)).trans (ac0_Vo (by omega)), funext fun i => (fs.2.2 j i (Or.inl (by omega))).trans (ac0_Wo (by omega))⟩)
end ACR
