/-! judge: its fault is the least of all -/
theorem MinF.no {P Q : Nat → Nat → Prop} {fp : fp_T} (h : MinF P fp) (hQ : ∀ p f, Q p f → P p f) : MinF (fun p f => P p f ∨ Q p f) fp := h.ext (fun p f => ⟨Or.inl, fun z => z.elim id (hQ p f)⟩)
theorem MinF.yes {P Q : Nat → Nat → Prop} {fp : fp_T} {p f : Nat} (h : MinF P fp) (hf : 1 ≤ f ∧ f ≤ 7) (hp : p < 2 ^ 31) (hQ : ∀ p' f', Q p' f' ↔ (p' = p ∧ f' = f)) : MinF (fun p f => P p f ∨ Q p f) (flt fp (nI f) (nI p)) := h.add hf hp (fun p' f' => ⟨fun z => z.elim Or.inl (fun y => Or.inr ((hQ p' f').mp y)), fun z => z.elim Or.inl (fun y => Or.inr ((hQ p' f').mpr y))⟩)
/-- what a kind above tells of a body -/
def QJ (M : mw_S) (ab : Nat → Option Nat) (k q p j : Nat) (p' f' : Nat) : Prop := p' = p ∧ rm_has M q k = true ∧ ovB ab (rm_E M q) k j = true ∧ ((f' = 5 ∧ ¬ M.2.2.1 10 (6 * j + q) = 0) ∨ (f' = 4 ∧ ¬ M.2.2.1 9 (6 * k + q) ≤ M.2.2.1 9 (6 * j + q)))
theorem jbS_m {M : mw_S} {ab : Nat → Option Nat} {k q p j : Nat} {P : Nat → Nat → Prop} {fp : fp_T} (hp : p < 2 ^ 31) (h : MinF P fp) : MinF (fun a b => P a b ∨ QJ M ab k q p j a b) (jbS M ab k q (nI p) j fp) := by
  unfold jbS
  cases ho : (rm_has M q k && ovB ab (rm_E M q) k j) with
  | false =>
    rw [if_pos (by decide)]
    refine h.no (fun a b z => absurd (Bool.and_eq_true_iff.mpr ⟨z.2.1, z.2.2.1⟩) (by rw [ho]; decide))
  | true =>
    rw [if_neg (by decide)]
    have ho := Bool.and_eq_true_iff.mp ho
    have h5 : MinF (fun a b => P a b ∨ (a = p ∧ b = 5 ∧ ¬ M.2.2.1 10 (6 * j + q) = 0)) (if M.2.2.1 10 (6 * j + q) = 0 then fp else flt fp 5 (nI p)) := by
      by_cases c : M.2.2.1 10 (6 * j + q) = 0
      · rw [if_pos c]; exact h.no (fun a b z => absurd c z.2.2)
      · rw [if_neg c]; exact h.yes (f := 5) (by decide) hp (fun a b => ⟨fun z => ⟨z.1, z.2.1⟩, fun z => ⟨z.1, z.2, c⟩⟩)
    by_cases c4 : M.2.2.1 9 (6 * k + q) ≤ M.2.2.1 9 (6 * j + q)
    · rw [if_pos c4]
      refine h5.ext (fun a b => ⟨fun z => z.elim Or.inl (fun y => Or.inr ⟨y.1, ho.1, ho.2, Or.inl y.2⟩), fun z => z.elim Or.inl (fun y => ?_)⟩)
      rcases y.2.2.2 with w | w
      · exact Or.inr ⟨y.1, w⟩
      · exact absurd c4 w.2
    · rw [if_neg c4]
      refine (h5.yes (Q := fun a b => a = p ∧ b = 4) (f := 4) (by decide) hp (fun a b => Iff.rfl)).ext (fun a b => ⟨fun z => ?_, fun z => ?_⟩)
      · rcases z with (z | z) | z
        · exact Or.inl z
        · exact Or.inr ⟨z.1, ho.1, ho.2, Or.inl z.2⟩
        · exact Or.inr ⟨z.1, ho.1, ho.2, Or.inr ⟨z.2, c4⟩⟩
      · rcases z with z | ⟨z, -, -, w | w⟩
        · exact Or.inl (Or.inl z)
        · exact Or.inl (Or.inr ⟨z, w⟩)
        · exact Or.inr ⟨z, w.1⟩
theorem jbA_m {M : mw_S} {ab : Nat → Option Nat} {k q p n : Nat} (hp : p < 2 ^ 31) (hab : kf_ok ab n) : ∀ (F : Nat) (c : Option Nat) (P : Nat → Nat → Prop) (fp : fp_T), kf_lt F c → kf_lt n c → MinF P fp → MinF (fun a b => P a b ∨ ∃ j, rem ab c j ∧ QJ M ab k q p j a b) (jbA M ab k q (nI p) F c fp) := by
  have nil : ∀ (P : Nat → Nat → Prop) (fp : fp_T), MinF P fp → MinF (fun a b => P a b ∨ ∃ j, rem ab none j ∧ QJ M ab k q p j a b) fp := fun P fp h => h.no (fun a b z => by
    obtain ⟨j, (y | ⟨x, y, -⟩), -⟩ := z
    · cases y
    · cases y)
  intro F
  induction F with
  | zero =>
    intro c P fp hf hn h
    cases c with
    | none => exact nil P fp h
    | some x => exact absurd hf (Nat.not_lt_zero x)
  | succ F ih =>
    intro c P fp hf hn h
    cases c with
    | none => exact nil P fp h
    | some x =>
      have hx : x < n := hn
      refine (ih (ab x) _ _ ?_ (kf_ab hab hx) (jbS_m (M := M) (ab := ab) (k := k) (q := q) (j := x) hp h)).ext (fun a b => ⟨fun z => ?_, fun z => ?_⟩)
      · cases w : ab x with
        | none => trivial
        | some y => exact Nat.lt_of_lt_of_le (hab x y hx w) (by have : x < F + 1 := hf; omega)
      · rcases z with (z | z) | ⟨j, z1, z2⟩
        · exact Or.inl z
        · exact Or.inr ⟨x, rem_s.mpr (Or.inl rfl), z⟩
        · exact Or.inr ⟨j, rem_s.mpr (Or.inr z1), z2⟩
      · rcases z with z | ⟨j, z1, z2⟩
        · exact Or.inl (Or.inl z)
        · rcases rem_s.mp z1 with y | y
          · rw [y] at z2; exact Or.inl (Or.inr z2)
          · exact Or.inr ⟨j, y, z2⟩
def QB (M : mw_S) (ab : Nat → Option Nat) (x p' f' : Nat) : Prop := ∃ j, An ab (M.2.2.1 38 x).toNatClampNeg j ∧ QJ M ab (M.2.2.1 38 x).toNatClampNeg (M.2.2.1 39 x).toNatClampNeg (M.2.2.1 40 x).toNatClampNeg j p' f'
theorem jd1_m {M : mw_S} {ab : Nat → Option Nat} {n : Nat} (hab : kf_ok ab n) (hn : n ≤ 50) : ∀ (v i : Nat) (P : Nat → Nat → Prop) (fp : fp_T), (∀ x, i ≤ x → x < i + v → (M.2.2.1 38 x).toNatClampNeg < n ∧ ∃ p, M.2.2.1 40 x = nI p ∧ p < 2 ^ 31) → MinF P fp → MinF (fun a b => P a b ∨ ∃ x, i ≤ x ∧ x < i + v ∧ QB M ab x a b) (jd1F M ab v i fp) := by
  intro v
  induction v with
  | zero => intro i P fp _ h; exact h.no (fun a b z => by obtain ⟨x, z1, z2, -⟩ := z; omega)
  | succ v ih =>
    intro i P fp hr h
    obtain ⟨hk, p, hp, hp2⟩ := hr i (Nat.le_refl _) (by omega)
    have e : (M.2.2.1 40 i).toNatClampNeg = p := by rw [hp, nI_clamp hp2]
    refine (ih (i + 1) _ _ (fun x z1 z2 => hr x (by omega) (by omega)) (jbA_m (M := M) (k := (M.2.2.1 38 i).toNatClampNeg) (q := (M.2.2.1 39 i).toNatClampNeg) hp2 hab 64 (ab (M.2.2.1 38 i).toNatClampNeg) P fp (kf_ab64 hab hk (by omega)) (kf_ab hab hk) h)).ext (fun a b => ⟨fun z => ?_, fun z => ?_⟩) |> fun w => by rw [← hp] at w; exact w
    · rcases z with (z | ⟨j, z1, z2⟩) | ⟨x, z1, z2, z3⟩
      · exact Or.inl z
      · exact Or.inr ⟨i, Nat.le_refl _, by omega, j, rem_An.mp z1, by rw [e]; exact z2⟩
      · exact Or.inr ⟨x, by omega, by omega, z3⟩
    · rcases z with z | ⟨x, z1, z2, z3⟩
      · exact Or.inl (Or.inl z)
      · by_cases c : x = i
        · rw [c] at z3
          obtain ⟨j, y1, y2⟩ := z3
          rw [e] at y2
          exact Or.inl (Or.inr ⟨j, rem_An.mpr y1, y2⟩)
        · exact Or.inr ⟨x, by omega, by omega, z3⟩
noncomputable def uF (M : mw_S) (ab : Nat → Option Nat) (i : Nat) : Nat := if M.2.2.1 44 i = 8 then (if M.2.2.1 43 i = 0 then 0 else 7) else if rn_fnd M ab (M.2.2.1 42 i).toNatClampNeg (M.2.2.1 45 i).toNatClampNeg (if M.2.2.1 44 i = 1 then ab (M.2.2.1 42 i).toNatClampNeg else some (M.2.2.1 42 i).toNatClampNeg) = none then 6 else 0
theorem juS_m {M : mw_S} {ab : Nat → Option Nat} {i p : Nat} {P : Nat → Nat → Prop} {fp : fp_T} (hp : M.2.2.1 46 i = nI p) (hp2 : p < 2 ^ 31) (h : MinF P fp) : MinF (fun a b => P a b ∨ (a = p ∧ b = uF M ab i ∧ ¬ b = 0)) (juS M ab i fp) := by
  unfold juS uF
  by_cases c8 : M.2.2.1 44 i = 8
  · rw [if_pos c8, if_pos c8]
    by_cases c0 : M.2.2.1 43 i = 0
    · rw [if_pos c0, if_pos c0]; exact h.no (fun a b z => absurd z.2.1 z.2.2)
    · rw [if_neg c0, if_neg c0, hp]; exact h.yes (f := 7) (by decide) hp2 (fun a b => ⟨fun z => ⟨z.1, z.2.1⟩, fun z => ⟨z.1, z.2, by omega⟩⟩)
  · rw [if_neg c8, if_neg c8]
    by_cases c0 : rn_fnd M ab (M.2.2.1 42 i).toNatClampNeg (M.2.2.1 45 i).toNatClampNeg (if M.2.2.1 44 i = 1 then ab (M.2.2.1 42 i).toNatClampNeg else some (M.2.2.1 42 i).toNatClampNeg) = none
    · rw [if_pos c0, if_pos c0, hp]; exact h.yes (f := 6) (by decide) hp2 (fun a b => ⟨fun z => ⟨z.1, z.2.1⟩, fun z => ⟨z.1, z.2, by omega⟩⟩)
    · rw [if_neg c0, if_neg c0]; exact h.no (fun a b z => absurd z.2.1 z.2.2)
theorem jd2_m {M : mw_S} {ab : Nat → Option Nat} : ∀ (v i : Nat) (P : Nat → Nat → Prop) (fp : fp_T), (∀ x, i ≤ x → x < i + v → ∃ p, M.2.2.1 46 x = nI p ∧ p < 2 ^ 31) → MinF P fp → MinF (fun a b => P a b ∨ ∃ x, i ≤ x ∧ x < i + v ∧ a = (M.2.2.1 46 x).toNatClampNeg ∧ b = uF M ab x ∧ ¬ b = 0) (jd2F M ab v i fp) := by
  intro v
  induction v with
  | zero => intro i P fp _ h; exact h.no (fun a b z => by obtain ⟨x, z1, z2, -⟩ := z; omega)
  | succ v ih =>
    intro i P fp hr h
    obtain ⟨p, hp, hp2⟩ := hr i (Nat.le_refl _) (by omega)
    have e : (M.2.2.1 46 i).toNatClampNeg = p := by rw [hp, nI_clamp hp2]
    refine (ih (i + 1) _ _ (fun x z1 z2 => hr x (by omega) (by omega)) (juS_m (ab := ab) hp hp2 h)).ext (fun a b => ⟨fun z => ?_, fun z => ?_⟩)
    · rcases z with (z | z) | ⟨x, z1, z2, z3⟩
      · exact Or.inl z
      · exact Or.inr ⟨i, Nat.le_refl _, by omega, by rw [e]; exact z⟩
      · exact Or.inr ⟨x, by omega, by omega, z3⟩
    · rcases z with z | ⟨x, z1, z2, z3⟩
      · exact Or.inl (Or.inl z)
      · by_cases c : x = i
        · rw [c, e] at z3; exact Or.inl (Or.inr z3)
        · exact Or.inr ⟨x, by omega, by omega, z3⟩
