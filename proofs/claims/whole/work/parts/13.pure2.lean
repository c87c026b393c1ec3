/-! the kinds above a kind, and what a body overrides: the least set that holds what it may see and is closed -/
def upn (ab : Nat → Option Nat) : Nat → Nat → Option Nat
  | 0, k => some k
  | t + 1, k => match ab k with
    | none => none
    | some x => upn ab t x
def An (ab : Nat → Option Nat) (k u : Nat) : Prop := ∃ t, upn ab (t + 1) k = some u
theorem upn_s {ab : Nat → Option Nat} {k x t : Nat} (h : ab k = some x) : upn ab (t + 1) k = upn ab t x := by
  show (match ab k with
    | none => none
    | some x => upn ab t x) = _
  rw [h]
theorem upn_n {ab : Nat → Option Nat} {k t : Nat} (h : ab k = none) : upn ab (t + 1) k = none := by
  show (match ab k with
    | none => none
    | some x => upn ab t x) = _
  rw [h]
theorem upn_lt {ab : Nat → Option Nat} {n : Nat} (hab : kf_ok ab n) : ∀ (t k u : Nat), k < n → upn ab t k = some u → u + t ≤ k := by
  intro t
  induction t with
  | zero => intro k u _ h; cases h; omega
  | succ t ih =>
    intro k u hk h
    cases hx : ab k with
    | none => rw [upn_n hx] at h; cases h
    | some x =>
      rw [upn_s hx] at h
      have h1 := hab k x hk hx
      have := ih x u (by omega) h
      omega
theorem upn_add {ab : Nat → Option Nat} : ∀ (s t k x : Nat), upn ab s k = some x → upn ab (s + t) k = upn ab t x := by
  intro s
  induction s with
  | zero => intro t k x h; cases h; rw [Nat.zero_add]
  | succ s ih =>
    intro t k x h
    cases hx : ab k with
    | none => rw [upn_n hx] at h; cases h
    | some z =>
      rw [upn_s hx] at h
      rw [show s + 1 + t = (s + t) + 1 by omega, upn_s hx]
      exact ih t z x h
theorem upn_succ {ab : Nat → Option Nat} {t k x : Nat} (h : upn ab t k = some x) : upn ab (t + 1) k = ab x := by
  rw [upn_add t 1 k x h]
  cases hx : ab x with
  | none => exact upn_n hx
  | some z => rw [upn_s hx]; rfl
theorem upn_down {ab : Nat → Option Nat} : ∀ (t s k u : Nat), upn ab t k = some u → s ≤ t → ∃ x, upn ab s k = some x := by
  intro t
  induction t with
  | zero => intro s k u h hs; exact ⟨k, by rw [show s = 0 by omega]; rfl⟩
  | succ t ih =>
    intro s k u h hs
    cases hx : ab k with
    | none => rw [upn_n hx] at h; cases h
    | some z =>
      rw [upn_s hx] at h
      cases s with
      | zero => exact ⟨k, rfl⟩
      | succ s =>
        rw [upn_s hx]
        exact ih s z u h (by omega)
theorem An.one {ab : Nat → Option Nat} {k x : Nat} (h : ab k = some x) : An ab k x := ⟨0, by rw [upn_s h]; rfl⟩
theorem An.trans {ab : Nat → Option Nat} {k x u : Nat} (h1 : An ab k x) (h2 : An ab x u) : An ab k u := by
  obtain ⟨s, hs⟩ := h1
  obtain ⟨t, ht⟩ := h2
  exact ⟨s + (t + 1), by rw [show s + (t + 1) + 1 = (s + 1) + (t + 1) by omega, upn_add _ _ _ _ hs]; exact ht⟩
theorem An.lt {ab : Nat → Option Nat} {n k u : Nat} (hab : kf_ok ab n) (hk : k < n) (h : An ab k u) : u < k := by
  obtain ⟨t, ht⟩ := h
  have := upn_lt hab _ _ _ hk ht
  omega
theorem An.cases {ab : Nat → Option Nat} {k u : Nat} (h : An ab k u) : ∃ x, ab k = some x ∧ (x = u ∨ An ab x u) := by
  obtain ⟨t, ht⟩ := h
  cases hx : ab k with
  | none => rw [upn_n hx] at ht; cases ht
  | some x =>
    rw [upn_s hx] at ht
    refine ⟨x, rfl, ?_⟩
    cases t with
    | zero => exact Or.inl (Option.some.inj ht)
    | succ t => exact Or.inr ⟨t, ht⟩
/-- two kinds above one: one of them is above the other -/
theorem An.lin {ab : Nat → Option Nat} {k x u : Nat} (h1 : An ab k x) (h2 : An ab k u) : x = u ∨ An ab x u ∨ An ab u x := by
  obtain ⟨s, hs⟩ := h1
  obtain ⟨t, ht⟩ := h2
  rcases Nat.lt_trichotomy s t with h | h | h
  · refine Or.inr (Or.inl ⟨t - s - 1, ?_⟩)
    have := upn_add (s + 1) (t - s) k x hs
    rw [show s + 1 + (t - s) = t + 1 by omega, ht] at this
    rw [show t - s - 1 + 1 = t - s by omega]
    exact this.symm
  · subst h
    rw [hs] at ht
    exact Or.inl (Option.some.inj ht)
  · refine Or.inr (Or.inr ⟨s - t - 1, ?_⟩)
    have := upn_add (t + 1) (s - t) k u ht
    rw [show t + 1 + (s - t) = s + 1 by omega, hs] at this
    rw [show s - t - 1 + 1 = s - t by omega]
    exact this.symm
theorem kfind_An {ab : Nat → Option Nat} {n : Nat} (hab : kf_ok ab n) (hn : n ≤ 63) (u : Nat) : ∀ (f : Nat) (k : Nat), k < f → k < n → ((kfind ab (fun x => Nat.beq x u) (ab k)).isSome = true ↔ An ab k u) := by
  intro f
  induction f with
  | zero => intro k h; exact absurd h (Nat.not_lt_zero k)
  | succ f ih =>
    intro k h1 h2
    cases hx : ab k with
    | none =>
      refine ⟨(fun h => by cases h), fun h => ?_⟩
      obtain ⟨x, hx', -⟩ := h.cases
      rw [hx] at hx'
      cases hx'
    | some x =>
      have hlt := hab k x h2 hx
      rw [kfind_some hab hn (show x < n by omega)]
      cases hb : Nat.beq x u with
      | true =>
        have e := Nat.eq_of_beq_eq_true hb
        subst e
        exact ⟨fun _ => An.one hx, fun _ => rfl⟩
      | false =>
        have ne := Nat.ne_of_beq_eq_false hb
        refine (show ((kfind ab (fun x => Nat.beq x u) (ab x)).isSome = true ↔ An ab k u) from ?_)
        rw [ih x (by omega) (by omega)]
        refine ⟨fun h => (An.one hx).trans h, fun h => ?_⟩
        obtain ⟨x', hx', h'⟩ := h.cases
        rw [hx] at hx'
        cases hx'
        exact h'.resolve_left ne
def OV (ab : Nat → Option Nat) (E : Nat → Nat → Bool) (k j : Nat) : Prop := ∀ S : Nat → Prop, (∀ u, An ab k u → E k u = true → S u) → (∀ x z, S x → An ab x z → E x z = true → S z) → S j
theorem OV.one {ab : Nat → Option Nat} {E : Nat → Nat → Bool} {k u : Nat} (h : An ab k u) (he : E k u = true) : OV ab E k u := fun _ h1 _ => h1 u h he
theorem OV.step {ab : Nat → Option Nat} {E : Nat → Nat → Bool} {k x z : Nat} (h : OV ab E k x) (ha : An ab x z) (he : E x z = true) : OV ab E k z := fun S h1 h2 => h2 x z (h S h1 h2) ha he
theorem OV.trans {ab : Nat → Option Nat} {E : Nat → Nat → Bool} {k x z : Nat} (h : OV ab E k x) (h2 : OV ab E x z) : OV ab E k z := h2 (fun u => OV ab E k u) (fun u ha he => h.step ha he) (fun a b ha hb he => OV.step ha hb he)
theorem OV.an {ab : Nat → Option Nat} {E : Nat → Nat → Bool} {k j : Nat} (h : OV ab E k j) : An ab k j := h (fun u => An ab k u) (fun _ ha _ => ha) (fun _ _ ha hb _ => ha.trans hb)
theorem OV.edge {ab : Nat → Option Nat} {E : Nat → Nat → Bool} {k j : Nat} (h : OV ab E k j) : ∃ x, E x j = true := h (fun u => ∃ x, E x u = true) (fun _ _ he => ⟨_, he⟩) (fun _ _ _ _ he => ⟨_, he⟩)
noncomputable def ovB (ab : Nat → Option Nat) (E : Nat → Nat → Bool) (k j : Nat) : Bool := @decide (OV ab E k j) (Classical.propDecidable _)
theorem ovB_iff {ab : Nat → Option Nat} {E : Nat → Nat → Bool} {k j : Nat} : ovB ab E k j = true ↔ OV ab E k j := @decide_eq_true_iff _ (Classical.propDecidable _)
