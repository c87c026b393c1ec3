/-! trees of kinds, by the kind above; the first one on the way up with P -/
def kf (ab : Nat → Option Nat) (P : Nat → Bool) : Nat → Option Nat → Option Nat
  | 0, _ => none
  | _ + 1, none => none
  | f + 1, some x => bif P x then some x else kf ab P f (ab x)
/-- ab goes down -/
def kf_ok (ab : Nat → Option Nat) (n : Nat) : Prop := ∀ i j, i < n → ab i = some j → j < i
def kf_lt (n : Nat) : Option Nat → Prop
  | none => True
  | some x => x < n
theorem kf_fuel {ab : Nat → Option Nat} {P : Nat → Bool} {n : Nat} (hab : kf_ok ab n) : ∀ (f : Nat) (c : Option Nat), kf_lt f c → kf_lt n c → ∀ g, f ≤ g → kf ab P g c = kf ab P f c := by
  intro f
  induction f with
  | zero =>
    intro c h1 h2 g _
    cases c with
    | none => cases g <;> rfl
    | some x => exact absurd h1 (Nat.not_lt_zero x)
  | succ f ih =>
    intro c h1 h2 g hg
    cases c with
    | none => cases g <;> rfl
    | some x =>
      obtain ⟨g, rfl⟩ : ∃ g', g = g' + 1 := ⟨g - 1, by omega⟩
      show (bif P x then some x else kf ab P g (ab x)) = (bif P x then some x else kf ab P f (ab x))
      have h1 : x < f + 1 := h1
      have h2 : x < n := h2
      cases hx : ab x with
      | none => rw [show kf ab P g none = kf ab P f none by cases g <;> cases f <;> rfl]
      | some z =>
        have hz := hab x z h2 hx
        rw [ih (some z) (show z < f by omega) (show z < n by omega) g (by omega)]
/-- up to 64 kinds -/
def kfind (ab : Nat → Option Nat) (P : Nat → Bool) (c : Option Nat) : Option Nat := kf ab P 64 c
theorem kfind_none {ab : Nat → Option Nat} {P : Nat → Bool} : kfind ab P none = none := rfl
theorem kfind_some {ab : Nat → Option Nat} {P : Nat → Bool} {n x : Nat} (hab : kf_ok ab n) (hn : n ≤ 63) (hx : x < n) : kfind ab P (some x) = bif P x then some x else kfind ab P (ab x) := by
  show (bif P x then some x else kf ab P 63 (ab x)) = (bif P x then some x else kf ab P 64 (ab x))
  have h1 : kf_lt x (ab x) := by
    cases h : ab x with
    | none => trivial
    | some z => exact hab x z hx h
  have h2 : kf_lt n (ab x) := by
    cases h : ab x with
    | none => trivial
    | some z => exact Nat.lt_trans (hab x z hx h) hx
  rw [kf_fuel hab x _ h1 h2 63 (by omega), kf_fuel hab x _ h1 h2 64 (by omega)]
theorem kfind_sat {ab : Nat → Option Nat} {P : Nat → Bool} {n : Nat} (hab : kf_ok ab n) (hn : n ≤ 63) : ∀ (k : Nat) (c : Option Nat) (r : Nat), kf_lt k c → kf_lt n c → kfind ab P c = some r → P r = true ∧ r < n ∧ r < k := by
  intro k
  induction k with
  | zero =>
    intro c r h1 h2 h
    cases c with
    | none => cases h
    | some x => exact absurd h1 (Nat.not_lt_zero x)
  | succ k ih =>
    intro c r h1 h2 h
    cases c with
    | none => cases h
    | some x =>
      have h1 : x < k + 1 := h1
      have h2 : x < n := h2
      rw [kfind_some hab hn h2] at h
      cases hP : P x with
      | true =>
        rw [hP] at h
        cases h
        exact ⟨hP, h2, h1⟩
      | false =>
        rw [hP] at h
        have h : kfind ab P (ab x) = some r := h
        cases hx : ab x with
        | none => rw [hx] at h; cases h
        | some z =>
          rw [hx] at h
          have hz := hab x z h2 hx
          obtain ⟨a, b, c⟩ := ih (some z) r (show z < k by omega) (show z < n by omega) h
          exact ⟨a, b, by omega⟩
/-- an index or -1 -/
def oI (r : Option Nat) : Int32 := match r with
  | none => -1
  | some x => nI x
theorem oI_neg : oI none < 0 := by decide
theorem oI_pos {x : Nat} (h : x < 2 ^ 31) : ¬ oI (some x) < 0 := nI_pos h
