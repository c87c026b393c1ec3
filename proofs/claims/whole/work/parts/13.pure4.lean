/-! the class's way to what is overridden: bits of a long, from the kind above upward -/
def oi (ab : Nat → Option Nat) (E : Nat → Nat → Bool) (k : Nat) (S : Nat → Prop) (t : Nat) : Prop :=
  (∀ u, S u → OV ab E k u) ∧ (∀ x z, S x → An ab x z → E x z = true → S z) ∧ ∀ s u, s < t → upn ab (s + 1) k = some u → E k u = true → S u
section OI
variable {ab : Nat → Option Nat} {E : Nat → Nat → Bool} {k t x : Nat} {S S' : Nat → Prop}
theorem oi.ext (h : oi ab E k S t) (e : ∀ u, S u ↔ S' u) : oi ab E k S' t := by
  have : S = S' := funext fun u => propext (e u)
  rw [← this]
  exact h
theorem oi.zero : oi ab E k (fun _ => False) 0 := ⟨fun _ h => h.elim, fun _ _ h => h.elim, fun _ _ h => absurd h (Nat.not_lt_zero _)⟩
theorem oi.skip (h : oi ab E k S t) (hx : upn ab (t + 1) k = some x) (he : ¬ E k x = true) : oi ab E k S (t + 1) := by
  refine ⟨h.1, h.2.1, fun s u hs hu hE => ?_⟩
  by_cases e : s = t
  · subst e
    rw [hx] at hu
    cases hu
    exact absurd hE he
  · exact h.2.2 s u (by omega) hu hE
theorem oi.add (h : oi ab E k S t) (hx : upn ab (t + 1) k = some x) (hc : E k x = true ∨ S x) : oi ab E k (fun u => S u ∨ u = x ∨ OV ab E x u) (t + 1) := by
  have hkx : OV ab E k x := hc.elim (fun e => OV.one ⟨t, hx⟩ e) (h.1 x)
  refine ⟨fun u hu => ?_, fun y z hy ha he => ?_, fun s u hs hu hE => ?_⟩
  · rcases hu with hu | rfl | hu
    · exact h.1 u hu
    · exact hkx
    · exact hkx.trans hu
  · rcases hy with hy | rfl | hy
    · exact Or.inl (h.2.1 y z hy ha he)
    · exact Or.inr (Or.inr (OV.one ha he))
    · exact Or.inr (Or.inr (hy.step ha he))
  · by_cases e : s = t
    · subst e
      rw [hx] at hu
      cases hu
      exact Or.inr (Or.inl rfl)
    · exact Or.inl (h.2.2 s u (by omega) hu hE)
theorem oi.fin (h : oi ab E k S t) (hx : upn ab (t + 1) k = none) (j : Nat) : S j ↔ OV ab E k j := by
  refine ⟨h.1 j, fun ho => ho S (fun u hu hE => ?_) h.2.1⟩
  obtain ⟨s, hs⟩ := hu
  refine h.2.2 s u ?_ hs hE
  rcases Nat.lt_or_ge s t with q | q
  · exact q
  · exfalso
    obtain ⟨z, hz⟩ := upn_down (s + 1) (t + 1) k u hs (by omega)
    rw [hx] at hz
    cases hz
end OI
/-- bit u of a long -/
def xb (w : Int64) (u : Nat) : Bool := w.toBitVec.getLsbD u
theorem xb_shl : ∀ u, u < 64 → ((1 : Int64) <<< ((nI u).toInt64 &&& 63)).toBitVec = BitVec.twoPow 64 u := by decide +kernel
theorem xb_or (a b : Int64) (u : Nat) : xb (a ||| b) u = (xb a u || xb b u) := by
  unfold xb
  rw [Int64.toBitVec_or, BitVec.getLsbD_or]
theorem xb_one {x u : Nat} (hx : x < 64) (hu : u < 64) : xb ((1 : Int64) <<< ((nI x).toInt64 &&& 63)) u = Nat.beq u x := by
  unfold xb
  rw [xb_shl x hx, BitVec.getLsbD_twoPow]
  cases hb : Nat.beq u x with
  | true =>
    have e := Nat.eq_of_beq_eq_true hb
    subst e
    simp [hu]
  | false =>
    have e := Nat.ne_of_beq_eq_false hb
    simp [Ne.symm e]
theorem xb_zero (u : Nat) : xb 0 u = false := by
  unfold xb
  simp
theorem xb_test {w : Int64} {u : Nat} (hu : u < 64) : lg_cmp (w &&& ((1 : Int64) <<< ((nI u).toInt64 &&& 63))) 0 = 0 ↔ xb w u = false := by
  rw [lg_cmp_eq]
  unfold xb
  rw [← Int64.toBitVec_inj, Int64.toBitVec_and, xb_shl u hu, BitVec.and_twoPow]
  cases h : w.toBitVec.getLsbD u with
  | false => simp
  | true =>
    simp
    intro e
    have := congrArg (fun v : BitVec 64 => v.getLsbD u) e
    simp [BitVec.getLsbD_twoPow, hu] at this
