/-! what a relation looks at, field by field; the 99th stands for the count -/
def nD (p : Nat → Nat → Bool) (C : cw_C) : cw_C := fun f => (fun i j => bif p f j then (C f).1 i j else 0, fun i j => bif p f j then (C f).2.1 i j else 0, fun i j => bif p f j then (C f).2.2.1 i j else none, bif p f 99 then (C f).2.2.2 else 0)
def uO (f j : Nat) : Bool := Nat.beq f 12 || Nat.beq f 13 || (Nat.beq f 11 && (Nat.ble j 3 || Nat.beq j 9 || Nat.beq j 99))
def uV (f j : Nat) : Bool := Nat.beq f 9 || Nat.beq f 16 || (Nat.beq f 11 && (Nat.beq j 4 || Nat.beq j 5 || Nat.beq j 99))
def uE (f j : Nat) : Bool := Nat.beq f 3 || Nat.beq f 17 || (Nat.beq f 11 && (Nat.beq j 7 || Nat.beq j 8))
def uT (f j : Nat) : Bool := Nat.beq f 14 || Nat.beq f 15 || (Nat.beq f 8 && (Nat.ble j 3 || Nat.ble 7 j)) || (Nat.beq f 11 && Nat.beq j 6)
section ND
variable {p : Nat → Nat → Bool} {q : Nat → Bool} {ad ad1 : Nat → Nat → Nat} {C C1 : cw_C} {M M1 : mw_S} {ab : Nat → Option Nat} {f i j a nk np na ne nb nt : Nat}
theorem rlO_nd : rlO ad C M ↔ rlO (nA gO ad) (nD uO C) (nM gY M) := Iff.rfl
theorem vsR_nd : vsR ad C M nk na ↔ vsR (nA gV ad) (nD uV C) (nM gW M) nk na := Iff.rfl
theorem enR_nd : enR ad C M na ne ↔ enR (nA gE ad) (nD uE C) (nM gN M) na ne := Iff.rfl
theorem rnR_nd : rnR ad C M nb nt ↔ rnR (nA gT ad) (nD uT C) (nM gH M) nb nt := Iff.rfl
theorem rlO.nd (h : rlO ad C M) (a : nA gO ad1 = nA gO ad) (b : nD uO C1 = nD uO C) (c : nM gY M1 = nM gY M) : rlO ad1 C1 M1 := rlO_nd.mpr (by rw [a, b, c]; exact rlO_nd.mp h)
theorem vsR.nd (h : vsR ad C M nk na) (a : nA gV ad1 = nA gV ad) (b : nD uV C1 = nD uV C) (c : nM gW M1 = nM gW M) : vsR ad1 C1 M1 nk na := vsR_nd.mpr (by rw [a, b, c]; exact vsR_nd.mp h)
theorem enR.nd (h : enR ad C M na ne) (a : nA gE ad1 = nA gE ad) (b : nD uE C1 = nD uE C) (c : nM gN M1 = nM gN M) : enR ad1 C1 M1 na ne := enR_nd.mpr (by rw [a, b, c]; exact enR_nd.mp h)
theorem rnR.nd (h : rnR ad C M nb nt) (a : nA gT ad1 = nA gT ad) (b : nD uT C1 = nD uT C) (c : nM gH M1 = nM gH M) : rnR ad1 C1 M1 nb nt := rnR_nd.mpr (by rw [a, b, c]; exact rnR_nd.mp h)
theorem nD_eq (h : ∀ f, (∀ i j, p f j = true → cI C1 f i j = cI C f i j ∧ cL C1 f i j = cL C f i j ∧ cR C1 f i j = cR C f i j) ∧ (p f 99 = true → cN C1 f = cN C f)) : nD p C1 = nD p C := by
  funext f
  obtain ⟨a, b⟩ := h f
  refine Prod.ext (funext fun i => funext fun j => ?_) (Prod.ext (funext fun i => funext fun j => ?_) (Prod.ext (funext fun i => funext fun j => ?_) ?_))
  · show (bif p f j then (C1 f).1 i j else 0) = (bif p f j then (C f).1 i j else 0)
    cases z : p f j with
    | false => rfl
    | true => exact (a i j z).1
  · show (bif p f j then (C1 f).2.1 i j else 0) = (bif p f j then (C f).2.1 i j else 0)
    cases z : p f j with
    | false => rfl
    | true => exact (a i j z).2.1
  · show (bif p f j then (C1 f).2.2.1 i j else none) = (bif p f j then (C f).2.2.1 i j else none)
    cases z : p f j with
    | false => rfl
    | true => exact (a i j z).2.2
  · show (bif p f 99 then (C1 f).2.2.2 else 0) = (bif p f 99 then (C f).2.2.2 else 0)
    cases z : p f 99 with
    | false => rfl
    | true => exact b z
theorem nD_o (h : ∀ g, (∀ j, p g j = false) ∨ C1 g = C g) : nD p C1 = nD p C := nD_eq (fun g => by
  rcases h g with z | z
  · exact ⟨fun i j hj => (by rw [z j] at hj; cases hj), fun hj => (by rw [z 99] at hj; cases hj)⟩
  · exact ⟨fun i j _ => ⟨cI_o z, cL_o z, cR_o z⟩, fun _ => cN_o z⟩)
theorem nD_sI {x : Int32} (h : p f j = false) : nD p (cw_sI C f i j x) = nD p C := nD_eq (fun g => ⟨fun k l hl => by
  by_cases e : g = f
  · subst e
    unfold cI cL cR
    rw [cw_sI_f]
    exact ⟨cu2_ne (fun z => by rw [z.2, h] at hl; cases hl), rfl, rfl⟩
  · have z : cw_sI C f i j x g = C g := cw_sI_o e
    exact ⟨cI_o z, cL_o z, cR_o z⟩, fun _ => cw_sI_N⟩)
theorem nD_sR {x : Option Nat} (h : p f j = false) : nD p (cw_sR C f i j x) = nD p C := nD_eq (fun g => ⟨fun k l hl => by
  by_cases e : g = f
  · subst e
    unfold cI cL cR
    rw [cw_sR_f]
    exact ⟨rfl, rfl, cu2_ne (fun z => by rw [z.2, h] at hl; cases hl)⟩
  · have z : cw_sR C f i j x g = C g := cw_sR_o e
    exact ⟨cI_o z, cL_o z, cR_o z⟩, fun _ => cw_sR_N⟩)
theorem nD_new (h : ∀ j, p f j = false) : nD p (cw_new C f) = nD p C := nD_o (fun g => by
  by_cases e : g = f
  · subst e; exact Or.inl h
  · exact Or.inr (cw_ext_o e))
theorem nD_row {a : Nat → Int32} {b : Nat → Int64} {c : Nat → Option Nat} (h : ∀ j, p f j = false) : nD p (cw_row C f i a b c) = nD p C := nD_o (fun g => by
  by_cases e : g = f
  · subst e; exact Or.inl h
  · exact Or.inr (cw_row_o e))
theorem nC_row {a : Nat → Int32} {b : Nat → Int64} {c : Nat → Option Nat} (h : q f = false) : nC q (cw_row C f i a b c) = nC q C := nC_eq (fun g hg => cw_row_o (fun z => by rw [z, h] at hg; cases hg))
end ND
