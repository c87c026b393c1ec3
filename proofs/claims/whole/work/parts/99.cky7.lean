/-! what a relation looks at: families, fields -/
def gP0 (f : Nat) : Bool := Nat.ble f 1 || Nat.beq f 4 || Nat.beq f 21
def gR (f : Nat) : Bool := Nat.beq f 4 || Nat.beq f 5 || Nat.beq f 7 || Nat.beq f 18 || Nat.beq f 19
def gV (f : Nat) : Bool := Nat.beq f 4 || Nat.beq f 9 || Nat.beq f 11 || Nat.beq f 16
def gE (f : Nat) : Bool := Nat.beq f 3 || Nat.beq f 9 || Nat.beq f 11 || Nat.beq f 17
def gT (f : Nat) : Bool := Nat.beq f 8 || Nat.beq f 11 || Nat.beq f 14 || Nat.beq f 15
def gK (j : Nat) : Bool := !(Nat.ble j 2 || Nat.beq j 22 || Nat.beq j 24 || (Nat.ble 48 j && Nat.ble j 73))
def gQ (j : Nat) : Bool := !(Nat.ble j 2 || Nat.beq j 24 || (Nat.ble 48 j && Nat.ble j 73))
def gW (j : Nat) : Bool := Nat.ble 48 j && Nat.ble j 52
def gN (j : Nat) : Bool := Nat.ble 54 j && Nat.ble j 57
def gH (j : Nat) : Bool := Nat.ble 66 j && Nat.ble j 73
def nC (p : Nat → Bool) (C : cw_C) : cw_C := fun f => bif p f then C f else (fun _ _ => 0, fun _ _ => 0, fun _ _ => none, 0)
def nA (p : Nat → Bool) (ad : Nat → Nat → Nat) : Nat → Nat → Nat := fun f => bif p f then ad f else fun _ => 0
def nM (p : Nat → Bool) (M : mw_S) : mw_S := (fun j => bif p j then M.1 j else 0, none, fun j => bif p j then M.2.2.1 j else fun _ => 0, fun j => bif p j then M.2.2.2.1 j else fun _ => 0, fun _ _ => none)
theorem ckE_nf {ad : Nat → Nat → Nat} {C : cw_C} {M : mw_S} {ab : Nat → Option Nat} {n : Nat} : ckE ad C M ab n ↔ ckE (nA gP0 ad) (nC gP0 C) (nM gK M) ab n := Iff.rfl
theorem rgR_nf {ad : Nat → Nat → Nat} {C : cw_C} {M : mw_S} {nk np : Nat} : rgR ad C M nk np ↔ rgR (nA gR ad) (nC gR C) (nM gQ M) nk np := Iff.rfl
theorem rm_T_nf {M : mw_S} {ab : Nat → Option Nat} {n : Nat} : rm_T M n ab ↔ rm_T (nM gK M) n ab := Iff.rfl
theorem vsR_nf {ad : Nat → Nat → Nat} {C : cw_C} {M : mw_S} {nk na : Nat} : vsR ad C M nk na ↔ vsR (nA gV ad) (nC gV C) (nM gW M) nk na := Iff.rfl
theorem enR_nf {ad : Nat → Nat → Nat} {C : cw_C} {M : mw_S} {na ne : Nat} : enR ad C M na ne ↔ enR (nA gE ad) (nC gE C) (nM gN M) na ne := Iff.rfl
theorem rnR_nf {ad : Nat → Nat → Nat} {C : cw_C} {M : mw_S} {nb nt : Nat} : rnR ad C M nb nt ↔ rnR (nA gT ad) (nC gT C) (nM gH M) nb nt := Iff.rfl
section NF
variable {p : Nat → Bool} {ad ad1 : Nat → Nat → Nat} {C C1 : cw_C} {M M1 : mw_S} {ab : Nat → Option Nat} {f i j a nk np na ne nb nt : Nat}
theorem nC_eq (h : ∀ f, p f = true → C1 f = C f) : nC p C1 = nC p C := by
  funext f
  unfold nC
  cases z : p f with
  | false => rfl
  | true => rw [h f z]
theorem nA_eq (h : ∀ f, p f = true → ad1 f = ad f) : nA p ad1 = nA p ad := by
  funext f
  unfold nA
  cases z : p f with
  | false => rfl
  | true => rw [h f z]
theorem nM_eq (h : ∀ j, p j = true → M1.1 j = M.1 j ∧ M1.2.2.1 j = M.2.2.1 j ∧ M1.2.2.2.1 j = M.2.2.2.1 j) : nM p M1 = nM p M := by
  unfold nM
  refine Prod.ext (funext fun j => ?_) (Prod.ext rfl (Prod.ext (funext fun j => ?_) (Prod.ext (funext fun j => ?_) rfl)))
  · show (bif p j then M1.1 j else 0) = (bif p j then M.1 j else 0)
    cases z : p j with
    | false => rfl
    | true => exact (h j z).1
  · show (bif p j then M1.2.2.1 j else fun _ => 0) = (bif p j then M.2.2.1 j else fun _ => 0)
    cases z : p j with
    | false => rfl
    | true => exact (h j z).2.1
  · show (bif p j then M1.2.2.2.1 j else fun _ => 0) = (bif p j then M.2.2.2.1 j else fun _ => 0)
    cases z : p j with
    | false => rfl
    | true => exact (h j z).2.2
theorem nC_sI {x : Int32} (h : p f = false) : nC p (cw_sI C f i j x) = nC p C := nC_eq (fun g hg => cw_sI_o (fun z => by rw [z, h] at hg; cases hg))
theorem nC_sL {x : Int64} (h : p f = false) : nC p (cw_sL C f i j x) = nC p C := nC_eq (fun g hg => cw_sL_o (fun z => by rw [z, h] at hg; cases hg))
theorem nC_sR {x : Option Nat} (h : p f = false) : nC p (cw_sR C f i j x) = nC p C := nC_eq (fun g hg => cw_sR_o (fun z => by rw [z, h] at hg; cases hg))
theorem nC_new (h : p f = false) : nC p (cw_new C f) = nC p C := nC_eq (fun g hg => cw_ext_o (fun z => by rw [z, h] at hg; cases hg))
theorem nA_ad (h : p f = false) : nA p (cw_ad ad C f a) = nA p ad := nA_eq (fun g hg => by unfold cw_ad; exact mw_u2_row (fun z => by rw [z, h] at hg; cases hg))
theorem nM_setS {x : Int32} (h : p j = false) : nM p (mw_setS M j x) = nM p M := nM_eq (fun g hg => ⟨if_neg (fun z => by rw [z, h] at hg; cases hg), rfl, rfl⟩)
theorem nM_setV {x : Int32} (h : p j = false) : nM p (mw_setV M j i x) = nM p M := nM_eq (fun g hg => ⟨rfl, mw_u2_row (fun z => by rw [z, h] at hg; cases hg), rfl⟩)
theorem nM_setW {x : Int64} (h : p j = false) : nM p (mw_setW M j i x) = nM p M := nM_eq (fun g hg => ⟨rfl, rfl, mw_u2_row (fun z => by rw [z, h] at hg; cases hg)⟩)
theorem ckE.nf (h : ckE ad C M ab nk) (a : nA gP0 ad1 = nA gP0 ad) (b : nC gP0 C1 = nC gP0 C) (c : nM gK M1 = nM gK M) : ckE ad1 C1 M1 ab nk := ckE_nf.mpr (by rw [a, b, c]; exact ckE_nf.mp h)
theorem rgR.nf (h : rgR ad C M nk np) (a : nA gR ad1 = nA gR ad) (b : nC gR C1 = nC gR C) (c : nM gQ M1 = nM gQ M) : rgR ad1 C1 M1 nk np := rgR_nf.mpr (by rw [a, b, c]; exact rgR_nf.mp h)
theorem rm_T.nf (h : rm_T M nk ab) (c : nM gK M1 = nM gK M) : rm_T M1 nk ab := rm_T_nf.mpr (by rw [c]; exact rm_T_nf.mp h)
theorem vsR.nf (h : vsR ad C M nk na) (a : nA gV ad1 = nA gV ad) (b : nC gV C1 = nC gV C) (c : nM gW M1 = nM gW M) : vsR ad1 C1 M1 nk na := vsR_nf.mpr (by rw [a, b, c]; exact vsR_nf.mp h)
theorem enR.nf (h : enR ad C M na ne) (a : nA gE ad1 = nA gE ad) (b : nC gE C1 = nC gE C) (c : nM gN M1 = nM gN M) : enR ad1 C1 M1 na ne := enR_nf.mpr (by rw [a, b, c]; exact enR_nf.mp h)
theorem rnR.nf (h : rnR ad C M nb nt) (a : nA gT ad1 = nA gT ad) (b : nC gT C1 = nC gT C) (c : nM gH M1 = nM gH M) : rnR ad1 C1 M1 nb nt := rnR_nf.mpr (by rw [a, b, c]; exact rnR_nf.mp h)
end NF
