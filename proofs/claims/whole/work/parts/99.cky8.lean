/-! the relation at rest -/
/-- what an entry adds to the c-th sum -/
def ctr (what wi wo hi : Int32) (c : Nat) : Int64 := if what = 1 then (if c = 0 then wi.toInt64 else if c = 3 then hi.toInt64 else 0) else if what = 0 then (if c = 1 then wi.toInt64 else if c = 2 then wo.toInt64 else if c = 4 then hi.toInt64 else 0) else 0
/-- an entry against what the reference remembers; Wt, Ht, Sm: water, heat, sums before the e-th record -/
def enH (ad : Nat → Nat → Nat) (C : cw_C) (M : mw_S) (na : Nat) (Wt Ht : Nat → Nat → Int32) (Sm : Nat → Nat → Int64) (e : Nat) : Prop := ∃ a b, a < na ∧ b < na ∧ M.2.2.1 56 e = nI a ∧ M.2.2.1 58 e = nI b ∧ (M.2.2.1 59 (4 * e) = Wt e a ∧ M.2.2.1 59 (4 * e + 1) = Ht e a ∧ M.2.2.1 59 (4 * e + 2) = Wt e b ∧ M.2.2.1 59 (4 * e + 3) = Ht e b) ∧ cR C 3 e 2 = (if a = b then none else some (ad 9 b)) ∧ (Wt (e + 1) a = Wt e a + (cI C 3 e 4 - cI C 3 e 5) ∧ Ht (e + 1) a = Ht e a + cI C 3 e 6) ∧ (¬ a = b → Wt (e + 1) b = Wt e b - (cI C 3 e 4 - cI C 3 e 5) ∧ Ht (e + 1) b = Ht e b - cI C 3 e 6) ∧ (∀ i, i < na → ¬ i = a → ¬ i = b → Wt (e + 1) i = Wt e i ∧ Ht (e + 1) i = Ht e i) ∧ ∀ c, c < 5 → M.2.2.2.1 60 (5 * e + c) = Sm e c ∧ Sm (e + 1) c = Sm e c + ctr (cI C 3 e 0) (cI C 3 e 4) (cI C 3 e 5) (cI C 3 e 6) c
def enD (ad : Nat → Nat → Nat) (C : cw_C) (M : mw_S) (na ne : Nat) (Wt Ht : Nat → Nat → Int32) (Sm : Nat → Nat → Int64) : Prop := (∀ i, i < na → Wt ne i = M.2.2.1 51 i ∧ Ht ne i = M.2.2.1 52 i) ∧ (∀ c, c < 5 → Sm 0 c = 0 ∧ Sm ne c = M.2.2.2.1 53 c) ∧ ∀ e, e < ne → enH ad C M na Wt Ht Sm e
/-- the counts of what a rest keeps -/
def cnR (C : cw_C) (nk np na ne : Nat) : Prop := (cN C 4 = nk ∧ cN C 21 = nk ∧ cN C 5 = np ∧ cN C 20 = np ∧ cN C 2 = 0 ∧ cN C 6 = 0 ∧ cN C 10 = 0) ∧ cN C 9 = na ∧ cN C 3 = ne
abbrev hS : Type := (Nat → Nat → Int32) × (Nat → Nat → Int32) × (Nat → Nat → Int64)
def rsR (ad : Nat → Nat → Nat) (C : cw_C) (M : mw_S) (ab : Nat → Option Nat) (nk np na ne nb nt : Nat) (H : hS) : Prop := rgR ad C M nk np ∧ ckE ad C M ab nk ∧ cnR C nk np na ne ∧ rlO ad C M ∧ rm_T M nk ab ∧ (M.1 3 = nI nk ∧ M.1 19 = nI np) ∧ vsR ad C M nk na ∧ enR ad C M na ne ∧ enD ad C M na ne H.1 H.2.1 H.2.2 ∧ rnR ad C M nb nt
def gD (f : Nat) : Bool := Nat.beq f 3 || Nat.beq f 9
def gX (j : Nat) : Bool := Nat.ble 51 j && Nat.ble j 60
def gO (f : Nat) : Bool := Nat.beq f 7 || Nat.beq f 11 || Nat.beq f 12 || Nat.beq f 13
def gY (j : Nat) : Bool := Nat.ble j 2 || Nat.beq j 24
def gZ (f : Nat) : Bool := Nat.ble f 10 || Nat.ble 20 f
section RLs
variable {ad ad1 : Nat → Nat → Nat} {C C1 : cw_C} {M M1 : mw_S} {ab : Nat → Option Nat} {c nk np na ne nb nt : Nat} {H : hS} {Wt Ht : Nat → Nat → Int32} {Sm : Nat → Nat → Int64}
theorem enD_nf : enD ad C M na ne Wt Ht Sm ↔ enD (nA gD ad) (nC gD C) (nM gX M) na ne Wt Ht Sm := Iff.rfl
theorem rlO_nf : rlO ad C M ↔ rlO (nA gO ad) (nC gO C) (nM gY M) := Iff.rfl
theorem cnR_nf : cnR C nk np na ne ↔ cnR (nC gZ C) nk np na ne := Iff.rfl
theorem enD.nf (h : enD ad C M na ne Wt Ht Sm) (a : nA gD ad1 = nA gD ad) (b : nC gD C1 = nC gD C) (c : nM gX M1 = nM gX M) : enD ad1 C1 M1 na ne Wt Ht Sm := enD_nf.mpr (by rw [a, b, c]; exact enD_nf.mp h)
theorem rlO.nf (h : rlO ad C M) (a : nA gO ad1 = nA gO ad) (b : nC gO C1 = nC gO C) (c : nM gY M1 = nM gY M) : rlO ad1 C1 M1 := rlO_nf.mpr (by rw [a, b, c]; exact rlO_nf.mp h)
theorem cnR.nf (h : cnR C nk np na ne) (b : nC gZ C1 = nC gZ C) : cnR C1 nk np na ne := cnR_nf.mpr (by rw [b]; exact cnR_nf.mp h)
theorem rsR.rg (h : rsR ad C M ab nk np na ne nb nt H) : rgR ad C M nk np := h.1
theorem rsR.ck (h : rsR ad C M ab nk np na ne nb nt H) : ckE ad C M ab nk := h.2.1
theorem rsR.cn (h : rsR ad C M ab nk np na ne nb nt H) : cnR C nk np na ne := h.2.2.1
theorem rsR.o (h : rsR ad C M ab nk np na ne nb nt H) : rlO ad C M := h.2.2.2.1
theorem rsR.t (h : rsR ad C M ab nk np na ne nb nt H) : rm_T M nk ab := h.2.2.2.2.1
theorem rsR.s (h : rsR ad C M ab nk np na ne nb nt H) : M.1 3 = nI nk ∧ M.1 19 = nI np := h.2.2.2.2.2.1
theorem rsR.v (h : rsR ad C M ab nk np na ne nb nt H) : vsR ad C M nk na := h.2.2.2.2.2.2.1
theorem rsR.e (h : rsR ad C M ab nk np na ne nb nt H) : enR ad C M na ne := h.2.2.2.2.2.2.2.1
theorem rsR.d (h : rsR ad C M ab nk np na ne nb nt H) : enD ad C M na ne H.1 H.2.1 H.2.2 := h.2.2.2.2.2.2.2.2.1
theorem rsR.r (h : rsR ad C M ab nk np na ne nb nt H) : rnR ad C M nb nt := h.2.2.2.2.2.2.2.2.2
theorem rsR.g (h : rsR ad C M ab nk np na ne nb nt H) : rlG ad C M ab nk np := ⟨h.rg, h.ck, ⟨h.o.1.1, h.o.1.2.2⟩, h.o.2.2.2.2.1, h.o.2.2.2.2.2.1, h.s.1, h.s.2⟩
/-- a finding was counted on both sides -/
theorem rsR.ans (h : rsR ad C M ab nk np na ne nb nt H) (hc : c ≤ 4) : rsR ad (cAns C c) (rm_ans M c) ab nk np na ne nb nt H := by
  by_cases z : c = 0
  · unfold cAns rm_ans; rw [if_pos z, if_pos z]; exact h
  · have e1 : cAns C c = cw_sI C 13 0 c (cI C 13 0 c + 1) := if_neg z
    have e2 : rm_ans M c = mw_setV M 2 c (M.2.2.1 2 c + 1) := if_neg z
    rw [e1, e2]
    refine ⟨h.rg.nf rfl (nC_sI rfl) (nM_setV rfl), h.ck.nf rfl (nC_sI rfl) (nM_setV rfl), h.cn.nf (nC_sI rfl), ?_, h.t.nf (nM_setV rfl), h.s, h.v.nf rfl (nC_sI rfl) (nM_setV rfl), h.e.nf rfl (nC_sI rfl) (nM_setV rfl), h.d.nf rfl (nC_sI rfl) (nM_setV rfl), h.r.nf rfl (nC_sI rfl) (nM_setV rfl)⟩
    obtain ⟨a1, a2, a3, a4, a5, a6, a7, a8⟩ := h.o
    have q : cw_sI C 13 0 c (cI C 13 0 c + 1) 11 = C 11 := cw_sI_o (by decide)
    refine ⟨by rw [cw_sI_N, cw_sI_N, cw_sI_N]; exact a1, by rw [cR_o q]; exact a2, by rw [cI_o q]; exact a3, by rw [cI_o q]; exact a4, by rw [cR_o q]; exact a5, by rw [cR_o q]; exact a6, fun x x1 x4 => ?_, fun i hi => by rw [cI_o (cw_sI_o (by decide))]; exact a8 i hi⟩
    show mw_u2 (C 13).1 0 c _ 0 x = mw_u2 M.2.2.1 2 c _ 2 x
    by_cases y : x = c
    · rw [y, cu2_eq, cu2_eq, a7 c (by omega) hc]
    · rw [cu2_ne (fun w => y w.2), cu2_ne (fun w => y w.2)]; exact a7 x x1 x4
end RLs
