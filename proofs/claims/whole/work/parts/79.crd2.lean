/-! actions: the class's objects against the reference's memory -/
/-- a link: none, or the object of that number -/
def lkR (ad : Nat → Nat → Nat) (N : Nat) (x : Int32) (o : Option Nat) : Prop := (x < 0 ∧ o = none) ∨ ∃ y, y < N ∧ x = nI y ∧ o = some (ad 0 y)
theorem lkR.mono {ad ad' : Nat → Nat → Nat} {N N' : Nat} {x : Int32} {o : Option Nat} (h : lkR ad N x o) (hN : N ≤ N') (ha : ∀ i, i < N → ad' 0 i = ad 0 i) : lkR ad' N' x o := by
  rcases h with h | ⟨y, a, b, c⟩
  · exact Or.inl h
  · exact Or.inr ⟨y, by omega, b, by rw [c, ha y a]⟩
theorem lkR_n {ad : Nat → Nat → Nat} {N : Nat} : lkR ad N (-1) none := Or.inl ⟨by decide, rfl⟩
def aR (ad : Nat → Nat → Nat) (C : cw_C) (M : mw_S) (a : Nat) : Prop := cI C 0 a 0 = M.2.2.1 14 a + 12 ∧ cI C 0 a 1 = M.2.2.1 83 a ∧ cI C 0 a 2 = M.2.2.1 15 a ∧ lkR ad (cN C 0) (M.2.2.1 16 a) (cR C 0 a 3) ∧ lkR ad (cN C 0) (M.2.2.1 17 a) (cR C 0 a 4) ∧ lkR ad (cN C 0) (M.2.2.1 18 a) (cR C 0 a 5)
def aA (ad : Nat → Nat → Nat) (C : cw_C) (M : mw_S) : Prop := M.1 13 = nI (cN C 0) ∧ cN C 0 ≤ 4000 ∧ ∀ a, a < cN C 0 → aR ad C M a
theorem aA.same {ad ad' : Nat → Nat → Nat} {C C' : cw_C} {M M' : mw_S} (h : aA ad C M) (e : C' 0 = C 0) (ea : ∀ i, i < cN C 0 → ad' 0 i = ad 0 i) (h13 : M'.1 13 = M.1 13) (h14 : M'.2.2.1 14 = M.2.2.1 14) (h15 : M'.2.2.1 15 = M.2.2.1 15) (h16 : M'.2.2.1 16 = M.2.2.1 16) (h17 : M'.2.2.1 17 = M.2.2.1 17) (h18 : M'.2.2.1 18 = M.2.2.1 18) (h83 : M'.2.2.1 83 = M.2.2.1 83) : aA ad' C' M' := by
  obtain ⟨a, b, c⟩ := h
  unfold aA aR cN cI cR
  rw [e, h13, h14, h15, h16, h17, h18, h83]
  refine ⟨a, b, fun i hi => ?_⟩
  obtain ⟨c1, c2, c3, c4, c5, c6⟩ := c i hi
  exact ⟨c1, c2, c3, c4.mono (Nat.le_refl _) ea, c5.mono (Nat.le_refl _) ea, c6.mono (Nat.le_refl _) ea⟩
theorem aA.N {ad : Nat → Nat → Nat} {C : cw_C} {M : mw_S} (h : aA ad C M) : (M.1 13).toNatClampNeg = cN C 0 := by rw [h.1]; exact nI_clamp (by have := h.2.1; omega)
theorem V_o {M : mw_S} {j k i : Nat} {x : Int32} (h : ¬ i = j) : (mw_setV M j k x).2.2.1 i = M.2.2.1 i := funext (fun _ => if_neg (fun z => h z.1))
theorem V_e {M : mw_S} {j k : Nat} {x : Int32} : (mw_setV M j k x).2.2.1 j k = x := if_pos ⟨rfl, rfl⟩
theorem V_n {M : mw_S} {j k i : Nat} {x : Int32} (h : ¬ i = k) : (mw_setV M j k x).2.2.1 j i = M.2.2.1 j i := if_neg (fun z => h z.2)
/-- a row changes -/
theorem aA.row {ad : Nat → Nat → Nat} {C C' : cw_C} {M M' : mw_S} (h : aA ad C M) (a : Nat) (hN : cN C' 0 = cN C 0) (h13 : M'.1 13 = M.1 13) (hC : ∀ i j, ¬ i = a → cI C' 0 i j = cI C 0 i j ∧ cR C' 0 i j = cR C 0 i j) (hM : ∀ j i, ¬ i = a → j = 14 ∨ j = 15 ∨ j = 16 ∨ j = 17 ∨ j = 18 ∨ j = 83 → M'.2.2.1 j i = M.2.2.1 j i) (hr : aR ad C M a → aR ad C' M' a) : aA ad C' M' := by
  obtain ⟨x, y, z⟩ := h
  refine ⟨by rw [h13, hN]; exact x, by rw [hN]; exact y, fun i hi => ?_⟩
  rw [hN] at hi
  by_cases e : i = a
  · rw [e]; rw [e] at hi; exact hr (z a hi)
  · unfold aR
    rw [hN, (hC i 0 e).1, (hC i 1 e).1, (hC i 2 e).1, (hC i 3 e).2, (hC i 4 e).2, (hC i 5 e).2, hM 14 i e (by omega), hM 15 i e (by omega), hM 16 i e (by omega), hM 17 i e (by omega), hM 18 i e (by omega), hM 83 i e (by omega)]
    exact z i hi
theorem aA.num {ad : Nat → Nat → Nat} {C : cw_C} {M : mw_S} (h : aA ad C M) (a : Nat) (x : Int32) : aA ad (cw_sI C 0 a 2 x) (mw_setV M 15 a x) := by
  refine h.row a cw_sI_N rfl (fun i j e => ⟨cI_sI_n (fun z => e z.2.1), cR_sI⟩) (fun j i e hj => ?_) (fun q => ?_)
  · by_cases z : j = 15
    · subst z; exact V_n e
    · rw [V_o z]
  · unfold aR
    rw [cw_sI_N, cI_sI_n (by omega), cI_sI_n (by omega), cI_sI_e, cR_sI, cR_sI, cR_sI, V_o (by decide), V_o (by decide), V_e, V_o (by decide), V_o (by decide), V_o (by decide)]
    exact ⟨q.1, q.2.1, rfl, q.2.2.2⟩
theorem aA.plc {ad : Nat → Nat → Nat} {C : cw_C} {M : mw_S} (h : aA ad C M) (a : Nat) (x : Int32) : aA ad (cw_sI C 0 a 1 x) (mw_setV M 83 a x) := by
  refine h.row a cw_sI_N rfl (fun i j e => ⟨cI_sI_n (fun z => e z.2.1), cR_sI⟩) (fun j i e hj => ?_) (fun q => ?_)
  · by_cases z : j = 83
    · subst z; exact V_n e
    · rw [V_o z]
  · unfold aR
    rw [cw_sI_N, cI_sI_n (by omega), cI_sI_e, cI_sI_n (by omega), cR_sI, cR_sI, cR_sI, V_o (by decide), V_e, V_o (by decide), V_o (by decide), V_o (by decide), V_o (by decide)]
    exact ⟨q.1, rfl, q.2.2⟩

theorem aA.inn {ad : Nat → Nat → Nat} {C : cw_C} {M : mw_S} (h : aA ad C M) (a : Nat) {x : Int32} {o : Option Nat} (hl : lkR ad (cN C 0) x o) : aA ad (cw_sR C 0 a 3 o) (mw_setV M 16 a x) := by
  refine h.row a cw_sR_N rfl (fun i j e => ⟨cI_sR, cR_sR_n (fun z => e z.2.1)⟩) (fun j i e hj => ?_) (fun q => ?_)
  · by_cases z : j = 16
    · subst z; exact V_n e
    · rw [V_o z]
  · unfold aR
    rw [cw_sR_N, cI_sR, cI_sR, cI_sR, cR_sR_e, cR_sR_n (by omega), cR_sR_n (by omega), V_o (by decide), V_o (by decide), V_o (by decide), V_e, V_o (by decide), V_o (by decide)]
    exact ⟨q.1, q.2.1, q.2.2.1, hl, q.2.2.2.2.1, q.2.2.2.2.2⟩
theorem aA.oth {ad : Nat → Nat → Nat} {C : cw_C} {M : mw_S} (h : aA ad C M) (a : Nat) {x : Int32} {o : Option Nat} (hl : lkR ad (cN C 0) x o) : aA ad (cw_sR C 0 a 4 o) (mw_setV M 17 a x) := by
  refine h.row a cw_sR_N rfl (fun i j e => ⟨cI_sR, cR_sR_n (fun z => e z.2.1)⟩) (fun j i e hj => ?_) (fun q => ?_)
  · by_cases z : j = 17
    · subst z; exact V_n e
    · rw [V_o z]
  · unfold aR
    rw [cw_sR_N, cI_sR, cI_sR, cI_sR, cR_sR_n (by omega), cR_sR_e, cR_sR_n (by omega), V_o (by decide), V_o (by decide), V_o (by decide), V_o (by decide), V_e, V_o (by decide)]
    exact ⟨q.1, q.2.1, q.2.2.1, q.2.2.2.1, hl, q.2.2.2.2.2⟩
theorem aA.nxt {ad : Nat → Nat → Nat} {C : cw_C} {M : mw_S} (h : aA ad C M) (a : Nat) {x : Int32} {o : Option Nat} (hl : lkR ad (cN C 0) x o) : aA ad (cw_sR C 0 a 5 o) (mw_setV M 18 a x) := by
  refine h.row a cw_sR_N rfl (fun i j e => ⟨cI_sR, cR_sR_n (fun z => e z.2.1)⟩) (fun j i e hj => ?_) (fun q => ?_)
  · by_cases z : j = 18
    · subst z; exact V_n e
    · rw [V_o z]
  · unfold aR
    rw [cw_sR_N, cI_sR, cI_sR, cI_sR, cR_sR_n (by omega), cR_sR_n (by omega), cR_sR_e, V_o (by decide), V_o (by decide), V_o (by decide), V_o (by decide), V_o (by decide), V_e]
    exact ⟨q.1, q.2.1, q.2.2.1, q.2.2.2.1, q.2.2.2.2.1, hl⟩
/-- a new action -/
def aN (C : cw_C) (w p : Nat) : cw_C := cw_ext C 0 (fun j => [nI w, nI p].getD j 0) (fun _ => 0) (fun _ => none)
theorem aN_add {ad : Nat → Nat → Nat} {h0 h h1 : mm_H} {C : cw_C} {w p : Nat} {c0 : mm_C} (hC : cw ad h0 C h) (e : h1 = mm_set (mm_push h c0) h.2.1 (0, [.int (nI w), .int (nI p), .int 0, .null, .null, .null])) : cw (cw_ad ad C 0 h.2.1) h0 (aN C w p) h1 := by
  subst e
  refine cw_add hC 0 (by decide) ?_ ?_ ?_ ?_
  · exact mm_set_eq
  · intro z hz
    exact mm_set_ne hz (mm_push_ne hz rfl)
  · exact Nat.lt_succ_self _
  · exact Nat.le_add_right _ _
theorem aA.new {ad : Nat → Nat → Nat} {C : cw_C} {M M' : mw_S} {w p x : Nat} (h : aA ad C M) (hN : cN C 0 < 4000) (h13 : M'.1 13 = nI (cN C 0 + 1)) (hM : ∀ j i, i < cN C 0 → j = 14 ∨ j = 15 ∨ j = 16 ∨ j = 17 ∨ j = 18 ∨ j = 83 → M'.2.2.1 j i = M.2.2.1 j i) (h14 : nI w = M'.2.2.1 14 (cN C 0) + 12) (h83 : M'.2.2.1 83 (cN C 0) = nI p) (h15 : M'.2.2.1 15 (cN C 0) = 0) (h16 : M'.2.2.1 16 (cN C 0) = -1) (h17 : M'.2.2.1 17 (cN C 0) = -1) (h18 : M'.2.2.1 18 (cN C 0) = -1) : aA (cw_ad ad C 0 x) (aN C w p) M' := by
  obtain ⟨a, b, c⟩ := h
  have n1 : cN (aN C w p) 0 = cN C 0 + 1 := cN_ext
  refine ⟨by rw [n1]; exact h13, by rw [n1]; omega, fun i hi => ?_⟩
  rw [n1] at hi
  unfold aR
  rw [n1]
  by_cases e : i = cN C 0
  · subst e
    rw [h83, h15, h16, h17, h18]
    unfold aN
    rw [cI_ext_n, cI_ext_n, cI_ext_n, cR_ext_n, cR_ext_n, cR_ext_n]
    exact ⟨h14, rfl, rfl, lkR_n, lkR_n, lkR_n⟩
  · have l : i < cN C 0 := by omega
    obtain ⟨c1, c2, c3, c4, c5, c6⟩ := c i l
    unfold aN
    rw [cI_ext_o l, cI_ext_o l, cI_ext_o l, cR_ext_o l, cR_ext_o l, cR_ext_o l, hM 14 i l (by omega), hM 15 i l (by omega), hM 16 i l (by omega), hM 17 i l (by omega), hM 18 i l (by omega), hM 83 i l (by omega)]
    exact ⟨c1, c2, c3, c4.mono (by omega) (fun y hy => cw_ad_o hy), c5.mono (by omega) (fun y hy => cw_ad_o hy), c6.mono (by omega) (fun y hy => cw_ad_o hy)⟩
theorem pA0_VV {tb : Nat → Nat} {n k q deep t : Nat} {o : Int32} {M : mw_S} : (pA0 tb n k q deep t o M).1 13 = nI ((M.1 13).toNatClampNeg + 1) ∧ (pA0 tb n k q deep t o M).1 47 = M.1 47 + 1 ∧ ∀ j, j = 14 ∨ j = 15 ∨ j = 16 ∨ j = 17 ∨ j = 18 ∨ j = 83 → (pA0 tb n k q deep t o M).2.2.1 j = (rm_gh (rm_action (mw_setS M 47 (M.1 47 + 1)) (M.1 13).toNatClampNeg o 0) (M.1 13).toNatClampNeg deep k q (qs tb n t)).2.2.1 j := by
  unfold pA0
  by_cases c : o = 1 ∨ o = 8
  · rw [if_pos c]
    refine ⟨rfl, rfl, ?_⟩
    rintro j (rfl | rfl | rfl | rfl | rfl | rfl) <;> rfl
  · rw [if_neg c]
    exact ⟨rfl, rfl, fun _ _ => rfl⟩
theorem gh_V {M : mw_S} {a deep k q p : Nat} {o : Int32} : (∀ j i, ¬ i = a → j = 14 ∨ j = 15 ∨ j = 16 ∨ j = 17 ∨ j = 18 ∨ j = 83 → (rm_gh (rm_action M a o 0) a deep k q p).2.2.1 j i = M.2.2.1 j i) ∧ (rm_gh (rm_action M a o 0) a deep k q p).2.2.1 14 a = o ∧ (rm_gh (rm_action M a o 0) a deep k q p).2.2.1 83 a = nI p ∧ (rm_gh (rm_action M a o 0) a deep k q p).2.2.1 15 a = 0 ∧ (rm_gh (rm_action M a o 0) a deep k q p).2.2.1 16 a = -1 ∧ (rm_gh (rm_action M a o 0) a deep k q p).2.2.1 17 a = -1 ∧ (rm_gh (rm_action M a o 0) a deep k q p).2.2.1 18 a = -1 := by
  refine ⟨?_, ?_, ?_, ?_, ?_, ?_, ?_⟩
  · rintro j i e (rfl | rfl | rfl | rfl | rfl | rfl)
    · exact mw_u2_ne _ _ (fun z => e z.2)
    · exact mw_u2_ne _ _ (fun z => e z.2)
    · exact mw_u2_ne _ _ (fun z => e z.2)
    · exact mw_u2_ne _ _ (fun z => e z.2)
    · exact mw_u2_ne _ _ (fun z => e z.2)
    · exact mw_u2_ne _ _ (fun z => e z.2)
  · exact mw_u2_eq _ _ _ _
  · exact mw_u2_eq _ _ _ _
  · exact mw_u2_eq _ _ _ _
  · exact mw_u2_eq _ _ _ _
  · exact mw_u2_eq _ _ _ _
  · exact mw_u2_eq _ _ _ _
theorem aA.pa0 {ad : Nat → Nat → Nat} {C : cw_C} {M : mw_S} {tb : Nat → Nat} {n k q deep t x : Nat} (h : aA ad C M) (hN : cN C 0 < 4000) (h13 : 13 ≤ cd tb n t) (h22 : cd tb n t ≤ 22) : aA (cw_ad ad C 0 x) (aN C (cd tb n t) (qs tb n t)) (pw tb n (pA0 tb n k q deep t (opI (cd tb n t)) M) t) := by
  have v := pA0_VV (tb := tb) (n := n) (k := k) (q := q) (deep := deep) (t := t) (o := opI (cd tb n t)) (M := M)
  rw [h.N] at v
  have g := gh_V (M := mw_setS M 47 (M.1 47 + 1)) (a := cN C 0) (deep := deep) (k := k) (q := q) (p := qs tb n t) (o := opI (cd tb n t))
  refine h.new hN v.1 (fun j i hi hj => ?_) ?_ ?_ ?_ ?_ ?_ ?_
  · show (pA0 tb n k q deep t (opI (cd tb n t)) M).2.2.1 j i = _
    rw [v.2.2 j hj]
    exact g.1 j i (by omega) hj
  · show nI (cd tb n t) = (pA0 tb n k q deep t (opI (cd tb n t)) M).2.2.1 14 (cN C 0) + 12
    rw [v.2.2 14 (by omega), g.2.1]
    unfold opI
    rw [if_pos ⟨h13, h22⟩, show (12 : Int32) = nI 12 from rfl, nI_add]
    congr 1
    omega
  · exact (congrFun (v.2.2 83 (by omega)) _).trans g.2.2.1
  · exact (congrFun (v.2.2 15 (by omega)) _).trans g.2.2.2.1
  · exact (congrFun (v.2.2 16 (by omega)) _).trans g.2.2.2.2.1
  · exact (congrFun (v.2.2 17 (by omega)) _).trans g.2.2.2.2.2.1
  · exact (congrFun (v.2.2 18 (by omega)) _).trans g.2.2.2.2.2.2
/-- how many actions a body has so far -/
def b47 (c : Nat) (M : mw_S) : Prop := ∃ x, M.1 47 = nI x ∧ c ≤ x ∧ x ≤ 60
/-- inside the body b, before the t-th word -/
def sBd (ad : Nat → Nat → Nat) (C : cw_C) (tb : Nat → Nat) (n : Nat) (M : mw_S) (t b : Nat) : Prop := rL ad C tb n t ∧ aA ad C M ∧ b < cN C 1 ∧ cI C 1 b 6 = M.1 47 ∧ b47 0 M
/-- what reading inside the body b leaves as it was; the first A0 actions too -/
def fB (A0 : Nat) (ad : Nat → Nat → Nat) (C : cw_C) (ad1 : Nat → Nat → Nat) (C1 : cw_C) (b : Nat) : Prop :=
  (∀ g i, ¬ g = 0 → ad1 g i = ad g i) ∧ (∀ i, i < cN C 0 → ad1 0 i = ad 0 i) ∧ (∀ g, ¬ g = 0 → ¬ g = 1 → ¬ g = 6 → C1 g = C g) ∧ cN C1 1 = cN C 1 ∧
  (∀ i j, ¬ (i = b ∧ j = 6) → cI C1 1 i j = cI C 1 i j) ∧ (∀ i j, cL C1 1 i j = cL C 1 i j ∧ cR C1 1 i j = cR C 1 i j) ∧ cN C 0 ≤ cN C1 0 ∧ (∀ i j, i < A0 → cI C1 0 i j = cI C 0 i j ∧ cR C1 0 i j = cR C 0 i j)
theorem fB.refl {A0 : Nat} {ad : Nat → Nat → Nat} {C : cw_C} {b : Nat} : fB A0 ad C ad C b := ⟨fun _ _ _ => rfl, fun _ _ => rfl, fun _ _ _ _ => rfl, rfl, fun _ _ _ => rfl, fun _ _ => ⟨rfl, rfl⟩, Nat.le_refl _, fun _ _ _ => ⟨rfl, rfl⟩⟩
theorem fB.trans {A0 A1 : Nat} {ad ad1 ad2 : Nat → Nat → Nat} {C C1 C2 : cw_C} {b : Nat} (x : fB A0 ad C ad1 C1 b) (y : fB A1 ad1 C1 ad2 C2 b) (h : A0 ≤ A1) : fB A0 ad C ad2 C2 b := by
  obtain ⟨a1, a2, a3, a4, a6, a7, a8, a9⟩ := x
  obtain ⟨b1, b2, b3, b4, b6, b7, b8, b9⟩ := y
  exact ⟨fun g i hg => (b1 g i hg).trans (a1 g i hg), fun i hi => (b2 i (by omega)).trans (a2 i hi), fun g x y z => (b3 g x y z).trans (a3 g x y z), b4.trans a4, fun i j e => (b6 i j e).trans (a6 i j e), fun i j => ⟨(b7 i j).1.trans (a7 i j).1, (b7 i j).2.trans (a7 i j).2⟩, Nat.le_trans a8 b8, fun i j hi => ⟨(b9 i j (by omega)).1.trans (a9 i j hi).1, (b9 i j (by omega)).2.trans (a9 i j hi).2⟩⟩
theorem fB.six {A0 : Nat} {ad ad1 : Nat → Nat → Nat} {C C1 C2 : cw_C} {b : Nat} (x : fB A0 ad C ad1 C1 b) (y : k6 C1 C2) : fB A0 ad C ad1 C2 b := by
  obtain ⟨a1, a2, a3, a4, a6, a7, a8, a9⟩ := x
  refine ⟨a1, a2, fun g x z w => ((y g).1 w).trans (a3 g x z w), ?_, fun i j e => ?_, fun i j => ?_, ?_, fun i j hi => ?_⟩
  · unfold cN; rw [(y 1).1 (by decide)]; exact a4
  · unfold cI; rw [(y 1).1 (by decide)]; exact a6 i j e
  · unfold cL cR; rw [(y 1).1 (by decide)]; exact a7 i j
  · unfold cN; rw [(y 0).1 (by decide)]; exact a8
  · unfold cI cR; rw [(y 0).1 (by decide)]; exact a9 i j hi
theorem fB.sI0 {A0 a l : Nat} {x : Int32} {ad ad1 : Nat → Nat → Nat} {C C1 : cw_C} {b : Nat} (h : fB A0 ad C ad1 C1 b) (ha : A0 ≤ a) : fB A0 ad C ad1 (cw_sI C1 0 a l x) b := by
  obtain ⟨a1, a2, a3, a4, a6, a7, a8, a9⟩ := h
  exact ⟨a1, a2, fun g x y z => (cw_sI_o x).trans (a3 g x y z), by rw [cw_sI_N]; exact a4, fun i j e => (cI_sI_n (by omega)).trans (a6 i j e), fun i j => ⟨cL_sI.trans (a7 i j).1, cR_sI.trans (a7 i j).2⟩, by rw [cw_sI_N]; exact a8, fun i j hi => ⟨(cI_sI_n (by omega)).trans (a9 i j hi).1, cR_sI.trans (a9 i j hi).2⟩⟩
theorem fB.sR0 {A0 a l : Nat} {x : Option Nat} {ad ad1 : Nat → Nat → Nat} {C C1 : cw_C} {b : Nat} (h : fB A0 ad C ad1 C1 b) (ha : A0 ≤ a) : fB A0 ad C ad1 (cw_sR C1 0 a l x) b := by
  obtain ⟨a1, a2, a3, a4, a6, a7, a8, a9⟩ := h
  exact ⟨a1, a2, fun g x y z => (cw_sR_o x).trans (a3 g x y z), by rw [cw_sR_N]; exact a4, fun i j e => cI_sR.trans (a6 i j e), fun i j => ⟨cL_sR.trans (a7 i j).1, (cR_sR_n (by omega)).trans (a7 i j).2⟩, by rw [cw_sR_N]; exact a8, fun i j hi => ⟨cI_sR.trans (a9 i j hi).1, (cR_sR_n (by omega)).trans (a9 i j hi).2⟩⟩
theorem fB.sI1 {A0 : Nat} {x : Int32} {ad ad1 : Nat → Nat → Nat} {C C1 : cw_C} {b : Nat} (h : fB A0 ad C ad1 C1 b) : fB A0 ad C ad1 (cw_sI C1 1 b 6 x) b := by
  obtain ⟨a1, a2, a3, a4, a6, a7, a8, a9⟩ := h
  exact ⟨a1, a2, fun g x y z => (cw_sI_o y).trans (a3 g x y z), by rw [cw_sI_N]; exact a4, fun i j e => (cI_sI_n (fun z => e z.2)).trans (a6 i j e), fun i j => ⟨cL_sI.trans (a7 i j).1, cR_sI.trans (a7 i j).2⟩, by rw [cw_sI_N]; exact a8, fun i j hi => ⟨(cI_sI_n (by omega)).trans (a9 i j hi).1, cR_sI.trans (a9 i j hi).2⟩⟩
theorem fB.new {A0 z w p : Nat} {ad : Nat → Nat → Nat} {C : cw_C} {b : Nat} (h : A0 ≤ cN C 0) : fB A0 ad C (cw_ad ad C 0 z) (aN C w p) b := by
  refine ⟨fun g i hg => cu2_ne (fun z => hg z.1), fun i hi => cw_ad_o hi, fun g x y z => cw_ext_o x, cN_ext_o (by decide), fun i j e => ?_, fun i j => ?_, ?_, fun i j hi => ⟨cI_ext_o (by omega), cR_ext_o (by omega)⟩⟩
  · unfold aN cI; rw [cw_ext_o (by decide)]
  · unfold aN cL cR; rw [cw_ext_o (by decide)]; exact ⟨rfl, rfl⟩
  · rw [show cN (aN C w p) 0 = cN C 0 + 1 from cN_ext]; omega
/-- room for what is still to be read -/
def rmB (n : Nat) (B : Nat × Nat) (h : mm_H) (p : Nat) : Prop := h.2.1 + (n - p) ≤ B.1 ∧ h.2.2 + 9 * (n - p) ≤ B.2
theorem rmB.mono {n p p' : Nat} {B : Nat × Nat} {h h' : mm_H} (r : rmB n B h p) (hp : p ≤ p') (he : h'.2 = h.2) : rmB n B h' p' := by
  unfold rmB at *
  rw [he]
  omega
theorem rmB.new {n p p' : Nat} {B : Nat × Nat} {h h' : mm_H} (r : rmB n B h p) (hp : p < p') (hn : p' ≤ n) (he : h'.2 = (h.2.1 + 1, h.2.2 + 6)) : rmB n B h' p' := by
  unfold rmB at *
  rw [he]
  show h.2.1 + 1 + (n - p') ≤ B.1 ∧ h.2.2 + 6 + 9 * (n - p') ≤ B.2
  omega
/-- how reading of an action or a block ends -/
def aQ (h0 : mm_H) (A0 : Nat) (ad : Nat → Nat → Nat) (C : cw_C) (b : Nat) (B : Nat × Nat) (tb : Nat → Nat) (n : Nat) (bad : Int32) (z : pr_T) (r : Option Value) (h1 : mm_H) : Prop :=
  ∃ ad1 C1, cw ad1 h0 C1 h1 ∧ fB A0 ad C ad1 C1 b ∧ ((¬ z.1 = bad ∧ sBd ad1 C1 tb n z.2.1 z.2.2 b ∧ rmB n B h1 (qs tb n z.2.2) ∧ ∃ o, r = some (va_rf o) ∧ lkR ad1 (cN C1 0) z.1 o) ∨ (z.1 = bad ∧ ∃ p, rD ad1 C1 p ∧ z.2.1.1 24 = nI p ∧ rmB n B h1 n ∧ ∃ o, r = some (va_rf o)))
/-- readBlock at this depth -/
def rB (G : mm_G) (L : Nat × Nat) (h0 : mm_H) (tb : Nat → Nat) (n a0 k q f deep D : Nat) : Prop :=
  ∀ (ad : Nat → Nat → Nat) (C : cw_C) (M : mw_S) (t b A0 : Nat) (B : Nat × Nat) (h : mm_H), pI tb n a0 M t → n - qs tb n t ≤ f → sBd ad C tb n M t b → A0 ≤ cN C 0 → rmB n B h (qs tb n t) → B.1 ≤ L.1 → B.2 ≤ L.2 → cw ad h0 C h →
    mm_Ok G mX6_readBlock L D [.ref (ad 6 0), .ref (ad 1 b), .int (nI deep)] h (fun r h1 => aQ h0 A0 ad C b B tb n (-2) (pB tb n (pL tb n k q f) M t deep) r h1)

