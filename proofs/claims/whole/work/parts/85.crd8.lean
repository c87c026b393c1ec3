/-! frames over the class's objects: the first N g of each family stay -/
def oK (N : Nat → Nat) (ad : Nat → Nat → Nat) (C : cw_C) (ad1 : Nat → Nat → Nat) (C1 : cw_C) : Prop := ∀ g, N g ≤ cN C1 g ∧ ∀ i, i < N g → ad1 g i = ad g i ∧ (C1 g).1 i = (C g).1 i ∧ (¬ g = 0 → (C1 g).2.1 i = (C g).2.1 i) ∧ (C1 g).2.2.1 i = (C g).2.2.1 i
def cw_row (C : cw_C) (f i : Nat) (a : Nat → Int32) (b : Nat → Int64) (c : Nat → Option Nat) : cw_C := mw_u C f (mw_u (C f).1 i a, mw_u (C f).2.1 i b, mw_u (C f).2.2.1 i c, (C f).2.2.2)
section OKS
variable {N : Nat → Nat} {ad ad1 ad2 : Nat → Nat → Nat} {C C1 C2 : cw_C} {f i j g k l : Nat} {a : Nat → Int32} {b : Nat → Int64} {c : Nat → Option Nat}
theorem cw_row_f : cw_row C f i a b c f = (mw_u (C f).1 i a, mw_u (C f).2.1 i b, mw_u (C f).2.2.1 i c, (C f).2.2.2) := cu_eq
theorem cw_row_o (h : ¬ g = f) : cw_row C f i a b c g = C g := cu_ne h
theorem cw_row_N : cN (cw_row C f i a b c) g = cN C g := by
  by_cases e : g = f
  · rw [e]; unfold cN; rw [cw_row_f]
  · unfold cN; rw [cw_row_o e]
theorem cI_row_e : cI (cw_row C f i a b c) f i l = a l := by
  unfold cI
  rw [cw_row_f]
  exact congrFun (cu_eq (f := (C f).1)) l
theorem cL_row_e : cL (cw_row C f i a b c) f i l = b l := by
  unfold cL
  rw [cw_row_f]
  exact congrFun (cu_eq (f := (C f).2.1)) l
theorem cR_row_e : cR (cw_row C f i a b c) f i l = c l := by
  unfold cR
  rw [cw_row_f]
  exact congrFun (cu_eq (f := (C f).2.2.1)) l
theorem cI_row_n (h : ¬ (g = f ∧ k = i)) : cI (cw_row C f i a b c) g k l = cI C g k l := by
  unfold cI
  by_cases e : g = f
  · subst e
    rw [cw_row_f]
    exact congrFun (cu_ne (f := (C g).1) (fun z => h ⟨rfl, z⟩)) l
  · rw [cw_row_o e]
theorem cL_row_n (h : ¬ (g = f ∧ k = i)) : cL (cw_row C f i a b c) g k l = cL C g k l := by
  unfold cL
  by_cases e : g = f
  · subst e
    rw [cw_row_f]
    exact congrFun (cu_ne (f := (C g).2.1) (fun z => h ⟨rfl, z⟩)) l
  · rw [cw_row_o e]
theorem cR_row_n (h : ¬ (g = f ∧ k = i)) : cR (cw_row C f i a b c) g k l = cR C g k l := by
  unfold cR
  by_cases e : g = f
  · subst e
    rw [cw_row_f]
    exact congrFun (cu_ne (f := (C g).2.2.1) (fun z => h ⟨rfl, z⟩)) l
  · rw [cw_row_o e]
theorem cw.row {h0 h h1 : mm_H} (hC : cw ad h0 C h) (f i : Nat) (hf : f < 22) (hi : i < cN C f) (a : Nat → Int32) (b : Nat → Int64) (c : Nat → Option Nat) (e : h1 = mm_set h (ad f i) (cw_k f, (List.range (cw_n f)).map (cw_x f a b c))) : cw ad h0 (cw_row C f i a b c) h1 := by
  subst e
  refine cw_upd hC hf hi (fun g => cw_row_N) (fun g k e => ?_) ?_
  · unfold cw_v
    by_cases z : g = f
    · subst z
      rw [cw_row_f]; dsimp only; rw [cu_ne (fun z => e ⟨rfl, z⟩), cu_ne (fun z => e ⟨rfl, z⟩), cu_ne (fun z => e ⟨rfl, z⟩)]
    · rw [cw_row_o z]
  · unfold cw_v
    rw [cw_row_f]; dsimp only; rw [cu_eq, cu_eq, cu_eq]
def cw_new (C : cw_C) (f : Nat) : cw_C := cw_ext C f (fun _ => 0) (fun _ => 0) (fun _ => none)
theorem cw.new {h0 h : mm_H} {fs : List Value} {kd : Nat} (hC : cw ad h0 C h) (f : Nat) (hf : f < 22) (hk : kd = cw_k f) (hfs : fs = (List.range (cw_n f)).map (cw_x f (fun _ => 0) (fun _ => 0) (fun _ => none))) : cw (cw_ad ad C f h.2.1) h0 (cw_new C f) (mm_push h (kd, fs)) := by
  refine cw_add hC f hf ?_ (fun z hz => mm_push_ne hz rfl) (Nat.lt_succ_self _) (Nat.le_add_right _ _)
  rw [hk, hfs]
  exact mm_push_eq
theorem oK.refl (h : ∀ g, N g ≤ cN C g) : oK N ad C ad C := fun g => ⟨h g, fun _ _ => ⟨rfl, rfl, fun _ => rfl, rfl⟩⟩
theorem oK.trans (x : oK N ad C ad1 C1) (y : oK N ad1 C1 ad2 C2) : oK N ad C ad2 C2 := fun g => ⟨(y g).1, fun i hi => by
  obtain ⟨a1, a2, a3, a4⟩ := (x g).2 i hi
  obtain ⟨b1, b2, b3, b4⟩ := (y g).2 i hi
  exact ⟨b1.trans a1, b2.trans a2, fun z => (b3 z).trans (a3 z), b4.trans a4⟩⟩
theorem oK.sI {x : Int32} (h : oK N ad C ad1 C1) (hi : N f ≤ i) : oK N ad C ad1 (cw_sI C1 f i j x) := fun g => ⟨by rw [cw_sI_N]; exact (h g).1, fun k hk => by
  obtain ⟨a1, a2, a3, a4⟩ := (h g).2 k hk
  by_cases e : g = f
  · subst e
    rw [cw_sI_f]
    exact ⟨a1, (mw_u2_row (by omega)).trans a2, a3, a4⟩
  · rw [cw_sI_o e]; exact ⟨a1, a2, a3, a4⟩⟩
theorem oK.sL {x : Int64} (h : oK N ad C ad1 C1) (hi : N f ≤ i) : oK N ad C ad1 (cw_sL C1 f i j x) := fun g => ⟨by rw [cw_sL_N]; exact (h g).1, fun k hk => by
  obtain ⟨a1, a2, a3, a4⟩ := (h g).2 k hk
  by_cases e : g = f
  · subst e
    rw [cw_sL_f]
    exact ⟨a1, a2, fun z => (mw_u2_row (by omega)).trans (a3 z), a4⟩
  · rw [cw_sL_o e]; exact ⟨a1, a2, a3, a4⟩⟩
theorem oK.sR {x : Option Nat} (h : oK N ad C ad1 C1) (hi : N f ≤ i) : oK N ad C ad1 (cw_sR C1 f i j x) := fun g => ⟨by rw [cw_sR_N]; exact (h g).1, fun k hk => by
  obtain ⟨a1, a2, a3, a4⟩ := (h g).2 k hk
  by_cases e : g = f
  · subst e
    rw [cw_sR_f]
    exact ⟨a1, a2, a3, (mw_u2_row (by omega)).trans a4⟩
  · rw [cw_sR_o e]; exact ⟨a1, a2, a3, a4⟩⟩
theorem oK.row (h : oK N ad C ad1 C1) (hi : N f ≤ i) : oK N ad C ad1 (cw_row C1 f i a b c) := fun g => ⟨by rw [cw_row_N]; exact (h g).1, fun k hk => by
  obtain ⟨a1, a2, a3, a4⟩ := (h g).2 k hk
  by_cases e : g = f
  · subst e
    rw [cw_row_f]
    exact ⟨a1, (cu_ne (by omega)).trans a2, fun z => (cu_ne (by omega)).trans (a3 z), (cu_ne (by omega)).trans a4⟩
  · rw [cw_row_o e]; exact ⟨a1, a2, a3, a4⟩⟩
theorem oK.ext {x : Nat} (h : oK N ad C ad1 C1) : oK N ad C (cw_ad ad1 C1 f x) (cw_ext C1 f a b c) := fun g => by
  have hle := (h g).1
  refine ⟨?_, fun k hk => ?_⟩
  · by_cases e : g = f
    · subst e; rw [cN_ext]; omega
    · rw [cN_ext_o e]; exact hle
  · obtain ⟨a1, a2, a3, a4⟩ := (h g).2 k hk
    have l : k < cN C1 g := by omega
    refine ⟨(cw_ad_o l).trans a1, ?_⟩
    by_cases e : g = f
    · subst e
      rw [cw_ext_f]
      exact ⟨(cu_ne (Nat.ne_of_lt l)).trans a2, fun z => (cu_ne (Nat.ne_of_lt l)).trans (a3 z), (cu_ne (Nat.ne_of_lt l)).trans a4⟩
    · rw [cw_ext_o e]; exact ⟨a2, a3, a4⟩
theorem oK.six (h : oK N ad C ad1 C1) (y : k6 C1 C2) (h6 : N 6 = 0) : oK N ad C ad1 C2 := fun g => ⟨by rw [(y g).2]; exact (h g).1, fun i hi => by
  by_cases e : g = 6
  · subst e; omega
  · rw [(y g).1 e]; exact (h g).2 i hi⟩
theorem oK.fB {A0 bb : Nat} (h : oK N ad C ad1 C1) (y : fB A0 ad1 C1 ad2 C2 bb) (h0 : N 0 ≤ A0) (h1 : N 1 ≤ bb) (h6 : N 6 = 0) : oK N ad C ad2 C2 := fun g => by
  obtain ⟨y1, y2, y3, y4, y6, y7, y8, y9⟩ := y
  have hle := (h g).1
  by_cases e0 : g = 0
  · subst e0
    refine ⟨by omega, fun i hi => ?_⟩
    obtain ⟨a1, a2, a3, a4⟩ := (h 0).2 i hi
    exact ⟨(y2 i (by omega)).trans a1, (funext (fun j => (y9 i j (by omega)).1)).trans a2, fun z => absurd rfl z, (funext (fun j => (y9 i j (by omega)).2)).trans a4⟩
  · by_cases e1 : g = 1
    · subst e1
      refine ⟨by omega, fun i hi => ?_⟩
      obtain ⟨a1, a2, a3, a4⟩ := (h 1).2 i hi
      exact ⟨(y1 1 i e0).trans a1, (funext (fun j => y6 i j (by omega))).trans a2, fun z => (funext (fun j => (y7 i j).1)).trans (a3 z), (funext (fun j => (y7 i j).2)).trans a4⟩
    · by_cases e6 : g = 6
      · subst e6
        exact ⟨by omega, fun i hi => by omega⟩
      · rw [show cN C2 g = cN C1 g by unfold cN; rw [y3 g e0 e1 e6], y3 g e0 e1 e6]
        refine ⟨hle, fun i hi => ?_⟩
        obtain ⟨a1, a2⟩ := (h g).2 i hi
        exact ⟨(y1 g i e0).trans a1, a2⟩
end OKS
section OKG
variable {N : Nat → Nat} {ad ad1 ad2 : Nat → Nat → Nat} {C C1 C2 : cw_C} {f i j g k l q s : Nat}
theorem oK.gv (h : oK N ad C ad1 C1) (y : gvP ad1 C1 C2 k g q s) (h1 : N 1 ≤ s) (h4 : N 4 ≤ k) (h21 : N 21 ≤ k) : oK N ad C ad1 C2 := fun f => by
  obtain ⟨y1, y2, y3, y4, y5, y6, -⟩ := y
  refine ⟨by rw [y2]; exact (h f).1, fun i hi => ?_⟩
  obtain ⟨a1, a2, a3, a4⟩ := (h f).2 i hi
  refine ⟨a1, (funext (fun j => (y3 f i j).1)).trans a2, fun z => (funext (fun j => (y3 f i j).2)).trans (a3 z), Eq.trans ?_ a4⟩
  by_cases e1 : f = 1
  · subst e1; exact funext (fun j => y5 i j (by omega))
  · by_cases e4 : f = 4
    · subst e4; exact funext (fun j => y4 i j (by omega))
    · by_cases e21 : f = 21
      · subst e21; exact funext (fun j => y6 i j (by omega))
      · rw [y1 f e1 e4 e21]
end OKG
/-! room -/
theorem rmB.newB {n p p' : Nat} {B : Nat × Nat} {h h' : mm_H} (r : rmB n B h p) (hp : p < p') (hn : p' ≤ n) (he : h'.2 = (h.2.1 + 1, h.2.2 + 9)) : rmB n B h' p' := by
  unfold rmB at *
  rw [he]
  show h.2.1 + 1 + (n - p') ≤ B.1 ∧ h.2.2 + 9 + 9 * (n - p') ≤ B.2
  omega
theorem rmB.newK {n p p' : Nat} {B : Nat × Nat} {h h' : mm_H} (r : rmB n B h p) (hp : p + 1 < p') (hn : p' ≤ n) (he : h'.2 = (h.2.1 + 2, h.2.2 + 18)) : rmB n B h' p' := by
  unfold rmB at *
  rw [he]
  show h.2.1 + 2 + (n - p') ≤ B.1 ∧ h.2.2 + 18 + 9 * (n - p') ≤ B.2
  omega
/-- room behind a fault -/
def rmX (B : Nat × Nat) (h : mm_H) : Prop := h.2.1 ≤ B.1 + 2 ∧ h.2.2 ≤ B.2 + 18
theorem rmX.same {B : Nat × Nat} {h h' : mm_H} (r : rmX B h) (he : h'.2 = h.2) : rmX B h' := by unfold rmX at *; rw [he]; exact r
theorem rmB.X {n p : Nat} {B : Nat × Nat} {h h' : mm_H} (r : rmB n B h p) {x y : Nat} (hx : x ≤ 2) (hy : y ≤ 18) (he : h'.2 = (h.2.1 + x, h.2.2 + y)) : rmX B h' := by
  unfold rmB at r
  unfold rmX
  rw [he]
  show h.2.1 + x ≤ B.1 + 2 ∧ h.2.2 + y ≤ B.2 + 18
  omega
