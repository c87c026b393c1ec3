/-! the class's objects: families f (0-11 its classes, 12-21 its arrays), the i-th object of a family, its j-th field or element; ad: where it stands -/
abbrev cw_F : Type := (Nat → Nat → Int32) × (Nat → Nat → Int64) × (Nat → Nat → Option Nat) × Nat
abbrev cw_C : Type := Nat → cw_F
abbrev cI (C : cw_C) (f i j : Nat) : Int32 := (C f).1 i j
abbrev cL (C : cw_C) (f i j : Nat) : Int64 := (C f).2.1 i j
abbrev cR (C : cw_C) (f i j : Nat) : Option Nat := (C f).2.2.1 i j
abbrev cN (C : cw_C) (f : Nat) : Nat := (C f).2.2.2
def cw_tab : List (Nat × Nat × List Nat) := [(0, 6, [0, 0, 0, 2, 2, 2]), (1, 9, [2, 0, 0, 0, 0, 2, 0, 1, 2]), (2, 4, [0, 0, 2, 2]), (3, 7, [0, 2, 2, 0, 0, 0, 0]), (4, 12, [1, 0, 1, 0, 0, 2, 0, 0, 0, 2, 2, 2]), (5, 8, [1, 0, 1, 0, 0, 0, 2, 0]), (6, 2, [0, 2]), (7, 5, [2, 0, 2, 0, 0]), (8, 14, [0, 0, 0, 0, 0, 0, 0, 2, 2, 2, 2, 2, 0, 0]), (9, 5, [0, 2, 0, 0, 0]), (10, 5, [0, 0, 0, 1, 2]), (11, 10, [2, 0, 0, 2, 2, 0, 2, 2, 0, 2]),
  (101, 800, []), (100, 5, []), (100, 406, []), (100, 400, []), (107, 20, []), (108, 512, []), (104, 40, []), (105, 12, []), (104, 10, []), (106, 6, [])]
def cw_k (f : Nat) : Nat := (cw_tab.getD f (0, 0, [])).1
def cw_n (f : Nat) : Nat := (cw_tab.getD f (0, 0, [])).2.1
def cw_y (f j : Nat) : Nat := bif Nat.ble 104 (cw_k f) then 2 else bif Nat.ble 100 (cw_k f) then 0 else (cw_tab.getD f (0, 0, [])).2.2.getD j 0
def cw_x (f : Nat) (a : Nat → Int32) (b : Nat → Int64) (c : Nat → Option Nat) (j : Nat) : Value := match cw_y f j with
  | 0 => .int (a j)
  | 1 => .long (b j)
  | _ => va_rf (c j)
def cw_v (C : cw_C) (f i : Nat) : Nat → Value := cw_x f ((C f).1 i) ((C f).2.1 i) ((C f).2.2.1 i)
def cw (ad : Nat → Nat → Nat) (h0 : mm_H) (C : cw_C) (h : mm_H) : Prop :=
  (∀ f i, f < 22 → i < cN C f → h.1 (ad f i) = some (cw_k f, (List.range (cw_n f)).map (cw_v C f i))) ∧
  (∀ f i g j, f < 22 → g < 22 → i < cN C f → j < cN C g → ad f i = ad g j → f = g ∧ i = j) ∧
  (∀ a, a < h0.2.1 → (∀ f i, f < 22 → i < cN C f → ¬ a = ad f i) → h.1 a = h0.1 a) ∧ h0.2.1 ≤ h.2.1 ∧ h0.2.2 ≤ h.2.2 ∧
  (∀ f i, f < 22 → i < cN C f → ad f i < h.2.1) ∧ ∀ a c, h0.1 a = some c → 200 ≤ c.1 → a < h0.2.1 → h.1 a = some c
theorem cw_k_lt (f : Nat) : cw_k f < 200 := by
  by_cases l : f < 22
  · have : ∀ f, f < 22 → cw_k f < 200 := by decide +kernel
    exact this f l
  · unfold cw_k
    rw [List.getD_eq_getElem?_getD, List.getElem?_eq_none (by show 22 ≤ f; omega)]
    decide
def cw_sI (C : cw_C) (f i j : Nat) (x : Int32) : cw_C := mw_u C f (mw_u2 (C f).1 i j x, (C f).2)
def cw_sL (C : cw_C) (f i j : Nat) (x : Int64) : cw_C := mw_u C f ((C f).1, mw_u2 (C f).2.1 i j x, (C f).2.2)
def cw_sR (C : cw_C) (f i j : Nat) (x : Option Nat) : cw_C := mw_u C f ((C f).1, (C f).2.1, mw_u2 (C f).2.2.1 i j x, (C f).2.2.2)
def cw_ext (C : cw_C) (f : Nat) (a : Nat → Int32) (b : Nat → Int64) (c : Nat → Option Nat) : cw_C := mw_u C f (mw_u (C f).1 (cN C f) a, mw_u (C f).2.1 (cN C f) b, mw_u (C f).2.2.1 (cN C f) c, cN C f + 1)
theorem cu_eq {α : Type} {f : Nat → α} {j : Nat} {x : α} : mw_u f j x j = x := if_pos rfl
theorem cu_ne {α : Type} {f : Nat → α} {j i : Nat} {x : α} (h : ¬ i = j) : mw_u f j x i = f i := if_neg h
theorem cu2_eq {α : Type} {f : Nat → Nat → α} {j k : Nat} {x : α} : mw_u2 f j k x j k = x := if_pos ⟨rfl, rfl⟩
theorem cu2_ne {α : Type} {f : Nat → Nat → α} {j k i l : Nat} {x : α} (h : ¬ (i = j ∧ l = k)) : mw_u2 f j k x i l = f i l := if_neg h
theorem mw_u2_row {α : Type} {f : Nat → Nat → α} {j k i : Nat} {x : α} (h : ¬ i = j) : mw_u2 f j k x i = f i := funext (fun _ => if_neg (fun z => h z.1))
theorem mw_u2_self {α : Type} {f : Nat → Nat → α} {j k : Nat} {x : α} : mw_u2 f j k x j = mw_u (f j) k x := by
  funext l
  unfold mw_u2 mw_u
  by_cases e : l = k
  · rw [if_pos ⟨rfl, e⟩, if_pos e]
  · rw [if_neg (fun z => e z.2), if_neg e]
theorem cw_xI {f j : Nat} {a : Nat → Int32} {b : Nat → Int64} {c : Nat → Option Nat} (h : cw_y f j = 0) : cw_x f a b c j = .int (a j) := by unfold cw_x; rw [h]; rfl
theorem cw_xL {f j : Nat} {a : Nat → Int32} {b : Nat → Int64} {c : Nat → Option Nat} (h : cw_y f j = 1) : cw_x f a b c j = .long (b j) := by unfold cw_x; rw [h]; rfl
theorem cw_xR {f j : Nat} {a : Nat → Int32} {b : Nat → Int64} {c : Nat → Option Nat} (h : cw_y f j = 2) : cw_x f a b c j = va_rf (c j) := by unfold cw_x; rw [h]; rfl
theorem cw_xuI {f j : Nat} {a : Nat → Int32} {b : Nat → Int64} {c : Nat → Option Nat} {x : Int32} (h : cw_y f j = 0) : mw_u (cw_x f a b c) j (.int x) = cw_x f (mw_u a j x) b c := by
  funext i
  by_cases e : i = j
  · rw [e, cu_eq, cw_xI h, cu_eq]
  · rw [cu_ne e]; unfold cw_x; rw [cu_ne e]
theorem cw_xuL {f j : Nat} {a : Nat → Int32} {b : Nat → Int64} {c : Nat → Option Nat} {x : Int64} (h : cw_y f j = 1) : mw_u (cw_x f a b c) j (.long x) = cw_x f a (mw_u b j x) c := by
  funext i
  by_cases e : i = j
  · rw [e, cu_eq, cw_xL h, cu_eq]
  · rw [cu_ne e]; unfold cw_x; rw [cu_ne e]
theorem cw_xuR {f j : Nat} {a : Nat → Int32} {b : Nat → Int64} {c : Nat → Option Nat} {x : Option Nat} (h : cw_y f j = 2) : mw_u (cw_x f a b c) j (va_rf x) = cw_x f a b (mw_u c j x) := by
  funext i
  by_cases e : i = j
  · rw [e, cu_eq, cw_xR h, cu_eq]
  · rw [cu_ne e]; unfold cw_x; rw [cu_ne e]
section CWU
variable {C : cw_C} {f i j g k : Nat}
theorem cw_sI_f {x : Int32} : cw_sI C f i j x f = (mw_u2 (C f).1 i j x, (C f).2) := cu_eq
theorem cw_sL_f {x : Int64} : cw_sL C f i j x f = ((C f).1, mw_u2 (C f).2.1 i j x, (C f).2.2) := cu_eq
theorem cw_sR_f {x : Option Nat} : cw_sR C f i j x f = ((C f).1, (C f).2.1, mw_u2 (C f).2.2.1 i j x, (C f).2.2.2) := cu_eq
theorem cw_sI_o {x : Int32} (h : ¬ g = f) : cw_sI C f i j x g = C g := cu_ne h
theorem cw_sL_o {x : Int64} (h : ¬ g = f) : cw_sL C f i j x g = C g := cu_ne h
theorem cw_sR_o {x : Option Nat} (h : ¬ g = f) : cw_sR C f i j x g = C g := cu_ne h
theorem cw_ext_f {a : Nat → Int32} {b : Nat → Int64} {c : Nat → Option Nat} : cw_ext C f a b c f = (mw_u (C f).1 (cN C f) a, mw_u (C f).2.1 (cN C f) b, mw_u (C f).2.2.1 (cN C f) c, cN C f + 1) := cu_eq
theorem cw_ext_o {a : Nat → Int32} {b : Nat → Int64} {c : Nat → Option Nat} (h : ¬ g = f) : cw_ext C f a b c g = C g := cu_ne h
theorem cw_sI_N {x : Int32} : cN (cw_sI C f i j x) g = cN C g := by
  by_cases e : g = f
  · rw [e]; unfold cN; rw [cw_sI_f]
  · unfold cN; rw [cw_sI_o e]
theorem cw_sL_N {x : Int64} : cN (cw_sL C f i j x) g = cN C g := by
  by_cases e : g = f
  · rw [e]; unfold cN; rw [cw_sL_f]
  · unfold cN; rw [cw_sL_o e]
theorem cw_sR_N {x : Option Nat} : cN (cw_sR C f i j x) g = cN C g := by
  by_cases e : g = f
  · rw [e]; unfold cN; rw [cw_sR_f]
  · unfold cN; rw [cw_sR_o e]
theorem cw_sI_v {x : Int32} (h : ¬ (g = f ∧ k = i)) : cw_v (cw_sI C f i j x) g k = cw_v C g k := by
  unfold cw_v
  by_cases e : g = f
  · subst e; rw [cw_sI_f]; dsimp only; rw [mw_u2_row (fun z => h ⟨rfl, z⟩)]
  · rw [cw_sI_o e]
theorem cw_sL_v {x : Int64} (h : ¬ (g = f ∧ k = i)) : cw_v (cw_sL C f i j x) g k = cw_v C g k := by
  unfold cw_v
  by_cases e : g = f
  · subst e; rw [cw_sL_f]; dsimp only; rw [mw_u2_row (fun z => h ⟨rfl, z⟩)]
  · rw [cw_sL_o e]
theorem cw_sR_v {x : Option Nat} (h : ¬ (g = f ∧ k = i)) : cw_v (cw_sR C f i j x) g k = cw_v C g k := by
  unfold cw_v
  by_cases e : g = f
  · subst e; rw [cw_sR_f]; dsimp only; rw [mw_u2_row (fun z => h ⟨rfl, z⟩)]
  · rw [cw_sR_o e]
theorem cw_sI_w {x : Int32} (h : cw_y f j = 0) : mw_u (cw_v C f i) j (.int x) = cw_v (cw_sI C f i j x) f i := by
  unfold cw_v; rw [cw_xuI h, cw_sI_f]; dsimp only; rw [mw_u2_self]
theorem cw_sL_w {x : Int64} (h : cw_y f j = 1) : mw_u (cw_v C f i) j (.long x) = cw_v (cw_sL C f i j x) f i := by
  unfold cw_v; rw [cw_xuL h, cw_sL_f]; dsimp only; rw [mw_u2_self]
theorem cw_sR_w {x : Option Nat} (h : cw_y f j = 2) : mw_u (cw_v C f i) j (va_rf x) = cw_v (cw_sR C f i j x) f i := by
  unfold cw_v; rw [cw_xuR h, cw_sR_f]; dsimp only; rw [mw_u2_self]
theorem cw_upd {ad : Nat → Nat → Nat} {h0 h : mm_H} {C' : cw_C} {c : mm_C} (hC : cw ad h0 C h) (hf : f < 22) (hi : i < cN C f) (hN : ∀ g, cN C' g = cN C g) (hv : ∀ g k, ¬ (g = f ∧ k = i) → cw_v C' g k = cw_v C g k) (hc : c = (cw_k f, (List.range (cw_n f)).map (cw_v C' f i))) : cw ad h0 C' (mm_set h (ad f i) c) := by
  obtain ⟨w1, w2, w3, w4, w5, w6, w7⟩ := hC
  refine ⟨fun g k hg hk => ?_, fun a b c d ha hc hb hd e => w2 a b c d ha hc (by rw [← hN]; exact hb) (by rw [← hN]; exact hd) e, fun a ha hn => ?_, w4, w5, fun g k hg hk => w6 g k hg (by rw [← hN]; exact hk), fun a z hz hk hl => mm_set_ne (fun e => ?_) (w7 a z hz hk hl)⟩
  · rw [hN] at hk
    by_cases e : g = f ∧ k = i
    · rw [e.1, e.2, hc]; exact mm_set_eq
    · rw [hv g k e]
      exact mm_set_ne (fun z => e (w2 _ _ _ _ hg hf hk hi z)) (w1 g k hg hk)
  · exact mm_set_ne (hn f i hf (by rw [hN]; exact hi)) (w3 a ha (fun g k hg hk => hn g k hg (by rw [hN]; exact hk)))
  · have q := w7 a z hz hk hl
    rw [e, w1 f i hf hi] at q
    have q2 := congrArg Prod.fst (Option.some.inj q)
    have q3 : cw_k f = z.1 := q2
    have := cw_k_lt f
    omega
theorem cw.re {ad : Nat → Nat → Nat} {h0 h : mm_H} (hC : cw ad h0 C h) : cw ad h C h := ⟨hC.1, hC.2.1, fun _ _ _ => rfl, Nat.le_refl _, Nat.le_refl _, hC.2.2.2.2.2.1, fun _ _ hz _ _ => hz⟩
/-- other cells are written or laid: the window stays -/
theorem cw.keep {ad : Nat → Nat → Nat} {h0 h h' : mm_H} (hC : cw ad h0 C h) (h1 : ∀ a, a < h.2.1 → h'.1 a = h.1 a) (h2 : h.2.1 ≤ h'.2.1) (h3 : h.2.2 ≤ h'.2.2) : cw ad h0 C h' := by
  obtain ⟨w1, w2, w3, w4, w5, w6, w7⟩ := hC
  exact ⟨fun g k hg hk => (h1 _ (w6 g k hg hk)).trans (w1 g k hg hk), w2, fun a ha hn => (h1 a (by omega)).trans (w3 a ha hn), by omega, by omega, fun g k hg hk => Nat.lt_of_lt_of_le (w6 g k hg hk) h2, fun a z hz hk hl => (h1 a (by omega)).trans (w7 a z hz hk hl)⟩
theorem cw.keep2 {ad : Nat → Nat → Nat} {h0 h h' : mm_H} (hC : cw ad h0 C h) (h1 : ∀ f i, f < 22 → i < cN C f → h'.1 (ad f i) = h.1 (ad f i)) (h2 : h.2.1 ≤ h'.2.1) : cw ad h' C h' := by
  obtain ⟨w1, w2, w3, w4, w5, w6, w7⟩ := hC
  exact ⟨fun g k hg hk => (h1 g k hg hk).trans (w1 g k hg hk), w2, fun a ha hn => rfl, Nat.le_refl _, Nat.le_refl _, fun g k hg hk => Nat.lt_of_lt_of_le (w6 g k hg hk) h2, fun _ _ hz _ _ => hz⟩
/-- some of the objects are forgotten -/
theorem cw.less {ad : Nat → Nat → Nat} {h0 h : mm_H} {C' : cw_C} (hC : cw ad h0 C h) (hN : ∀ g, cN C' g ≤ cN C g) (hv : ∀ g k, k < cN C' g → cw_v C' g k = cw_v C g k) : cw ad h C' h := by
  obtain ⟨w1, w2, w3, w4, w5, w6, w7⟩ := hC
  exact ⟨fun g k hg hk => by rw [hv g k hk]; exact w1 g k hg (Nat.lt_of_lt_of_le hk (hN g)), fun a b c d ha hc hb hd e => w2 a b c d ha hc (Nat.lt_of_lt_of_le hb (hN a)) (Nat.lt_of_lt_of_le hd (hN c)) e, fun _ _ _ => rfl, Nat.le_refl _, Nat.le_refl _, fun g k hg hk => w6 g k hg (Nat.lt_of_lt_of_le hk (hN g)), fun _ _ hz _ _ => hz⟩
def cw_ad (ad : Nat → Nat → Nat) (C : cw_C) (f a : Nat) : Nat → Nat → Nat := mw_u2 ad f (cN C f) a
theorem cw_ad_o {ad : Nat → Nat → Nat} {a : Nat} (h : i < cN C g) : cw_ad ad C f a g i = ad g i := cu2_ne (fun z => by obtain ⟨rfl, rfl⟩ := z; exact Nat.lt_irrefl _ h)
theorem cw_ad_n {ad : Nat → Nat → Nat} {a : Nat} : cw_ad ad C f a f (cN C f) = a := cu2_eq
/-- a new object joins the window -/
theorem cw_add {ad : Nat → Nat → Nat} {h0 h h' : mm_H} (hC : cw ad h0 C h) (f : Nat) (hf : f < 22) {a : Nat → Int32} {b : Nat → Int64} {c : Nat → Option Nat} (h1 : h'.1 h.2.1 = some (cw_k f, (List.range (cw_n f)).map (cw_x f a b c))) (h2 : ∀ z, ¬ z = h.2.1 → h'.1 z = h.1 z) (h3 : h.2.1 < h'.2.1) (h4 : h.2.2 ≤ h'.2.2) : cw (cw_ad ad C f h.2.1) h0 (cw_ext C f a b c) h' := by
  obtain ⟨w1, w2, w3, w4, w5, w6, w7⟩ := hC
  have key : ∀ g k, k < cN (cw_ext C f a b c) g → (g = f ∧ k = cN C f) ∨ (k < cN C g ∧ ¬ (g = f ∧ k = cN C f)) := by
    intro g k hk
    by_cases e : g = f
    · subst e
      unfold cN at hk
      rw [cw_ext_f] at hk
      have hk : k < cN C g + 1 := hk
      by_cases e2 : k = cN C g
      · exact Or.inl ⟨rfl, e2⟩
      · exact Or.inr ⟨by omega, fun z => e2 z.2⟩
    · unfold cN at hk
      rw [cw_ext_o e] at hk
      exact Or.inr ⟨hk, fun z => e z.1⟩
  have up : ∀ g k, k < cN C g → k < cN (cw_ext C f a b c) g := by
    intro g k hk
    by_cases e : g = f
    · subst e; unfold cN; rw [cw_ext_f]; exact Nat.lt_succ_of_lt hk
    · unfold cN; rw [cw_ext_o e]; exact hk
  refine ⟨fun g k hg hk => ?_, fun g k g' k' hg hg' hk hk' e => ?_, fun z hz hn => ?_, by omega, by omega, fun g k hg hk => ?_, fun z q hq hk hl => (h2 z (by omega)).trans (w7 z q hq hk hl)⟩
  · rcases key g k hk with ⟨e1, e2⟩ | ⟨l, n⟩
    · subst e1 e2
      rw [cw_ad_n, h1]
      unfold cw_v
      rw [cw_ext_f]; dsimp only; rw [cu_eq, cu_eq, cu_eq]
    · rw [cw_ad_o l, h2 _ (Nat.ne_of_lt (w6 g k hg l)), w1 g k hg l]
      have : cw_v (cw_ext C f a b c) g k = cw_v C g k := by
        unfold cw_v
        by_cases e : g = f
        · subst e
          rw [cw_ext_f]; dsimp only; rw [cu_ne (fun z => n ⟨rfl, z⟩), cu_ne (fun z => n ⟨rfl, z⟩), cu_ne (fun z => n ⟨rfl, z⟩)]
        · rw [cw_ext_o e]
      rw [this]
  · rcases key g k hk with ⟨e1, e2⟩ | ⟨l, n⟩
    · rcases key g' k' hk' with ⟨e1', e2'⟩ | ⟨l', n'⟩
      · exact ⟨e1.trans e1'.symm, e2.trans e2'.symm⟩
      · rw [e1, e2, cw_ad_n, cw_ad_o l'] at e
        exact absurd e.symm (Nat.ne_of_lt (w6 g' k' hg' l'))
    · rcases key g' k' hk' with ⟨e1', e2'⟩ | ⟨l', n'⟩
      · rw [e1', e2', cw_ad_n, cw_ad_o l] at e
        exact absurd e (Nat.ne_of_lt (w6 g k hg l))
      · rw [cw_ad_o l, cw_ad_o l'] at e
        exact w2 g k g' k' hg hg' l l' e
  · rw [h2 z (by omega)]
    exact w3 z hz (fun g k hg hk => by have := hn g k hg (up g k hk); rw [cw_ad_o hk] at this; exact this)
  · rcases key g k hk with ⟨e1, e2⟩ | ⟨l, n⟩
    · rw [e1, e2, cw_ad_n]; exact h3
    · rw [cw_ad_o l]; exact Nat.lt_trans (w6 g k hg l) h3
end CWU
section CWR
variable {G : mm_G} {y : mm_M} {A : Nat → Prop} {L : Nat × Nat} {d pc : Nat} {lv : List (Nat × Value)} {st : List Value} {h h0 : mm_H} {Q : Option Value → mm_H → Prop} {ad : Nat → Nat → Nat} {C : cw_C}
theorem cw_cell {f i a : Nat} (hC : cw ad h0 C h) (ha : ad f i = a) (hf : Nat.blt f 22 = true) (hi : i < cN C f) : h.1 a = some (cw_k f, (List.range (cw_n f)).map (cw_v C f i)) := by
  subst ha; exact hC.1 f i (Nat.le_of_ble_eq_true hf) hi
theorem cw_gi {idx a : Nat} (f i j : Nat) (hC : cw ad h0 C h) (ha : ad f i = a) (hf : Nat.blt f 22 = true) (hi : i < cN C f) (hd : decode y.2.1 pc = .ok (.getfield idx, 3)) (hl0 : mm_fl y.1.cls idx f j) (hm : cw_k f % 200 = f) (hj : Nat.blt j (cw_n f) = true) (hy : cw_y f j = 0)
    (k : mm_Run G y A L d (pc + 3) lv (.int (cI C f i j) :: st) h Q) : mm_Run G y A L d pc lv (.ref a :: st) h Q :=
  mm_get hd hl0 (cw_cell hC ha hf hi) hm (by rw [mw_rangeG _ (Nat.le_of_ble_eq_true hj)]; exact congrArg some (cw_xI hy)) k
theorem cw_gl {idx a : Nat} (f i j : Nat) (hC : cw ad h0 C h) (ha : ad f i = a) (hf : Nat.blt f 22 = true) (hi : i < cN C f) (hd : decode y.2.1 pc = .ok (.getfield idx, 3)) (hl0 : mm_fl y.1.cls idx f j) (hm : cw_k f % 200 = f) (hj : Nat.blt j (cw_n f) = true) (hy : cw_y f j = 1)
    (k : mm_Run G y A L d (pc + 3) lv (.long (cL C f i j) :: st) h Q) : mm_Run G y A L d pc lv (.ref a :: st) h Q :=
  mm_get hd hl0 (cw_cell hC ha hf hi) hm (by rw [mw_rangeG _ (Nat.le_of_ble_eq_true hj)]; exact congrArg some (cw_xL hy)) k
theorem cw_gr {idx a : Nat} {v : Value} (f i j : Nat) (hC : cw ad h0 C h) (ha : ad f i = a) (hf : Nat.blt f 22 = true) (hi : i < cN C f) (hd : decode y.2.1 pc = .ok (.getfield idx, 3)) (hl0 : mm_fl y.1.cls idx f j) (hm : cw_k f % 200 = f) (hj : Nat.blt j (cw_n f) = true) (hy : cw_y f j = 2) (hv : va_rf (cR C f i j) = v)
    (k : mm_Run G y A L d (pc + 3) lv (v :: st) h Q) : mm_Run G y A L d pc lv (.ref a :: st) h Q := by
  subst hv
  exact mm_get hd hl0 (cw_cell hC ha hf hi) hm (by rw [mw_rangeG _ (Nat.le_of_ble_eq_true hj)]; exact congrArg some (cw_xR hy)) k
theorem cw_grS {idx a x : Nat} (f i j : Nat) (hC : cw ad h0 C h) (ha : ad f i = a) (hf : Nat.blt f 22 = true) (hi : i < cN C f) (hd : decode y.2.1 pc = .ok (.getfield idx, 3)) (hl0 : mm_fl y.1.cls idx f j) (hm : cw_k f % 200 = f) (hj : Nat.blt j (cw_n f) = true) (hy : cw_y f j = 2) (hv : cR C f i j = some x)
    (k : mm_Run G y A L d (pc + 3) lv (.ref x :: st) h Q) : mm_Run G y A L d pc lv (.ref a :: st) h Q :=
  cw_gr f i j hC ha hf hi hd hl0 hm hj hy (by rw [hv]; rfl) k
theorem cw_grN {idx a : Nat} (f i j : Nat) (hC : cw ad h0 C h) (ha : ad f i = a) (hf : Nat.blt f 22 = true) (hi : i < cN C f) (hd : decode y.2.1 pc = .ok (.getfield idx, 3)) (hl0 : mm_fl y.1.cls idx f j) (hm : cw_k f % 200 = f) (hj : Nat.blt j (cw_n f) = true) (hy : cw_y f j = 2) (hv : cR C f i j = none)
    (k : mm_Run G y A L d (pc + 3) lv (.null :: st) h Q) : mm_Run G y A L d pc lv (.ref a :: st) h Q :=
  cw_gr f i j hC ha hf hi hd hl0 hm hj hy (by rw [hv]; rfl) k
theorem cw_pi {idx a : Nat} (f i j : Nat) {x : Int32} {ty : FieldType} (hC : cw ad h0 C h) (ha : ad f i = a) (hf : Nat.blt f 22 = true) (hi : i < cN C f) (hd : decode y.2.1 pc = .ok (.putfield idx, 3)) (hl0 : mm_pl y.1.cls y.1.name idx f j ty) (hm : cw_k f = f) (hy : cw_y f j = 0) (hn : narrow ty (.int x) = .int x) (ht : fits ty (.int x) = true)
    (k : ∀ h', cw ad h0 (cw_sI C f i j x) h' → h'.2 = h.2 → mm_Run G y A L d (pc + 3) lv st h' Q) : mm_Run G y A L d pc lv (.int x :: .ref a :: st) h Q := by
  subst ha
  exact mm_put hd hl0 (cw_cell hC rfl hf hi) hm hn ht (k _ (cw_upd hC (Nat.le_of_ble_eq_true hf) hi (fun g => cw_sI_N) (fun g k e => cw_sI_v e) (by rw [mw_rangeS, cw_sI_w hy])) rfl)
theorem cw_pl {idx a : Nat} (f i j : Nat) {x : Int64} (hC : cw ad h0 C h) (ha : ad f i = a) (hf : Nat.blt f 22 = true) (hi : i < cN C f) (hd : decode y.2.1 pc = .ok (.putfield idx, 3)) (hl0 : mm_pl y.1.cls y.1.name idx f j .long) (hm : cw_k f = f) (hy : cw_y f j = 1)
    (k : ∀ h', cw ad h0 (cw_sL C f i j x) h' → h'.2 = h.2 → mm_Run G y A L d (pc + 3) lv st h' Q) : mm_Run G y A L d pc lv (.long x :: .ref a :: st) h Q := by
  subst ha
  exact mm_put hd hl0 (cw_cell hC rfl hf hi) hm rfl rfl (k _ (cw_upd hC (Nat.le_of_ble_eq_true hf) hi (fun g => cw_sL_N) (fun g k e => cw_sL_v e) (by rw [mw_rangeS, cw_sL_w hy])) rfl)
theorem cw_pr {idx a : Nat} (f i j : Nat) {v : Value} {x : Option Nat} {Cn : String} (hC : cw ad h0 C h) (ha : ad f i = a) (hf : Nat.blt f 22 = true) (hi : i < cN C f) (hd : decode y.2.1 pc = .ok (.putfield idx, 3)) (hl0 : mm_pl y.1.cls y.1.name idx f j (.object Cn)) (hm : cw_k f = f) (hy : cw_y f j = 2) (hv : va_rf x = v)
    (k : ∀ h', cw ad h0 (cw_sR C f i j x) h' → h'.2 = h.2 → mm_Run G y A L d (pc + 3) lv st h' Q) : mm_Run G y A L d pc lv (v :: .ref a :: st) h Q := by
  subst ha hv
  exact mm_put hd hl0 (cw_cell hC rfl hf hi) hm (by cases x <;> rfl) (by cases x <;> rfl) (k _ (cw_upd hC (Nat.le_of_ble_eq_true hf) hi (fun g => cw_sR_N) (fun g k e => cw_sR_v e) (by rw [mw_rangeS, cw_sR_w hy])) rfl)
theorem cw_prS {idx a b : Nat} (f i j : Nat) {Cn : String} (hC : cw ad h0 C h) (ha : ad f i = a) (hf : Nat.blt f 22 = true) (hi : i < cN C f) (hd : decode y.2.1 pc = .ok (.putfield idx, 3)) (hl0 : mm_pl y.1.cls y.1.name idx f j (.object Cn)) (hm : cw_k f = f) (hy : cw_y f j = 2)
    (k : ∀ h', cw ad h0 (cw_sR C f i j (some b)) h' → h'.2 = h.2 → mm_Run G y A L d (pc + 3) lv st h' Q) : mm_Run G y A L d pc lv (.ref b :: .ref a :: st) h Q :=
  cw_pr f i j (x := some b) hC ha hf hi hd hl0 hm hy rfl k
theorem cw_alen {a : Nat} (f i : Nat) (hC : cw ad h0 C h) (ha : ad f i = a) (hf : Nat.blt f 22 = true) (hi : i < cN C f) (hd : decode y.2.1 pc = .ok (.arraylength, 1)) (hk : Nat.ble 100 (cw_k f % 200) = true) (ht : Nat.blt (cw_k f % 200 - 100) 10 = true)
    (k : mm_Run G y A L d (pc + 1) lv (.int (nI (cw_n f)) :: st) h Q) : mm_Run G y A L d pc lv (.ref a :: st) h Q := by
  refine mm_alen2 hd (cw_cell hC ha hf hi) hk ht ?_
  rw [List.length_map, List.length_range]
  exact k
theorem cw_iald {a : Nat} (f i j : Nat) {x : Int32} (hC : cw ad h0 C h) (ha : ad f i = a) (hf : Nat.blt f 22 = true) (hi : i < cN C f) (hd : decode y.2.1 pc = .ok (.iaload, 1)) (hk : cw_k f % 200 = 100 + 0) (hx : x = nI j) (hj : j < cw_n f) (hb : j < 2 ^ 31) (hy : cw_y f j = 0)
    (k : mm_Run G y A L d (pc + 1) lv (.int (cI C f i j) :: st) h Q) : mm_Run G y A L d pc lv (.int x :: .ref a :: st) h Q := by
  subst hx
  exact mm_iald hd (cw_cell hC ha hf hi) hk (nI_pos hb) (by rw [nI_clamp hb, mw_rangeG _ hj]; exact congrArg some (cw_xI hy)) k
theorem cw_bald {a : Nat} (f i j : Nat) {x : Int32} (hC : cw ad h0 C h) (ha : ad f i = a) (hf : Nat.blt f 22 = true) (hi : i < cN C f) (hd : decode y.2.1 pc = .ok (.baload, 1)) (hk : cw_k f % 200 = 100 + 1) (hx : x = nI j) (hj : j < cw_n f) (hb : j < 2 ^ 31) (hy : cw_y f j = 0)
    (k : mm_Run G y A L d (pc + 1) lv (.int (cI C f i j) :: st) h Q) : mm_Run G y A L d pc lv (.int x :: .ref a :: st) h Q := by
  subst hx
  exact mm_bald hd (cw_cell hC ha hf hi) hk (nI_pos hb) (by rw [nI_clamp hb, mw_rangeG _ hj]; exact congrArg some (cw_xI hy)) k
theorem cw_aald {a : Nat} {v : Value} {ty : FieldType} (f i j : Nat) {x : Int32} (hC : cw ad h0 C h) (ha : ad f i = a) (hf : Nat.blt f 22 = true) (hi : i < cN C f) (hd : decode y.2.1 pc = .ok (.aaload, 1)) (hk : Nat.ble 100 (cw_k f % 200) = true) (ht : mm_arr[cw_k f % 200 - 100]? = some ty) (hty : ty.isReference = true) (hx : x = nI j) (hj : j < cw_n f) (hb : j < 2 ^ 31) (hy : cw_y f j = 2) (hv : va_rf (cR C f i j) = v)
    (k : mm_Run G y A L d (pc + 1) lv (v :: st) h Q) : mm_Run G y A L d pc lv (.int x :: .ref a :: st) h Q := by
  subst hx hv
  exact mm_aald2 hd (cw_cell hC ha hf hi) hk ht hty (nI_pos hb) (by rw [nI_clamp hb, mw_rangeG _ hj]; exact congrArg some (cw_xR hy)) k
theorem cw_iast {a : Nat} (f i j : Nat) {x z : Int32} (hC : cw ad h0 C h) (ha : ad f i = a) (hf : Nat.blt f 22 = true) (hi : i < cN C f) (hd : decode y.2.1 pc = .ok (.iastore, 1)) (hk : cw_k f = 100 + 0) (hx : x = nI j) (hj : j < cw_n f) (hb : j < 2 ^ 31) (hy : cw_y f j = 0)
    (k : ∀ h', cw ad h0 (cw_sI C f i j z) h' → h'.2 = h.2 → mm_Run G y A L d (pc + 1) lv st h' Q) : mm_Run G y A L d pc lv (.int z :: .int x :: .ref a :: st) h Q := by
  subst hx ha
  refine mm_iast hd (cw_cell hC rfl hf hi) hk (nI_pos hb) (by rw [nI_clamp hb, List.length_map, List.length_range]; exact hj) (k _ ?_ rfl)
  rw [nI_clamp hb]
  exact cw_upd hC (Nat.le_of_ble_eq_true hf) hi (fun g => cw_sI_N) (fun g k e => cw_sI_v e) (by rw [mw_rangeS, cw_sI_w hy])
theorem cw_bast {a : Nat} (f i j : Nat) {x z z' : Int32} (hC : cw ad h0 C h) (ha : ad f i = a) (hf : Nat.blt f 22 = true) (hi : i < cN C f) (hd : decode y.2.1 pc = .ok (.bastore, 1)) (hk : cw_k f = 100 + 1) (hx : x = nI j) (hj : j < cw_n f) (hb : j < 2 ^ 31) (hy : cw_y f j = 0) (hz : narrow .byte (.int z) = .int z')
    (k : ∀ h', cw ad h0 (cw_sI C f i j z') h' → h'.2 = h.2 → mm_Run G y A L d (pc + 1) lv st h' Q) : mm_Run G y A L d pc lv (.int z :: .int x :: .ref a :: st) h Q := by
  subst hx ha
  refine mm_bast hd (cw_cell hC rfl hf hi) hk (nI_pos hb) (by rw [nI_clamp hb, List.length_map, List.length_range]; exact hj) (k _ ?_ rfl)
  rw [nI_clamp hb, hz]
  exact cw_upd hC (Nat.le_of_ble_eq_true hf) hi (fun g => cw_sI_N) (fun g k e => cw_sI_v e) (by rw [mw_rangeS, cw_sI_w hy])
theorem cw_aast {a b kb : Nat} {fs : List Value} {Cn : String} {T : u_T} {N : Nat} (f i j : Nat) {x : Int32} (hC : cw ad h0 C h) (ha : ad f i = a) (hf : Nat.blt f 22 = true) (hi : i < cN C f) (hd : decode y.2.1 pc = .ok (.aastore, 1)) (hk : Nat.ble 100 (cw_k f) = true) (ht : mm_arr[cw_k f - 100]? = some (.object Cn)) (hbb : h.1 b = some (kb, fs)) (hcb : Nat.blt (kb % 200) 100 = true) (hcl : mm_cls[kb % 200]? = some (Cn, T, N)) (hx : x = nI j) (hj : j < cw_n f) (hb : j < 2 ^ 31) (hy : cw_y f j = 2)
    (k : ∀ h', cw ad h0 (cw_sR C f i j (some b)) h' → h'.2 = h.2 → mm_Run G y A L d (pc + 1) lv st h' Q) : mm_Run G y A L d pc lv (.ref b :: .int x :: .ref a :: st) h Q := by
  subst hx ha
  refine mm_aast2 hd (cw_cell hC rfl hf hi) hk ht hbb hcb hcl (nI_pos hb) (by rw [nI_clamp hb, List.length_map, List.length_range]; exact hj) (k _ ?_ rfl)
  rw [nI_clamp hb]
  exact cw_upd hC (Nat.le_of_ble_eq_true hf) hi (fun g => cw_sR_N) (fun g k e => cw_sR_v e) (by rw [mw_rangeS, show (Value.ref b) = va_rf (some b) from rfl, cw_sR_w hy])
theorem cw_aastN {a : Nat} {Cn : String} (f i j : Nat) {x : Int32} (hC : cw ad h0 C h) (ha : ad f i = a) (hf : Nat.blt f 22 = true) (hi : i < cN C f) (hd : decode y.2.1 pc = .ok (.aastore, 1)) (hk : Nat.ble 100 (cw_k f) = true) (ht : mm_arr[cw_k f - 100]? = some (.object Cn)) (hx : x = nI j) (hj : j < cw_n f) (hb : j < 2 ^ 31) (hy : cw_y f j = 2)
    (k : ∀ h', cw ad h0 (cw_sR C f i j none) h' → h'.2 = h.2 → mm_Run G y A L d (pc + 1) lv st h' Q) : mm_Run G y A L d pc lv (.null :: .int x :: .ref a :: st) h Q := by
  subst hx ha
  refine mm_aastN2 hd (cw_cell hC rfl hf hi) hk ht (nI_pos hb) (by rw [nI_clamp hb, List.length_map, List.length_range]; exact hj) (k _ ?_ rfl)
  rw [nI_clamp hb]
  exact cw_upd hC (Nat.le_of_ble_eq_true hf) hi (fun g => cw_sR_N) (fun g k e => cw_sR_v e) (by rw [mw_rangeS, show Value.null = va_rf none from rfl, cw_sR_w hy])
end CWR
/-- the texts that stand in the code -/
def lt_ (G : mm_G) (h : mm_H) : Prop := ∀ (i : Nat) (bs : List Int32), mm_litb[i]? = some bs → ∃ v, h.1 (G.2.2.2.2.1 i) = some (213, [.ref v, .int 0]) ∧ h.1 v = some (301, bv bs) ∧ G.2.2.2.2.1 i < h.2.1 ∧ v < h.2.1
theorem lt_.of {G : mm_G} {ad : Nat → Nat → Nat} {h0 h : mm_H} {C : cw_C} (hl : lt_ G h0) (hC : cw ad h0 C h) : lt_ G h := by
  intro i bs hi
  obtain ⟨v, a, b, c, d⟩ := hl i bs hi
  have := hC.2.2.2.1
  exact ⟨v, hC.2.2.2.2.2.2 _ _ a (Nat.le_of_ble_eq_true rfl) c, hC.2.2.2.2.2.2 _ _ b (Nat.le_of_ble_eq_true rfl) d, Nat.lt_of_lt_of_le c this, Nat.lt_of_lt_of_le d this⟩
theorem lt_.ext {G : mm_G} {h h1 : mm_H} (hl : lt_ G h) (he : ext h h1) : lt_ G h1 := by
  intro i bs hi
  obtain ⟨v, a, b, c, d⟩ := hl i bs hi
  have := he.1
  exact ⟨v, (he.2.2 _ c).trans a, (he.2.2 _ d).trans b, Nat.lt_of_lt_of_le c this, Nat.lt_of_lt_of_le d this⟩
theorem lt_.t {G : mm_G} {h : mm_H} (hl : lt_ G h) {i : Nat} {bs : List Int32} (hi : mm_litb[i]? = some bs) : sT h (G.2.2.2.2.1 i) bs := by
  obtain ⟨v, a, b, c, d⟩ := hl i bs hi
  have := (mm_lit_asc hi).1
  exact ⟨213, 301, v, [], a, rfl, b, rfl, by omega⟩
