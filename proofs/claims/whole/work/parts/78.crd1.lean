/-! reading behind a store -/
section CGS
variable {C : cw_C} {f i j g k l : Nat}
theorem cI_sI_e {x : Int32} : cI (cw_sI C f i j x) f i j = x := by
  unfold cI
  rw [cw_sI_f]
  exact cu2_eq (f := (C f).1)
theorem cI_sI_n {x : Int32} (h : ¬ (g = f ∧ k = i ∧ l = j)) : cI (cw_sI C f i j x) g k l = cI C g k l := by
  unfold cI
  by_cases e : g = f
  · subst e
    rw [cw_sI_f]
    exact cu2_ne (f := (C g).1) (fun z => h ⟨rfl, z⟩)
  · rw [cw_sI_o e]
theorem cI_sL {x : Int64} : cI (cw_sL C f i j x) g k l = cI C g k l := by
  unfold cI
  by_cases e : g = f
  · rw [e, cw_sL_f]
  · rw [cw_sL_o e]
theorem cI_sR {x : Option Nat} : cI (cw_sR C f i j x) g k l = cI C g k l := by
  unfold cI
  by_cases e : g = f
  · rw [e, cw_sR_f]
  · rw [cw_sR_o e]
theorem cL_sI {x : Int32} : cL (cw_sI C f i j x) g k l = cL C g k l := by
  unfold cL
  by_cases e : g = f
  · rw [e, cw_sI_f]
  · rw [cw_sI_o e]
theorem cL_sL_e {x : Int64} : cL (cw_sL C f i j x) f i j = x := by
  unfold cL
  rw [cw_sL_f]
  exact cu2_eq (f := (C f).2.1)
theorem cL_sL_n {x : Int64} (h : ¬ (g = f ∧ k = i ∧ l = j)) : cL (cw_sL C f i j x) g k l = cL C g k l := by
  unfold cL
  by_cases e : g = f
  · subst e
    rw [cw_sL_f]
    exact cu2_ne (f := (C g).2.1) (fun z => h ⟨rfl, z⟩)
  · rw [cw_sL_o e]
theorem cL_sR {x : Option Nat} : cL (cw_sR C f i j x) g k l = cL C g k l := by
  unfold cL
  by_cases e : g = f
  · rw [e, cw_sR_f]
  · rw [cw_sR_o e]
theorem cR_sI {x : Int32} : cR (cw_sI C f i j x) g k l = cR C g k l := by
  unfold cR
  by_cases e : g = f
  · rw [e, cw_sI_f]
  · rw [cw_sI_o e]
theorem cR_sL {x : Int64} : cR (cw_sL C f i j x) g k l = cR C g k l := by
  unfold cR
  by_cases e : g = f
  · rw [e, cw_sL_f]
  · rw [cw_sL_o e]
theorem cR_sR_e {x : Option Nat} : cR (cw_sR C f i j x) f i j = x := by
  unfold cR
  rw [cw_sR_f]
  exact cu2_eq (f := (C f).2.2.1)
theorem cR_sR_n {x : Option Nat} (h : ¬ (g = f ∧ k = i ∧ l = j)) : cR (cw_sR C f i j x) g k l = cR C g k l := by
  unfold cR
  by_cases e : g = f
  · subst e
    rw [cw_sR_f]
    exact cu2_ne (f := (C g).2.2.1) (fun z => h ⟨rfl, z⟩)
  · rw [cw_sR_o e]
theorem cI_ext_n {a : Nat → Int32} {b : Nat → Int64} {c : Nat → Option Nat} : cI (cw_ext C f a b c) f (cN C f) l = a l := by
  unfold cI
  rw [cw_ext_f]
  exact congrFun (cu_eq (f := (C f).1)) l
theorem cI_ext_o {a : Nat → Int32} {b : Nat → Int64} {c : Nat → Option Nat} (h : k < cN C g) : cI (cw_ext C f a b c) g k l = cI C g k l := by
  unfold cI
  by_cases e : g = f
  · subst e
    rw [cw_ext_f]
    exact congrFun (cu_ne (f := (C g).1) (Nat.ne_of_lt h)) l
  · rw [cw_ext_o e]
theorem cL_ext_n {a : Nat → Int32} {b : Nat → Int64} {c : Nat → Option Nat} : cL (cw_ext C f a b c) f (cN C f) l = b l := by
  unfold cL
  rw [cw_ext_f]
  exact congrFun (cu_eq (f := (C f).2.1)) l
theorem cL_ext_o {a : Nat → Int32} {b : Nat → Int64} {c : Nat → Option Nat} (h : k < cN C g) : cL (cw_ext C f a b c) g k l = cL C g k l := by
  unfold cL
  by_cases e : g = f
  · subst e
    rw [cw_ext_f]
    exact congrFun (cu_ne (f := (C g).2.1) (Nat.ne_of_lt h)) l
  · rw [cw_ext_o e]
theorem cR_ext_n {a : Nat → Int32} {b : Nat → Int64} {c : Nat → Option Nat} : cR (cw_ext C f a b c) f (cN C f) l = c l := by
  unfold cR
  rw [cw_ext_f]
  exact congrFun (cu_eq (f := (C f).2.2.1)) l
theorem cR_ext_o {a : Nat → Int32} {b : Nat → Int64} {c : Nat → Option Nat} (h : k < cN C g) : cR (cw_ext C f a b c) g k l = cR C g k l := by
  unfold cR
  by_cases e : g = f
  · subst e
    rw [cw_ext_f]
    exact congrFun (cu_ne (f := (C g).2.2.1) (Nat.ne_of_lt h)) l
  · rw [cw_ext_o e]
theorem cN_ext {a : Nat → Int32} {b : Nat → Int64} {c : Nat → Option Nat} : cN (cw_ext C f a b c) f = cN C f + 1 := by unfold cN; rw [cw_ext_f]
theorem cN_ext_o {a : Nat → Int32} {b : Nat → Int64} {c : Nat → Option Nat} (h : ¬ g = f) : cN (cw_ext C f a b c) g = cN C g := by unfold cN; rw [cw_ext_o h]
end CGS

/-! the class's reader: its state -/
def rc (tb : Nat → Nat) (n t : Nat) : Prop := ∀ s, s < t → 2 ≤ cd tb n s
theorem rc.s {tb : Nat → Nat} {n t : Nat} (h : rc tb n t) (h2 : 2 ≤ cd tb n t) : rc tb n (t + 1) := fun s hs => by
  by_cases e : s = t
  · rw [e]; exact h2
  · exact h s (by omega)
def WD (ad : Nat → Nat → Nat) (C : cw_C) (tb : Nat → Nat) (n : Nat) : Prop := ∃ T, wI ad C tb n T ∧ 0 < T ∧ cd tb n (T - 1) < 2
theorem WD.at {ad : Nat → Nat → Nat} {C : cw_C} {tb : Nat → Nat} {n t : Nat} (h : WD ad C tb n) (ht : rc tb n t) : t < cN C 10 ∧ wR C tb n t ∧ (2 ≤ cd tb n t → cR C 10 t 4 = some (ad 10 (t + 1))) ∧ (cd tb n t < 2 → cR C 10 t 4 = none) := by
  obtain ⟨T, a, b, c⟩ := h
  have q := a.at b c ht
  rw [a.1]
  exact q
theorem WD.same {ad ad' : Nat → Nat → Nat} {C C' : cw_C} {tb : Nat → Nat} {n : Nat} (h : WD ad C tb n) (e : C' 10 = C 10) (ea : ∀ i, i < cN C 10 → ad' 10 i = ad 10 i) : WD ad' C' tb n := by
  obtain ⟨T, ⟨a1, a2, a3, a4⟩, b, c⟩ := h
  refine ⟨T, ⟨?_, ?_, ?_, ?_⟩, b, c⟩
  · unfold cN; rw [e]; exact a1
  · intro s hs; unfold wR cI cL; rw [e]; exact a2 s hs
  · intro s hs; unfold cR; rw [e, ea _ (by rw [a1]; omega)]; exact a3 s hs
  · intro s hs; unfold cR; rw [e]; exact a4 s hs
/-- no fault so far, the t-th word is next -/
def rL (ad : Nat → Nat → Nat) (C : cw_C) (tb : Nat → Nat) (n t : Nat) : Prop := 0 < cN C 6 ∧ cI C 6 0 0 = -1 ∧ cR C 6 0 1 = some (ad 10 t) ∧ rc tb n t ∧ WD ad C tb n
/-- a fault was found at p -/
def rD (ad : Nat → Nat → Nat) (C : cw_C) (p : Nat) : Prop := 0 < cN C 6 ∧ cI C 6 0 0 = nI p ∧ p ≤ 800 ∧ ∃ t, cR C 6 0 1 = some (ad 10 t) ∧ t < cN C 10
theorem rL.next {ad : Nat → Nat → Nat} {C : cw_C} {tb : Nat → Nat} {n t : Nat} (h : rL ad C tb n t) (h2 : 2 ≤ cd tb n t) : rL ad (cw_sR C 6 0 1 (some (ad 10 (t + 1)))) tb n (t + 1) := by
  obtain ⟨a, b, c, e, f⟩ := h
  refine ⟨by rw [cw_sR_N]; exact a, ?_, ?_, e.s h2, f.same (cw_sR_o (by decide)) (fun _ _ => rfl)⟩
  · rw [cI_sR]; exact b
  · exact cR_sR_e
theorem rL.dead {ad : Nat → Nat → Nat} {C : cw_C} {tb : Nat → Nat} {n t : Nat} (h : rL ad C tb n t) (hn : n ≤ 800) : rD ad (cw_sI C 6 0 0 (nI (qs tb n t))) (qs tb n t) := by
  obtain ⟨a, b, c, e, f⟩ := h
  refine ⟨by rw [cw_sI_N]; exact a, ?_, Nat.le_trans (qs_le t) hn, t, ?_, ?_⟩
  · exact cI_sI_e
  · rw [cR_sI]; exact c
  · rw [cw_sI_N]; exact (f.at e).1
theorem rL.same {ad ad' : Nat → Nat → Nat} {C C' : cw_C} {tb : Nat → Nat} {n t : Nat} (h : rL ad C tb n t) (e6 : C' 6 = C 6) (e : C' 10 = C 10) (ea : ∀ i, i < cN C 10 → ad' 10 i = ad 10 i) : rL ad' C' tb n t := by
  obtain ⟨a, b, c, f, g⟩ := h
  refine ⟨?_, ?_, ?_, f, g.same e ea⟩
  · unfold cN; rw [e6]; exact a
  · unfold cI; rw [e6]; exact b
  · unfold cR; rw [e6, ea _ (g.at f).1]; exact c
theorem rD.same {ad ad' : Nat → Nat → Nat} {C C' : cw_C} {p : Nat} (h : rD ad C p) (e6 : C' 6 = C 6) (e : C' 10 = C 10) (ea : ∀ i, i < cN C 10 → ad' 10 i = ad 10 i) : rD ad' C' p := by
  obtain ⟨a, b, c, t, f, g⟩ := h
  refine ⟨?_, ?_, c, t, ?_, ?_⟩
  · unfold cN; rw [e6]; exact a
  · unfold cI; rw [e6]; exact b
  · unfold cR; rw [e6, ea _ g]; exact f
  · unfold cN; rw [e]; exact g
/-- only the reader changes -/
def k6 (C C1 : cw_C) : Prop := ∀ g, (¬ g = 6 → C1 g = C g) ∧ cN C1 g = cN C g
theorem k6.refl (C : cw_C) : k6 C C := fun _ => ⟨fun _ => rfl, rfl⟩
theorem k6.trans {C C1 C2 : cw_C} (a : k6 C C1) (b : k6 C1 C2) : k6 C C2 := fun g => ⟨fun hg => ((b g).1 hg).trans ((a g).1 hg), (b g).2.trans (a g).2⟩

theorem tk_ok {G : mm_G} {L : Nat × Nat} {d : Nat} {h : mm_H} {h0 : mm_H} {ad : Nat → Nat → Nat} {C : cw_C} {tb : Nat → Nat} {n t : Nat} {x : Int32} (hr : rL ad C tb n t) (hn : n ≤ 800) (hC : cw ad h0 C h) (hx : nI (cd tb n t) = x) (h2 : 2 ≤ cd tb n t) : mm_Ok G mX6_take L (d) [.ref (ad 6 0), .int x] h (fun r h1 => ∃ C1, cw ad h0 C1 h1 ∧ k6 C C1 ∧ h1.2 = h.2 ∧ rL ad C1 tb n (t + 1) ∧ r = some (.long (cL C 10 t 3))) := by
  refine mm_Ok.of [(0, .ref (ad 6 0)), (1, .int x)] rfl kX6_take.2.2.2.2.2 rfl (fun A => ?_)
  obtain ⟨n6, hf, hnow, hrc, hwd⟩ := id hr
  obtain ⟨n10, hw, hnx, hnn⟩ := hwd.at hrc
  refine mm_aload_n (pc := 0) dX6_take_0 rfl (by first | trivial | assumption | exact mm_isr_rf _) ?_
  refine cw_grS (pc := 1) 6 _ 1 hC (rfl) rfl (n6) dX6_take_1 fl_X6_20 rfl rfl rfl (hnow) ?_
  refine cw_gl (pc := 4) 10 _ 3 hC (rfl) rfl (n10) dX6_take_4 fl_X6_144 rfl rfl rfl ?_
  refine mm_lstore_n (pc := 7) dX6_take_7 rfl rfl (Nat.le_of_ble_eq_true rfl) ?_
  refine mm_aload_n (pc := 8) dX6_take_8 rfl (by first | trivial | assumption | exact mm_isr_rf _) ?_
  refine cw_gi (pc := 9) 6 _ 0 hC (rfl) rfl (n6) dX6_take_9 fl_X6_9 rfl rfl rfl ?_
  refine mm_if_ge (pc := 12) (tgt := 37) dX6_take_12 (by decide) (fun c12 => absurd c12 (by rw [hf]; decide)) (fun c12 => ?_)
  refine mm_aload_n (pc := 15) dX6_take_15 rfl (by first | trivial | assumption | exact mm_isr_rf _) ?_
  refine cw_grS (pc := 16) 6 _ 1 hC (rfl) rfl (n6) dX6_take_16 fl_X6_20 rfl rfl rfl (hnow) ?_
  refine cw_gi (pc := 19) 10 _ 0 hC (rfl) rfl (n10) dX6_take_19 fl_X6_120 rfl rfl rfl ?_
  refine mm_iload_n (pc := 22) dX6_take_22 rfl ?_
  refine mm_icmp_eq (pc := 23) (tgt := 37) dX6_take_23 (by decide) (fun c23 => ?_) (fun c23 => absurd (hw.1.trans hx) c23)
  refine mm_aload_n (pc := 37) dX6_take_37 rfl (by first | trivial | assumption | exact mm_isr_rf _) ?_
  refine cw_gi (pc := 38) 6 _ 0 hC (rfl) rfl (n6) dX6_take_38 fl_X6_9 rfl rfl rfl ?_
  refine mm_if_ge (pc := 41) (tgt := 65) dX6_take_41 (by decide) (fun c41 => absurd c41 (by rw [hf]; decide)) (fun c41 => ?_)
  refine mm_aload_n (pc := 44) dX6_take_44 rfl (by first | trivial | assumption | exact mm_isr_rf _) ?_
  refine cw_grS (pc := 45) 6 _ 1 hC (rfl) rfl (n6) dX6_take_45 fl_X6_20 rfl rfl rfl (hnow) ?_
  refine cw_grS (pc := 48) 10 _ 4 hC (rfl) rfl (n10) dX6_take_48 fl_X6_147 rfl rfl rfl (hnx (by omega)) ?_
  refine mm_ifnull (pc := 51) (tgt := 65) dX6_take_51 (by decide) (by first | trivial | assumption | exact mm_isr_rf _) (fun c51 => by cases c51) (fun a51 c51 => ?_)
  refine mm_aload_n (pc := 54) dX6_take_54 rfl (by first | trivial | assumption | exact mm_isr_rf _) ?_
  refine mm_aload_n (pc := 55) dX6_take_55 rfl (by first | trivial | assumption | exact mm_isr_rf _) ?_
  refine cw_grS (pc := 56) 6 _ 1 hC (rfl) rfl (n6) dX6_take_56 fl_X6_20 rfl rfl rfl (hnow) ?_
  refine cw_grS (pc := 59) 10 _ 4 hC (rfl) rfl (n10) dX6_take_59 fl_X6_147 rfl rfl rfl (hnx (by omega)) ?_
  refine cw_prS (pc := 62) 6 _ 1 hC (rfl) rfl (n6) dX6_take_62 (pl_X6_20 _) rfl rfl (fun h62 hC e62 => ?_)
  refine mm_lload_n (pc := 65) dX6_take_65 rfl ?_
  refine mm_lret (pc := 66) dX6_take_66 rfl ?_
  exact ⟨_, hC, fun g => ⟨cw_sR_o, cw_sR_N⟩, e62, hr.next (by omega), rfl⟩

theorem tk_end {G : mm_G} {L : Nat × Nat} {d : Nat} {h : mm_H} {h0 : mm_H} {ad : Nat → Nat → Nat} {C : cw_C} {tb : Nat → Nat} {n t : Nat} {x : Int32} (hr : rL ad C tb n t) (hn : n ≤ 800) (hC : cw ad h0 C h) (hx : nI (cd tb n t) = x) (h2 : cd tb n t < 2) : mm_Ok G mX6_take L (d) [.ref (ad 6 0), .int x] h (fun r h1 => h1 = h ∧ ∃ v : Int64, r = some (.long v)) := by
  refine mm_Ok.of [(0, .ref (ad 6 0)), (1, .int x)] rfl kX6_take.2.2.2.2.2 rfl (fun A => ?_)
  obtain ⟨n6, hf, hnow, hrc, hwd⟩ := id hr
  obtain ⟨n10, hw, hnx, hnn⟩ := hwd.at hrc
  refine mm_aload_n (pc := 0) dX6_take_0 rfl (by first | trivial | assumption | exact mm_isr_rf _) ?_
  refine cw_grS (pc := 1) 6 _ 1 hC (rfl) rfl (n6) dX6_take_1 fl_X6_20 rfl rfl rfl (hnow) ?_
  refine cw_gl (pc := 4) 10 _ 3 hC (rfl) rfl (n10) dX6_take_4 fl_X6_144 rfl rfl rfl ?_
  refine mm_lstore_n (pc := 7) dX6_take_7 rfl rfl (Nat.le_of_ble_eq_true rfl) ?_
  refine mm_aload_n (pc := 8) dX6_take_8 rfl (by first | trivial | assumption | exact mm_isr_rf _) ?_
  refine cw_gi (pc := 9) 6 _ 0 hC (rfl) rfl (n6) dX6_take_9 fl_X6_9 rfl rfl rfl ?_
  refine mm_if_ge (pc := 12) (tgt := 37) dX6_take_12 (by decide) (fun c12 => absurd c12 (by rw [hf]; decide)) (fun c12 => ?_)
  refine mm_aload_n (pc := 15) dX6_take_15 rfl (by first | trivial | assumption | exact mm_isr_rf _) ?_
  refine cw_grS (pc := 16) 6 _ 1 hC (rfl) rfl (n6) dX6_take_16 fl_X6_20 rfl rfl rfl (hnow) ?_
  refine cw_gi (pc := 19) 10 _ 0 hC (rfl) rfl (n10) dX6_take_19 fl_X6_120 rfl rfl rfl ?_
  refine mm_iload_n (pc := 22) dX6_take_22 rfl ?_
  refine mm_icmp_eq (pc := 23) (tgt := 37) dX6_take_23 (by decide) (fun c23 => ?_) (fun c23 => absurd (hw.1.trans hx) c23)
  refine mm_aload_n (pc := 37) dX6_take_37 rfl (by first | trivial | assumption | exact mm_isr_rf _) ?_
  refine cw_gi (pc := 38) 6 _ 0 hC (rfl) rfl (n6) dX6_take_38 fl_X6_9 rfl rfl rfl ?_
  refine mm_if_ge (pc := 41) (tgt := 65) dX6_take_41 (by decide) (fun c41 => absurd c41 (by rw [hf]; decide)) (fun c41 => ?_)
  refine mm_aload_n (pc := 44) dX6_take_44 rfl (by first | trivial | assumption | exact mm_isr_rf _) ?_
  refine cw_grS (pc := 45) 6 _ 1 hC (rfl) rfl (n6) dX6_take_45 fl_X6_20 rfl rfl rfl (hnow) ?_
  refine cw_grN (pc := 48) 10 _ 4 hC (rfl) rfl (n10) dX6_take_48 fl_X6_147 rfl rfl rfl (hnn h2) ?_
  refine mm_ifnull (pc := 51) (tgt := 65) dX6_take_51 (by decide) (by first | trivial | assumption | exact mm_isr_rf _) (fun c51 => ?_) (fun a51 c51 => by cases c51)
  refine mm_lload_n (pc := 65) dX6_take_65 rfl ?_
  refine mm_lret (pc := 66) dX6_take_66 rfl ?_
  exact ⟨rfl, _, rfl⟩

theorem tk_bad {G : mm_G} {L : Nat × Nat} {d : Nat} {h : mm_H} {h0 : mm_H} {ad : Nat → Nat → Nat} {C : cw_C} {tb : Nat → Nat} {n t : Nat} {x : Int32} (hr : rL ad C tb n t) (hn : n ≤ 800) (hC : cw ad h0 C h) (hx : ¬ nI (cd tb n t) = x) : mm_Ok G mX6_take L (d) [.ref (ad 6 0), .int x] h (fun r h1 => ∃ C1, cw ad h0 C1 h1 ∧ k6 C C1 ∧ h1.2 = h.2 ∧ rD ad C1 (qs tb n t) ∧ ∃ v : Int64, r = some (.long v)) := by
  refine mm_Ok.of [(0, .ref (ad 6 0)), (1, .int x)] rfl kX6_take.2.2.2.2.2 rfl (fun A => ?_)
  obtain ⟨n6, hf, hnow, hrc, hwd⟩ := id hr
  obtain ⟨n10, hw, hnx, hnn⟩ := hwd.at hrc
  refine mm_aload_n (pc := 0) dX6_take_0 rfl (by first | trivial | assumption | exact mm_isr_rf _) ?_
  refine cw_grS (pc := 1) 6 _ 1 hC (rfl) rfl (n6) dX6_take_1 fl_X6_20 rfl rfl rfl (hnow) ?_
  refine cw_gl (pc := 4) 10 _ 3 hC (rfl) rfl (n10) dX6_take_4 fl_X6_144 rfl rfl rfl ?_
  refine mm_lstore_n (pc := 7) dX6_take_7 rfl rfl (Nat.le_of_ble_eq_true rfl) ?_
  refine mm_aload_n (pc := 8) dX6_take_8 rfl (by first | trivial | assumption | exact mm_isr_rf _) ?_
  refine cw_gi (pc := 9) 6 _ 0 hC (rfl) rfl (n6) dX6_take_9 fl_X6_9 rfl rfl rfl ?_
  refine mm_if_ge (pc := 12) (tgt := 37) dX6_take_12 (by decide) (fun c12 => absurd c12 (by rw [hf]; decide)) (fun c12 => ?_)
  refine mm_aload_n (pc := 15) dX6_take_15 rfl (by first | trivial | assumption | exact mm_isr_rf _) ?_
  refine cw_grS (pc := 16) 6 _ 1 hC (rfl) rfl (n6) dX6_take_16 fl_X6_20 rfl rfl rfl (hnow) ?_
  refine cw_gi (pc := 19) 10 _ 0 hC (rfl) rfl (n10) dX6_take_19 fl_X6_120 rfl rfl rfl ?_
  refine mm_iload_n (pc := 22) dX6_take_22 rfl ?_
  refine mm_icmp_eq (pc := 23) (tgt := 37) dX6_take_23 (by decide) (fun c23 => absurd c23 (fun z => hx (hw.1.symm.trans z))) (fun c23 => ?_)
  refine mm_aload_n (pc := 26) dX6_take_26 rfl (by first | trivial | assumption | exact mm_isr_rf _) ?_
  refine mm_aload_n (pc := 27) dX6_take_27 rfl (by first | trivial | assumption | exact mm_isr_rf _) ?_
  refine cw_grS (pc := 28) 6 _ 1 hC (rfl) rfl (n6) dX6_take_28 fl_X6_20 rfl rfl rfl (hnow) ?_
  refine cw_gi (pc := 31) 10 _ 1 hC (rfl) rfl (n10) dX6_take_31 fl_X6_47 rfl rfl rfl ?_
  refine mm_topi _ hw.2.1 ?_
  refine cw_pi (pc := 34) 6 _ 0 hC (rfl) rfl (n6) dX6_take_34 (pl_X6_9 _) rfl rfl (rfl) (rfl) (fun h34 hC e34 => ?_)
  have hf41 : cI (cw_sI C 6 0 0 (nI (qs tb n t))) 6 0 0 = nI (qs tb n t) := cI_sI_e
  refine mm_aload_n (pc := 37) dX6_take_37 rfl (by first | trivial | assumption | exact mm_isr_rf _) ?_
  refine cw_gi (pc := 38) 6 _ 0 hC (rfl) rfl (n6) dX6_take_38 fl_X6_9 rfl rfl rfl ?_
  refine mm_if_ge (pc := 41) (tgt := 65) dX6_take_41 (by decide) (fun c41 => ?_) (fun c41 => absurd (by rw [hf41]; exact nI_pos' (by have := qs_le (tb := tb) (n := n) t; omega)) c41)
  refine mm_lload_n (pc := 65) dX6_take_65 rfl ?_
  refine mm_lret (pc := 66) dX6_take_66 rfl ?_
  exact ⟨_, hC, fun g => ⟨cw_sI_o, cw_sI_N⟩, e34, hr.dead hn, _, rfl⟩

theorem tk_dead {G : mm_G} {L : Nat × Nat} {d : Nat} {h : mm_H} {h0 : mm_H} {ad : Nat → Nat → Nat} {C : cw_C} {x : Int32} {p : Nat} (hr : rD ad C p) (hC : cw ad h0 C h) : mm_Ok G mX6_take L (d) [.ref (ad 6 0), .int x] h (fun r h1 => h1 = h ∧ ∃ v : Int64, r = some (.long v)) := by
  refine mm_Ok.of [(0, .ref (ad 6 0)), (1, .int x)] rfl kX6_take.2.2.2.2.2 rfl (fun A => ?_)
  obtain ⟨n6, hf, hp8, t, hnow, n10⟩ := id hr
  have hfp : (0 : Int32) ≤ cI C 6 0 0 := by rw [hf]; exact nI_pos' (by omega)
  refine mm_aload_n (pc := 0) dX6_take_0 rfl (by first | trivial | assumption | exact mm_isr_rf _) ?_
  refine cw_grS (pc := 1) 6 _ 1 hC (rfl) rfl (n6) dX6_take_1 fl_X6_20 rfl rfl rfl (hnow) ?_
  refine cw_gl (pc := 4) 10 _ 3 hC (rfl) rfl (n10) dX6_take_4 fl_X6_144 rfl rfl rfl ?_
  refine mm_lstore_n (pc := 7) dX6_take_7 rfl rfl (Nat.le_of_ble_eq_true rfl) ?_
  refine mm_aload_n (pc := 8) dX6_take_8 rfl (by first | trivial | assumption | exact mm_isr_rf _) ?_
  refine cw_gi (pc := 9) 6 _ 0 hC (rfl) rfl (n6) dX6_take_9 fl_X6_9 rfl rfl rfl ?_
  refine mm_if_ge (pc := 12) (tgt := 37) dX6_take_12 (by decide) (fun c12 => ?_) (fun c12 => absurd hfp c12)
  refine mm_aload_n (pc := 37) dX6_take_37 rfl (by first | trivial | assumption | exact mm_isr_rf _) ?_
  refine cw_gi (pc := 38) 6 _ 0 hC (rfl) rfl (n6) dX6_take_38 fl_X6_9 rfl rfl rfl ?_
  refine mm_if_ge (pc := 41) (tgt := 65) dX6_take_41 (by decide) (fun c41 => ?_) (fun c41 => absurd hfp c41)
  refine mm_lload_n (pc := 65) dX6_take_65 rfl ?_
  refine mm_lret (pc := 66) dX6_take_66 rfl ?_
  exact ⟨rfl, _, rfl⟩

theorem tk_any {G : mm_G} {L : Nat × Nat} {d : Nat} {h : mm_H} {h0 : mm_H} {ad : Nat → Nat → Nat} {C : cw_C} {tb : Nat → Nat} {n t c : Nat} (hr : rL ad C tb n t) (hn : n ≤ 800) (hC : cw ad h0 C h) (hc : 2 ≤ c) (hc3 : c < 100) : mm_Ok G mX6_take L d [.ref (ad 6 0), .int (nI c)] h (fun r h1 => ∃ C1, cw ad h0 C1 h1 ∧ k6 C C1 ∧ h1.2 = h.2 ∧ (∃ v : Int64, r = some (.long v) ∧ (cd tb n t = c → v = cL C 10 t 3)) ∧ ((cd tb n t = c ∧ rL ad C1 tb n (t + 1)) ∨ (¬ cd tb n t = c ∧ rD ad C1 (qs tb n t)))) := by
  by_cases e : cd tb n t = c
  · refine mm_Ok.post (tk_ok hr hn hC (by rw [e]) (by omega)) ?_
    rintro r h1 ⟨C1, a, b, c_, f, g⟩
    exact ⟨C1, a, b, c_, ⟨_, g, fun _ => rfl⟩, Or.inl ⟨e, f⟩⟩
  · refine mm_Ok.post (tk_bad hr hn hC (fun z => e ((nI_eq (by have := cd_lt tb n t; omega) (by omega)).mp z))) ?_
    rintro r h1 ⟨C1, a, b, c_, f, v, g⟩
    exact ⟨C1, a, b, c_, ⟨v, g, fun z => absurd z e⟩, Or.inr ⟨e, f⟩⟩

theorem sp_live {G : mm_G} {L : Nat × Nat} {d : Nat} {h : mm_H} {h0 : mm_H} {ad : Nat → Nat → Nat} {C : cw_C} {tb : Nat → Nat} {n t : Nat} (hr : rL ad C tb n t) (hn : n ≤ 800) (hC : cw ad h0 C h) : mm_Ok G mX6_spoil L (d) [.ref (ad 6 0)] h (fun r h1 => ∃ C1, cw ad h0 C1 h1 ∧ k6 C C1 ∧ h1.2 = h.2 ∧ rD ad C1 (qs tb n t) ∧ r = none) := by
  refine mm_Ok.of [(0, .ref (ad 6 0))] rfl kX6_spoil.2.2.2.2.2 rfl (fun A => ?_)
  obtain ⟨n6, hf, hnow, hrc, hwd⟩ := id hr
  obtain ⟨n10, hw, hnx, hnn⟩ := hwd.at hrc
  refine mm_aload_n (pc := 0) dX6_spoil_0 rfl (by first | trivial | assumption | exact mm_isr_rf _) ?_
  refine cw_gi (pc := 1) 6 _ 0 hC (rfl) rfl (n6) dX6_spoil_1 fl_X6_9 rfl rfl rfl ?_
  refine mm_if_ge (pc := 4) (tgt := 18) dX6_spoil_4 (by decide) (fun c4 => absurd c4 (by rw [hf]; decide)) (fun c4 => ?_)
  refine mm_aload_n (pc := 7) dX6_spoil_7 rfl (by first | trivial | assumption | exact mm_isr_rf _) ?_
  refine mm_aload_n (pc := 8) dX6_spoil_8 rfl (by first | trivial | assumption | exact mm_isr_rf _) ?_
  refine cw_grS (pc := 9) 6 _ 1 hC (rfl) rfl (n6) dX6_spoil_9 fl_X6_20 rfl rfl rfl (hnow) ?_
  refine cw_gi (pc := 12) 10 _ 1 hC (rfl) rfl (n10) dX6_spoil_12 fl_X6_47 rfl rfl rfl ?_
  refine mm_topi _ hw.2.1 ?_
  refine cw_pi (pc := 15) 6 _ 0 hC (rfl) rfl (n6) dX6_spoil_15 (pl_X6_9 _) rfl rfl (rfl) (rfl) (fun h15 hC e15 => ?_)
  refine mm_vret (pc := 18) dX6_spoil_18 rfl ?_
  exact ⟨_, hC, fun g => ⟨cw_sI_o, cw_sI_N⟩, e15, hr.dead hn, rfl⟩

theorem sp_dead {G : mm_G} {L : Nat × Nat} {d : Nat} {h : mm_H} {h0 : mm_H} {ad : Nat → Nat → Nat} {C : cw_C} {p : Nat} (hr : rD ad C p) (hC : cw ad h0 C h) : mm_Ok G mX6_spoil L (d) [.ref (ad 6 0)] h (fun r h1 => h1 = h ∧ r = none) := by
  refine mm_Ok.of [(0, .ref (ad 6 0))] rfl kX6_spoil.2.2.2.2.2 rfl (fun A => ?_)
  obtain ⟨n6, hf, hp8, t, hnow, n10⟩ := id hr
  have hfp : (0 : Int32) ≤ cI C 6 0 0 := by rw [hf]; exact nI_pos' (by omega)
  refine mm_aload_n (pc := 0) dX6_spoil_0 rfl (by first | trivial | assumption | exact mm_isr_rf _) ?_
  refine cw_gi (pc := 1) 6 _ 0 hC (rfl) rfl (n6) dX6_spoil_1 fl_X6_9 rfl rfl rfl ?_
  refine mm_if_ge (pc := 4) (tgt := 18) dX6_spoil_4 (by decide) (fun c4 => ?_) (fun c4 => absurd hfp c4)
  refine mm_vret (pc := 18) dX6_spoil_18 rfl ?_
  exact ⟨rfl, rfl⟩

theorem se_live {G : mm_G} {L : Nat × Nat} {d : Nat} {h : mm_H} {h0 : mm_H} {ad : Nat → Nat → Nat} {C : cw_C} {tb : Nat → Nat} {n t c : Nat} (hc3 : c < 100) (hr : rL ad C tb n t) (hn : n ≤ 800) (hC : cw ad h0 C h) : mm_Ok G mX6_sees L (d) [.ref (ad 6 0), .int (nI c)] h (fun r h1 => h1 = h ∧ r = some (.int (bI (decide (cd tb n t = c))))) := by
  refine mm_Ok.of [(0, .ref (ad 6 0)), (1, .int (nI c))] rfl kX6_sees.2.2.2.2.2 rfl (fun A => ?_)
  obtain ⟨n6, hf, hnow, hrc, hwd⟩ := id hr
  obtain ⟨n10, hw, hnx, hnn⟩ := hwd.at hrc
  refine mm_aload_n (pc := 0) dX6_sees_0 rfl (by first | trivial | assumption | exact mm_isr_rf _) ?_
  refine cw_gi (pc := 1) 6 _ 0 hC (rfl) rfl (n6) dX6_sees_1 fl_X6_9 rfl rfl rfl ?_
  refine mm_if_ge (pc := 4) (tgt := 22) dX6_sees_4 (by decide) (fun c4 => absurd c4 (by rw [hf]; decide)) (fun c4 => ?_)
  refine mm_aload_n (pc := 7) dX6_sees_7 rfl (by first | trivial | assumption | exact mm_isr_rf _) ?_
  refine cw_grS (pc := 8) 6 _ 1 hC (rfl) rfl (n6) dX6_sees_8 fl_X6_20 rfl rfl rfl (hnow) ?_
  refine cw_gi (pc := 11) 10 _ 0 hC (rfl) rfl (n10) dX6_sees_11 fl_X6_120 rfl rfl rfl ?_
  refine mm_iload_n (pc := 14) dX6_sees_14 rfl ?_
  refine mm_icmp_ne (pc := 15) (tgt := 22) dX6_sees_15 (by decide) (fun c15 => ?_) (fun c15 => ?_)
  · refine mm_iconst (pc := 22) (v := 0) dX6_sees_22 (by decide) ?_
    refine mm_zret (pc := 23) dX6_sees_23 rfl (by first | rfl | decide) ?_
    exact ⟨rfl, by rw [decide_eq_false (fun z => c15 (by rw [hw.1, z]))]; rfl⟩
  · refine mm_iconst (pc := 18) (v := 1) dX6_sees_18 (by decide) ?_
    refine mm_goto (pc := 19) (tgt := 23) dX6_sees_19 (by decide) ?_
    refine mm_zret (pc := 23) dX6_sees_23 rfl (by first | rfl | decide) ?_
    exact ⟨rfl, by rw [decide_eq_true ((nI_eq (by have := cd_lt tb n t; omega) (by omega)).mp (hw.1.symm.trans c15))]; rfl⟩

theorem se_dead {G : mm_G} {L : Nat × Nat} {d : Nat} {h : mm_H} {h0 : mm_H} {ad : Nat → Nat → Nat} {C : cw_C} {x : Int32} {p : Nat} (hr : rD ad C p) (hC : cw ad h0 C h) : mm_Ok G mX6_sees L (d) [.ref (ad 6 0), .int x] h (fun r h1 => h1 = h ∧ r = some (.int 0)) := by
  refine mm_Ok.of [(0, .ref (ad 6 0)), (1, .int x)] rfl kX6_sees.2.2.2.2.2 rfl (fun A => ?_)
  obtain ⟨n6, hf, hp8, t, hnow, n10⟩ := id hr
  have hfp : (0 : Int32) ≤ cI C 6 0 0 := by rw [hf]; exact nI_pos' (by omega)
  refine mm_aload_n (pc := 0) dX6_sees_0 rfl (by first | trivial | assumption | exact mm_isr_rf _) ?_
  refine cw_gi (pc := 1) 6 _ 0 hC (rfl) rfl (n6) dX6_sees_1 fl_X6_9 rfl rfl rfl ?_
  refine mm_if_ge (pc := 4) (tgt := 22) dX6_sees_4 (by decide) (fun c4 => ?_) (fun c4 => absurd hfp c4)
  refine mm_iconst (pc := 22) (v := 0) dX6_sees_22 (by decide) ?_
  refine mm_zret (pc := 23) dX6_sees_23 rfl (by first | rfl | decide) ?_
  exact ⟨rfl, rfl⟩

theorem sf_live {G : mm_G} {L : Nat × Nat} {d : Nat} {h : mm_H} {h0 : mm_H} {ad : Nat → Nat → Nat} {C : cw_C} {tb : Nat → Nat} {n t c k : Nat} (hc3 : c + k < 100) (hr : rL ad C tb n t) (hn : n ≤ 800) (hC : cw ad h0 C h) : mm_Ok G mX6_seesFrom L (d) [.ref (ad 6 0), .int (nI c), .int (nI k)] h (fun r h1 => h1 = h ∧ r = some (.int (bI (decide (c ≤ cd tb n t ∧ cd tb n t < c + k))))) := by
  refine mm_Ok.of [(0, .ref (ad 6 0)), (1, .int (nI c)), (2, .int (nI k))] rfl kX6_seesFrom.2.2.2.2.2 rfl (fun A => ?_)
  obtain ⟨n6, hf, hnow, hrc, hwd⟩ := id hr
  obtain ⟨n10, hw, hnx, hnn⟩ := hwd.at hrc
  have hcl := cd_lt tb n t
  refine mm_aload_n (pc := 0) dX6_seesFrom_0 rfl (by first | trivial | assumption | exact mm_isr_rf _) ?_
  refine cw_gi (pc := 1) 6 _ 0 hC (rfl) rfl (n6) dX6_seesFrom_1 fl_X6_9 rfl rfl rfl ?_
  refine mm_if_ge (pc := 4) (tgt := 35) dX6_seesFrom_4 (by decide) (fun c4 => absurd c4 (by rw [hf]; decide)) (fun c4 => ?_)
  refine mm_aload_n (pc := 7) dX6_seesFrom_7 rfl (by first | trivial | assumption | exact mm_isr_rf _) ?_
  refine cw_grS (pc := 8) 6 _ 1 hC (rfl) rfl (n6) dX6_seesFrom_8 fl_X6_20 rfl rfl rfl (hnow) ?_
  refine cw_gi (pc := 11) 10 _ 0 hC (rfl) rfl (n10) dX6_seesFrom_11 fl_X6_120 rfl rfl rfl ?_
  refine mm_topi _ hw.1 ?_
  refine mm_iload_n (pc := 14) dX6_seesFrom_14 rfl ?_
  refine mm_icmp_lt (pc := 15) (tgt := 35) dX6_seesFrom_15 (by decide) (fun c15 => ?_) (fun c15 => ?_)
  · refine mm_iconst (pc := 35) (v := 0) dX6_seesFrom_35 (by decide) ?_
    refine mm_zret (pc := 36) dX6_seesFrom_36 rfl (by first | rfl | decide) ?_
    exact ⟨rfl, by rw [decide_eq_false (fun z => absurd ((nI_ltI (by omega) (by omega)).mp c15) (by omega))]; rfl⟩
  · refine mm_aload_n (pc := 18) dX6_seesFrom_18 rfl (by first | trivial | assumption | exact mm_isr_rf _) ?_
    refine cw_grS (pc := 19) 6 _ 1 hC (rfl) rfl (n6) dX6_seesFrom_19 fl_X6_20 rfl rfl rfl (hnow) ?_
    refine cw_gi (pc := 22) 10 _ 0 hC (rfl) rfl (n10) dX6_seesFrom_22 fl_X6_120 rfl rfl rfl ?_
    refine mm_topi _ hw.1 ?_
    refine mm_iload_n (pc := 25) dX6_seesFrom_25 rfl ?_
    refine mm_iload_n (pc := 26) dX6_seesFrom_26 rfl ?_
    refine mm_iadd (pc := 27) dX6_seesFrom_27 ?_
    refine mm_icmp_ge (pc := 28) (tgt := 35) dX6_seesFrom_28 (by decide) (fun c28 => ?_) (fun c28 => ?_)
    · refine mm_iconst (pc := 35) (v := 0) dX6_seesFrom_35 (by decide) ?_
      refine mm_zret (pc := 36) dX6_seesFrom_36 rfl (by first | rfl | decide) ?_
      exact ⟨rfl, by rw [decide_eq_false (fun z => absurd ((nI_leI (by omega) (by omega)).mp (show nI (c + k) ≤ nI (cd tb n t) by rw [← nI_add]; exact c28)) (by omega))]; rfl⟩
    · refine mm_iconst (pc := 31) (v := 1) dX6_seesFrom_31 (by decide) ?_
      refine mm_goto (pc := 32) (tgt := 36) dX6_seesFrom_32 (by decide) ?_
      refine mm_zret (pc := 36) dX6_seesFrom_36 rfl (by first | rfl | decide) ?_
      exact ⟨rfl, by rw [decide_eq_true ⟨Nat.not_lt.mp (fun z => c15 ((nI_ltI (by omega) (by omega)).mpr z)), Nat.not_le.mp (fun z => c28 (by rw [nI_add]; exact nI_le z (by omega)))⟩]; rfl⟩

theorem sf_dead {G : mm_G} {L : Nat × Nat} {d : Nat} {h : mm_H} {h0 : mm_H} {ad : Nat → Nat → Nat} {C : cw_C} {x y : Int32} {p : Nat} (hr : rD ad C p) (hC : cw ad h0 C h) : mm_Ok G mX6_seesFrom L (d) [.ref (ad 6 0), .int x, .int y] h (fun r h1 => h1 = h ∧ r = some (.int 0)) := by
  refine mm_Ok.of [(0, .ref (ad 6 0)), (1, .int x), (2, .int y)] rfl kX6_seesFrom.2.2.2.2.2 rfl (fun A => ?_)
  obtain ⟨n6, hf, hp8, t, hnow, n10⟩ := id hr
  have hfp : (0 : Int32) ≤ cI C 6 0 0 := by rw [hf]; exact nI_pos' (by omega)
  refine mm_aload_n (pc := 0) dX6_seesFrom_0 rfl (by first | trivial | assumption | exact mm_isr_rf _) ?_
  refine cw_gi (pc := 1) 6 _ 0 hC (rfl) rfl (n6) dX6_seesFrom_1 fl_X6_9 rfl rfl rfl ?_
  refine mm_if_ge (pc := 4) (tgt := 35) dX6_seesFrom_4 (by decide) (fun c4 => ?_) (fun c4 => absurd hfp c4)
  refine mm_iconst (pc := 35) (v := 0) dX6_seesFrom_35 (by decide) ?_
  refine mm_zret (pc := 36) dX6_seesFrom_36 rfl (by first | rfl | decide) ?_
  exact ⟨rfl, rfl⟩

theorem ba_live {G : mm_G} {L : Nat × Nat} {d : Nat} {h : mm_H} {h0 : mm_H} {ad : Nat → Nat → Nat} {C : cw_C} {tb : Nat → Nat} {n t : Nat} (hr : rL ad C tb n t) (hn : n ≤ 800) (hC : cw ad h0 C h) : mm_Ok G mX6_beginsAction L (d + 1) [.ref (ad 6 0)] h (fun r h1 => h1 = h ∧ r = some (.int (bI (decide (13 ≤ cd tb n t ∧ cd tb n t < 23))))) := by
  refine mm_Ok.of [(0, .ref (ad 6 0))] rfl kX6_beginsAction.2.2.2.2.2 rfl (fun A => ?_)
  obtain ⟨n6, hf, hnow, hrc, hwd⟩ := id hr
  obtain ⟨n10, hw, hnx, hnn⟩ := hwd.at hrc
  refine mm_aload_n (pc := 0) dX6_beginsAction_0 rfl (by first | trivial | assumption | exact mm_isr_rf _) ?_
  refine mm_bipush (pc := 1) (v := 13) dX6_beginsAction_1 (by decide) ?_
  refine mm_bipush (pc := 3) (v := 10) dX6_beginsAction_3 (by decide) ?_
  refine mm_callV (pc := 5) (As := [_, _]) (kd := ?kd_5_1) (fs := ?fs_5_1) dX6_beginsAction_5 vl_X6_140 (sf_live (c := 13) (k := 10) (by decide) hr hn hC) ?hc_5_1 ?hk_5_1 rfl rfl (Nat.le_of_ble_eq_true rfl) ?_; (case hc_5_1 => exact cw_cell (f := 6) hC rfl rfl n6); (case hk_5_1 => rfl)
  rintro _ _ ⟨rfl, rfl⟩
  refine mm_zret (pc := 8) dX6_beginsAction_8 rfl (bI_z _) ?_
  exact ⟨rfl, rfl⟩

theorem ba_dead {G : mm_G} {L : Nat × Nat} {d : Nat} {h : mm_H} {h0 : mm_H} {ad : Nat → Nat → Nat} {C : cw_C} {p : Nat} (hr : rD ad C p) (hC : cw ad h0 C h) : mm_Ok G mX6_beginsAction L (d + 1) [.ref (ad 6 0)] h (fun r h1 => h1 = h ∧ r = some (.int 0)) := by
  refine mm_Ok.of [(0, .ref (ad 6 0))] rfl kX6_beginsAction.2.2.2.2.2 rfl (fun A => ?_)
  obtain ⟨n6, hf, hp8, t, hnow, n10⟩ := id hr
  have hfp : (0 : Int32) ≤ cI C 6 0 0 := by rw [hf]; exact nI_pos' (by omega)
  refine mm_aload_n (pc := 0) dX6_beginsAction_0 rfl (by first | trivial | assumption | exact mm_isr_rf _) ?_
  refine mm_bipush (pc := 1) (v := 13) dX6_beginsAction_1 (by decide) ?_
  refine mm_bipush (pc := 3) (v := 10) dX6_beginsAction_3 (by decide) ?_
  refine mm_callV (pc := 5) (As := [_, _]) (kd := ?kd_5_2) (fs := ?fs_5_2) dX6_beginsAction_5 vl_X6_140 (sf_dead hr hC) ?hc_5_2 ?hk_5_2 rfl rfl (Nat.le_of_ble_eq_true rfl) ?_; (case hc_5_2 => exact cw_cell (f := 6) hC rfl rfl n6); (case hk_5_2 => rfl)
  rintro _ _ ⟨rfl, rfl⟩
  refine mm_zret (pc := 8) dX6_beginsAction_8 rfl (by first | rfl | decide) ?_
  exact ⟨rfl, rfl⟩

theorem bb_live {G : mm_G} {L : Nat × Nat} {d : Nat} {h : mm_H} {h0 : mm_H} {ad : Nat → Nat → Nat} {C : cw_C} {tb : Nat → Nat} {n t : Nat} (hr : rL ad C tb n t) (hn : n ≤ 800) (hC : cw ad h0 C h) : mm_Ok G mX6_beginsBody L (d + 1) [.ref (ad 6 0)] h (fun r h1 => h1 = h ∧ r = some (.int (bI (decide ((7 ≤ cd tb n t ∧ cd tb n t < 13) ∨ (27 ≤ cd tb n t ∧ cd tb n t < 30)))))) := by
  refine mm_Ok.of [(0, .ref (ad 6 0))] rfl kX6_beginsBody.2.2.2.2.2 rfl (fun A => ?_)
  obtain ⟨n6, hf, hnow, hrc, hwd⟩ := id hr
  obtain ⟨n10, hw, hnx, hnn⟩ := hwd.at hrc
  refine mm_aload_n (pc := 0) dX6_beginsBody_0 rfl (by first | trivial | assumption | exact mm_isr_rf _) ?_
  refine mm_bipush (pc := 1) (v := 7) dX6_beginsBody_1 (by decide) ?_
  refine mm_bipush (pc := 3) (v := 6) dX6_beginsBody_3 (by decide) ?_
  refine mm_callV (pc := 5) (As := [_, _]) (kd := ?kd_5_3) (fs := ?fs_5_3) dX6_beginsBody_5 vl_X6_140 (sf_live (c := 7) (k := 6) (by decide) hr hn hC) ?hc_5_3 ?hk_5_3 rfl rfl (Nat.le_of_ble_eq_true rfl) ?_; (case hc_5_3 => exact cw_cell (f := 6) hC rfl rfl n6); (case hk_5_3 => rfl)
  rintro _ _ ⟨rfl, rfl⟩
  refine mm_if_ne (pc := 8) (tgt := 21) dX6_beginsBody_8 (by decide) (fun c8 => ?_) (fun c8 => ?_)
  · refine mm_iconst (pc := 21) (v := 1) dX6_beginsBody_21 (by decide) ?_
    refine mm_goto (pc := 22) (tgt := 26) dX6_beginsBody_22 (by decide) ?_
    refine mm_zret (pc := 26) dX6_beginsBody_26 rfl (by first | rfl | decide) ?_
    exact ⟨rfl, by rw [decide_eq_true (Or.inl (bI_n c8))]; rfl⟩
  · refine mm_aload_n (pc := 11) dX6_beginsBody_11 rfl (by first | trivial | assumption | exact mm_isr_rf _) ?_
    refine mm_bipush (pc := 12) (v := 27) dX6_beginsBody_12 (by decide) ?_
    refine mm_iconst (pc := 14) (v := 3) dX6_beginsBody_14 (by decide) ?_
    refine mm_callV (pc := 15) (As := [_, _]) (kd := ?kd_15_4) (fs := ?fs_15_4) dX6_beginsBody_15 vl_X6_140 (sf_live (c := 27) (k := 3) (by decide) hr hn hC) ?hc_15_4 ?hk_15_4 rfl rfl (Nat.le_of_ble_eq_true rfl) ?_; (case hc_15_4 => exact cw_cell (f := 6) hC rfl rfl n6); (case hk_15_4 => rfl)
    rintro _ _ ⟨rfl, rfl⟩
    refine mm_if_eq (pc := 18) (tgt := 25) dX6_beginsBody_18 (by decide) (fun c18 => ?_) (fun c18 => ?_)
    · refine mm_iconst (pc := 25) (v := 0) dX6_beginsBody_25 (by decide) ?_
      refine mm_zret (pc := 26) dX6_beginsBody_26 rfl (by first | rfl | decide) ?_
      exact ⟨rfl, by rw [decide_eq_false (fun z => z.elim (bI_d.mp c8) (bI_d.mp c18))]; rfl⟩
    · refine mm_iconst (pc := 21) (v := 1) dX6_beginsBody_21 (by decide) ?_
      refine mm_goto (pc := 22) (tgt := 26) dX6_beginsBody_22 (by decide) ?_
      refine mm_zret (pc := 26) dX6_beginsBody_26 rfl (by first | rfl | decide) ?_
      exact ⟨rfl, by rw [decide_eq_true (Or.inr (bI_n c18))]; rfl⟩

theorem bb_dead {G : mm_G} {L : Nat × Nat} {d : Nat} {h : mm_H} {h0 : mm_H} {ad : Nat → Nat → Nat} {C : cw_C} {p : Nat} (hr : rD ad C p) (hC : cw ad h0 C h) : mm_Ok G mX6_beginsBody L (d + 1) [.ref (ad 6 0)] h (fun r h1 => h1 = h ∧ r = some (.int 0)) := by
  refine mm_Ok.of [(0, .ref (ad 6 0))] rfl kX6_beginsBody.2.2.2.2.2 rfl (fun A => ?_)
  obtain ⟨n6, hf, hp8, t, hnow, n10⟩ := id hr
  have hfp : (0 : Int32) ≤ cI C 6 0 0 := by rw [hf]; exact nI_pos' (by omega)
  refine mm_aload_n (pc := 0) dX6_beginsBody_0 rfl (by first | trivial | assumption | exact mm_isr_rf _) ?_
  refine mm_bipush (pc := 1) (v := 7) dX6_beginsBody_1 (by decide) ?_
  refine mm_bipush (pc := 3) (v := 6) dX6_beginsBody_3 (by decide) ?_
  refine mm_callV (pc := 5) (As := [_, _]) (kd := ?kd_5_5) (fs := ?fs_5_5) dX6_beginsBody_5 vl_X6_140 (sf_dead hr hC) ?hc_5_5 ?hk_5_5 rfl rfl (Nat.le_of_ble_eq_true rfl) ?_; (case hc_5_5 => exact cw_cell (f := 6) hC rfl rfl n6); (case hk_5_5 => rfl)
  rintro _ _ ⟨rfl, rfl⟩
  refine mm_if_ne (pc := 8) (tgt := 21) dX6_beginsBody_8 (by decide) (fun c8 => absurd rfl c8) (fun c8 => ?_)
  refine mm_aload_n (pc := 11) dX6_beginsBody_11 rfl (by first | trivial | assumption | exact mm_isr_rf _) ?_
  refine mm_bipush (pc := 12) (v := 27) dX6_beginsBody_12 (by decide) ?_
  refine mm_iconst (pc := 14) (v := 3) dX6_beginsBody_14 (by decide) ?_
  refine mm_callV (pc := 15) (As := [_, _]) (kd := ?kd_15_6) (fs := ?fs_15_6) dX6_beginsBody_15 vl_X6_140 (sf_dead hr hC) ?hc_15_6 ?hk_15_6 rfl rfl (Nat.le_of_ble_eq_true rfl) ?_; (case hc_15_6 => exact cw_cell (f := 6) hC rfl rfl n6); (case hk_15_6 => rfl)
  rintro _ _ ⟨rfl, rfl⟩
  refine mm_if_eq (pc := 18) (tgt := 25) dX6_beginsBody_18 (by decide) (fun c18 => ?_) (fun c18 => absurd rfl c18)
  refine mm_iconst (pc := 25) (v := 0) dX6_beginsBody_25 (by decide) ?_
  refine mm_zret (pc := 26) dX6_beginsBody_26 rfl (by first | rfl | decide) ?_
  exact ⟨rfl, rfl⟩

theorem th_ok {G : mm_G} {L : Nat × Nat} {d : Nat} {h : mm_H} {h0 : mm_H} {ad : Nat → Nat → Nat} {C : cw_C} {tb : Nat → Nat} {n t : Nat} (hr : rL ad C tb n t) (hn : n ≤ 800) (hC : cw ad h0 C h) (h7 : 7 ≤ cd tb n t ∧ cd tb n t < 13) : mm_Ok G mX6_takeHook L (d + 1) [.ref (ad 6 0)] h (fun r h1 => ∃ C1, cw ad h0 C1 h1 ∧ k6 C C1 ∧ h1.2 = h.2 ∧ rL ad C1 tb n (t + 1) ∧ r = some (.int (nI (cd tb n t - 7)))) := by
  refine mm_Ok.of [(0, .ref (ad 6 0))] rfl kX6_takeHook.2.2.2.2.2 rfl (fun A => ?_)
  obtain ⟨n6, hf, hnow, hrc, hwd⟩ := id hr
  obtain ⟨n10, hw, hnx, hnn⟩ := hwd.at hrc
  refine mm_aload_n (pc := 0) dX6_takeHook_0 rfl (by first | trivial | assumption | exact mm_isr_rf _) ?_
  refine mm_bipush (pc := 1) (v := 7) dX6_takeHook_1 (by decide) ?_
  refine mm_bipush (pc := 3) (v := 6) dX6_takeHook_3 (by decide) ?_
  refine mm_callV (pc := 5) (As := [_, _]) (kd := ?kd_5_7) (fs := ?fs_5_7) dX6_takeHook_5 vl_X6_140 (sf_live (c := 7) (k := 6) (by decide) hr hn hC) ?hc_5_7 ?hk_5_7 rfl rfl (Nat.le_of_ble_eq_true rfl) ?_; (case hc_5_7 => exact cw_cell (f := 6) hC rfl rfl n6); (case hk_5_7 => rfl)
  rintro _ _ ⟨rfl, rfl⟩
  refine mm_if_ne (pc := 8) (tgt := 17) dX6_takeHook_8 (by decide) (fun c8 => ?_) (fun c8 => absurd c8 (by rw [decide_eq_true h7]; decide))
  refine mm_aload_n (pc := 17) dX6_takeHook_17 rfl (by first | trivial | assumption | exact mm_isr_rf _) ?_
  refine cw_grS (pc := 18) 6 _ 1 hC (rfl) rfl (n6) dX6_takeHook_18 fl_X6_20 rfl rfl rfl (hnow) ?_
  refine cw_gi (pc := 21) 10 _ 0 hC (rfl) rfl (n10) dX6_takeHook_21 fl_X6_120 rfl rfl rfl ?_
  refine mm_topi _ hw.1 ?_
  refine mm_istore_n (pc := 24) dX6_takeHook_24 rfl (Nat.le_of_ble_eq_true rfl) ?_
  refine mm_aload_n (pc := 25) dX6_takeHook_25 rfl (by first | trivial | assumption | exact mm_isr_rf _) ?_
  refine mm_iload_n (pc := 26) dX6_takeHook_26 rfl ?_
  refine mm_callV (pc := 27) (As := [_]) (kd := ?kd_27_8) (fs := ?fs_27_8) dX6_takeHook_27 vl_X6_31 (tk_ok hr hn hC rfl (by omega)) ?hc_27_8 ?hk_27_8 rfl rfl (Nat.le_of_ble_eq_true rfl) ?_; (case hc_27_8 => exact cw_cell (f := 6) hC rfl rfl n6); (case hk_27_8 => rfl)
  rintro _ h27 ⟨C1, hC, q1, q2, q3, rfl⟩
  refine mm_pop2 (pc := 30) dX6_takeHook_30 rfl ?_
  refine mm_iload_n (pc := 31) dX6_takeHook_31 rfl ?_
  refine mm_bipush (pc := 32) (v := 7) dX6_takeHook_32 (by decide) ?_
  refine mm_isub (pc := 34) dX6_takeHook_34 ?_
  refine mm_iret (pc := 35) dX6_takeHook_35 rfl ?_
  refine ⟨C1, hC, q1, q2, q3, ?_⟩
  obtain ⟨u_, hu_⟩ : ∃ u, cd tb n t = 7 + u := ⟨cd tb n t - 7, by omega⟩
  rw [hu_, show 7 + u_ - 7 = u_ by omega, ← nI_add, Int32.add_comm]
  exact congrArg (fun z => some (Value.int z)) (Int32.add_sub_cancel ..)

theorem th_bad {G : mm_G} {L : Nat × Nat} {d : Nat} {h : mm_H} {h0 : mm_H} {ad : Nat → Nat → Nat} {C : cw_C} {tb : Nat → Nat} {n t : Nat} (hr : rL ad C tb n t) (hn : n ≤ 800) (hC : cw ad h0 C h) (h7 : ¬ (7 ≤ cd tb n t ∧ cd tb n t < 13)) : mm_Ok G mX6_takeHook L (d + 1) [.ref (ad 6 0)] h (fun r h1 => ∃ C1, cw ad h0 C1 h1 ∧ k6 C C1 ∧ h1.2 = h.2 ∧ rD ad C1 (qs tb n t) ∧ r = some (.int 0)) := by
  refine mm_Ok.of [(0, .ref (ad 6 0))] rfl kX6_takeHook.2.2.2.2.2 rfl (fun A => ?_)
  obtain ⟨n6, hf, hnow, hrc, hwd⟩ := id hr
  obtain ⟨n10, hw, hnx, hnn⟩ := hwd.at hrc
  refine mm_aload_n (pc := 0) dX6_takeHook_0 rfl (by first | trivial | assumption | exact mm_isr_rf _) ?_
  refine mm_bipush (pc := 1) (v := 7) dX6_takeHook_1 (by decide) ?_
  refine mm_bipush (pc := 3) (v := 6) dX6_takeHook_3 (by decide) ?_
  refine mm_callV (pc := 5) (As := [_, _]) (kd := ?kd_5_9) (fs := ?fs_5_9) dX6_takeHook_5 vl_X6_140 (sf_live (c := 7) (k := 6) (by decide) hr hn hC) ?hc_5_9 ?hk_5_9 rfl rfl (Nat.le_of_ble_eq_true rfl) ?_; (case hc_5_9 => exact cw_cell (f := 6) hC rfl rfl n6); (case hk_5_9 => rfl)
  rintro _ _ ⟨rfl, rfl⟩
  refine mm_if_ne (pc := 8) (tgt := 17) dX6_takeHook_8 (by decide) (fun c8 => absurd (by rw [decide_eq_false h7]; rfl) c8) (fun c8 => ?_)
  refine mm_aload_n (pc := 11) dX6_takeHook_11 rfl (by first | trivial | assumption | exact mm_isr_rf _) ?_
  refine mm_callV (pc := 12) (As := []) (kd := ?kd_12_10) (fs := ?fs_12_10) dX6_takeHook_12 vl_X6_103 (sp_live hr hn hC) ?hc_12_10 ?hk_12_10 rfl rfl (Nat.le_of_ble_eq_true rfl) ?_; (case hc_12_10 => exact cw_cell (f := 6) hC rfl rfl n6); (case hk_12_10 => rfl)
  rintro _ h12 ⟨C1, hC, q1, q2, q3, rfl⟩
  refine mm_iconst (pc := 15) (v := 0) dX6_takeHook_15 (by decide) ?_
  refine mm_iret (pc := 16) dX6_takeHook_16 rfl ?_
  exact ⟨C1, hC, q1, q2, q3, rfl⟩

theorem th_dead {G : mm_G} {L : Nat × Nat} {d : Nat} {h : mm_H} {h0 : mm_H} {ad : Nat → Nat → Nat} {C : cw_C} {p : Nat} (hr : rD ad C p) (hC : cw ad h0 C h) : mm_Ok G mX6_takeHook L (d + 1) [.ref (ad 6 0)] h (fun r h1 => h1 = h ∧ r = some (.int 0)) := by
  refine mm_Ok.of [(0, .ref (ad 6 0))] rfl kX6_takeHook.2.2.2.2.2 rfl (fun A => ?_)
  obtain ⟨n6, hf, hp8, t, hnow, n10⟩ := id hr
  have hfp : (0 : Int32) ≤ cI C 6 0 0 := by rw [hf]; exact nI_pos' (by omega)
  refine mm_aload_n (pc := 0) dX6_takeHook_0 rfl (by first | trivial | assumption | exact mm_isr_rf _) ?_
  refine mm_bipush (pc := 1) (v := 7) dX6_takeHook_1 (by decide) ?_
  refine mm_bipush (pc := 3) (v := 6) dX6_takeHook_3 (by decide) ?_
  refine mm_callV (pc := 5) (As := [_, _]) (kd := ?kd_5_11) (fs := ?fs_5_11) dX6_takeHook_5 vl_X6_140 (sf_dead hr hC) ?hc_5_11 ?hk_5_11 rfl rfl (Nat.le_of_ble_eq_true rfl) ?_; (case hc_5_11 => exact cw_cell (f := 6) hC rfl rfl n6); (case hk_5_11 => rfl)
  rintro _ _ ⟨rfl, rfl⟩
  refine mm_if_ne (pc := 8) (tgt := 17) dX6_takeHook_8 (by decide) (fun c8 => absurd rfl c8) (fun c8 => ?_)
  refine mm_aload_n (pc := 11) dX6_takeHook_11 rfl (by first | trivial | assumption | exact mm_isr_rf _) ?_
  refine mm_callV (pc := 12) (As := []) (kd := ?kd_12_12) (fs := ?fs_12_12) dX6_takeHook_12 vl_X6_103 (sp_dead hr hC) ?hc_12_12 ?hk_12_12 rfl rfl (Nat.le_of_ble_eq_true rfl) ?_; (case hc_12_12 => exact cw_cell (f := 6) hC rfl rfl n6); (case hk_12_12 => rfl)
  rintro _ _ ⟨rfl, rfl⟩
  refine mm_iconst (pc := 15) (v := 0) dX6_takeHook_15 (by decide) ?_
  refine mm_iret (pc := 16) dX6_takeHook_16 rfl ?_
  exact ⟨rfl, rfl⟩

theorem nu_lt {tb : Nat → Nat} {n t : Nat} (hc : ∀ i, tb i < 256) (h : cd tb n t = 3) : nu tb n t < 1000 := by
  have hk := tkK_3 (tkC_3.mp h)
  have hF := lx_spec (P := isF) (tb := tb) (n := n) (n - qs tb n t) (qs tb n t) rfl (qs_le t)
  have hT : qe tb n t = lx isF tb n (qs tb n t) := by unfold qe tkT; rw [if_neg (by have := tkC_3.mp h; omega), if_pos (tkC_3.mp h)]
  have key : ∀ s, s ≤ 3 → (∀ i, i < s → isF (tb (qs tb n t + i)) = true) → numN (wn tb (qs tb n t) (qs tb n t + s)) 0 < 10 ^ s := by
    intro s
    induction s with
    | zero => intro _ _; rw [wn_0]; decide
    | succ s ih =>
      intro h1 h2
      have a := ih (by omega) (fun i hi => h2 i (by omega))
      have b := (bt_fg _ (hc _) (h2 s (by omega))).2
      rw [wn_app, numN_app, Nat.pow_succ]
      omega
  have e : qe tb n t = qs tb n t + (qe tb n t - qs tb n t) := by have := (qe_b (tb := tb) (n := n) t).1; omega
  unfold nu wo
  rw [e]
  have q := key (qe tb n t - qs tb n t) (by rw [hT]; exact hk.2) (fun i hi => hF.2.2.1 _ (by omega) (by rw [← hT]; omega))
  have : 10 ^ (qe tb n t - qs tb n t) ≤ 10 ^ 3 := Nat.pow_le_pow_right (by decide) (by rw [hT]; exact hk.2)
  omega
theorem l2i_nu {k : Nat} (h : k < 1000) : (Int64.ofNat k).toInt32 = nI k := by
  have : ∀ k, k < 1000 → (Int64.ofNat k).toInt32 = nI k := by decide +kernel
  exact this k h

theorem tn_a {G : mm_G} {L : Nat × Nat} {d : Nat} {h : mm_H} {h0 : mm_H} {ad : Nat → Nat → Nat} {C : cw_C} {tb : Nat → Nat} {n t : Nat} (hr : rL ad C tb n t) (hn : n ≤ 800) (hC : cw ad h0 C h) (h3 : cd tb n t = 32) : mm_Ok G mX6_takeNumber L (d + 1) [.ref (ad 6 0)] h (fun r h1 => ∃ C1, cw ad h0 C1 h1 ∧ k6 C C1 ∧ h1.2 = h.2 ∧ rL ad C1 tb n (t + 1) ∧ r = some (.int (-1))) := by
  refine mm_Ok.of [(0, .ref (ad 6 0))] rfl kX6_takeNumber.2.2.2.2.2 rfl (fun A => ?_)
  obtain ⟨n6, hf, hnow, hrc, hwd⟩ := id hr
  obtain ⟨n10, hw, hnx, hnn⟩ := hwd.at hrc
  refine mm_aload_n (pc := 0) dX6_takeNumber_0 rfl (by first | trivial | assumption | exact mm_isr_rf _) ?_
  refine mm_bipush (pc := 1) (v := 32) dX6_takeNumber_1 (by decide) ?_
  refine mm_callV (pc := 3) (As := [_]) (kd := ?kd_3_13) (fs := ?fs_3_13) dX6_takeNumber_3 vl_X6_39 (se_live (c := 32) (by decide) hr hn hC) ?hc_3_13 ?hk_3_13 rfl rfl (Nat.le_of_ble_eq_true rfl) ?_; (case hc_3_13 => exact cw_cell (f := 6) hC rfl rfl n6); (case hk_3_13 => rfl)
  rintro _ _ ⟨rfl, rfl⟩
  refine mm_if_eq (pc := 6) (tgt := 18) dX6_takeNumber_6 (by decide) (fun c6 => absurd c6 (by rw [decide_eq_true h3]; decide)) (fun c6 => ?_)
  refine mm_aload_n (pc := 9) dX6_takeNumber_9 rfl (by first | trivial | assumption | exact mm_isr_rf _) ?_
  refine mm_bipush (pc := 10) (v := 32) dX6_takeNumber_10 (by decide) ?_
  refine mm_callV (pc := 12) (As := [_]) (kd := ?kd_12_14) (fs := ?fs_12_14) dX6_takeNumber_12 vl_X6_31 (tk_ok hr hn hC (by rw [h3]; rfl) (by omega)) ?hc_12_14 ?hk_12_14 rfl rfl (Nat.le_of_ble_eq_true rfl) ?_; (case hc_12_14 => exact cw_cell (f := 6) hC rfl rfl n6); (case hk_12_14 => rfl)
  rintro _ h12 ⟨C1, hC, q1, q2, q3, rfl⟩
  refine mm_pop2 (pc := 15) dX6_takeNumber_15 rfl ?_
  refine mm_iconst (pc := 16) (v := (-1)) dX6_takeNumber_16 (by decide) ?_
  refine mm_iret (pc := 17) dX6_takeNumber_17 rfl ?_
  exact ⟨C1, hC, q1, q2, q3, rfl⟩

theorem tn_n {G : mm_G} {L : Nat × Nat} {d : Nat} {h : mm_H} {h0 : mm_H} {ad : Nat → Nat → Nat} {C : cw_C} {tb : Nat → Nat} {n t : Nat} (htb : ∀ i, tb i < 256) (hr : rL ad C tb n t) (hn : n ≤ 800) (hC : cw ad h0 C h) (h3 : cd tb n t = 3) : mm_Ok G mX6_takeNumber L (d + 1) [.ref (ad 6 0)] h (fun r h1 => ∃ C1, cw ad h0 C1 h1 ∧ k6 C C1 ∧ h1.2 = h.2 ∧ rL ad C1 tb n (t + 1) ∧ r = some (.int (nI (nu tb n t)))) := by
  refine mm_Ok.of [(0, .ref (ad 6 0))] rfl kX6_takeNumber.2.2.2.2.2 rfl (fun A => ?_)
  obtain ⟨n6, hf, hnow, hrc, hwd⟩ := id hr
  obtain ⟨n10, hw, hnx, hnn⟩ := hwd.at hrc
  refine mm_aload_n (pc := 0) dX6_takeNumber_0 rfl (by first | trivial | assumption | exact mm_isr_rf _) ?_
  refine mm_bipush (pc := 1) (v := 32) dX6_takeNumber_1 (by decide) ?_
  refine mm_callV (pc := 3) (As := [_]) (kd := ?kd_3_15) (fs := ?fs_3_15) dX6_takeNumber_3 vl_X6_39 (se_live (c := 32) (by decide) hr hn hC) ?hc_3_15 ?hk_3_15 rfl rfl (Nat.le_of_ble_eq_true rfl) ?_; (case hc_3_15 => exact cw_cell (f := 6) hC rfl rfl n6); (case hk_3_15 => rfl)
  rintro _ _ ⟨rfl, rfl⟩
  refine mm_if_eq (pc := 6) (tgt := 18) dX6_takeNumber_6 (by decide) (fun c6 => ?_) (fun c6 => absurd (by rw [decide_eq_false (by omega)]; rfl) c6)
  refine mm_aload_n (pc := 18) dX6_takeNumber_18 rfl (by first | trivial | assumption | exact mm_isr_rf _) ?_
  refine mm_iconst (pc := 19) (v := 3) dX6_takeNumber_19 (by decide) ?_
  refine mm_callV (pc := 20) (As := [_]) (kd := ?kd_20_16) (fs := ?fs_20_16) dX6_takeNumber_20 vl_X6_31 (tk_ok hr hn hC (by rw [h3]; rfl) (by omega)) ?hc_20_16 ?hk_20_16 rfl rfl (Nat.le_of_ble_eq_true rfl) ?_; (case hc_20_16 => exact cw_cell (f := 6) hC rfl rfl n6); (case hk_20_16 => rfl)
  rintro _ h20 ⟨C1, hC, q1, q2, q3, rfl⟩
  refine mm_l2i (pc := 23) dX6_takeNumber_23 ?_
  refine mm_iret (pc := 24) dX6_takeNumber_24 rfl ?_
  refine ⟨C1, hC, q1, q2, q3, ?_⟩
  rw [hw.2.2.2 h3, l2i_nu (nu_lt htb h3)]

theorem tn_bad {G : mm_G} {L : Nat × Nat} {d : Nat} {h : mm_H} {h0 : mm_H} {ad : Nat → Nat → Nat} {C : cw_C} {tb : Nat → Nat} {n t : Nat} (hr : rL ad C tb n t) (hn : n ≤ 800) (hC : cw ad h0 C h) (h3 : ¬ cd tb n t = 3) (h32 : ¬ cd tb n t = 32) : mm_Ok G mX6_takeNumber L (d + 1) [.ref (ad 6 0)] h (fun r h1 => ∃ C1, cw ad h0 C1 h1 ∧ k6 C C1 ∧ h1.2 = h.2 ∧ rD ad C1 (qs tb n t) ∧ ∃ x : Int32, r = some (.int x)) := by
  refine mm_Ok.of [(0, .ref (ad 6 0))] rfl kX6_takeNumber.2.2.2.2.2 rfl (fun A => ?_)
  obtain ⟨n6, hf, hnow, hrc, hwd⟩ := id hr
  obtain ⟨n10, hw, hnx, hnn⟩ := hwd.at hrc
  refine mm_aload_n (pc := 0) dX6_takeNumber_0 rfl (by first | trivial | assumption | exact mm_isr_rf _) ?_
  refine mm_bipush (pc := 1) (v := 32) dX6_takeNumber_1 (by decide) ?_
  refine mm_callV (pc := 3) (As := [_]) (kd := ?kd_3_17) (fs := ?fs_3_17) dX6_takeNumber_3 vl_X6_39 (se_live (c := 32) (by decide) hr hn hC) ?hc_3_17 ?hk_3_17 rfl rfl (Nat.le_of_ble_eq_true rfl) ?_; (case hc_3_17 => exact cw_cell (f := 6) hC rfl rfl n6); (case hk_3_17 => rfl)
  rintro _ _ ⟨rfl, rfl⟩
  refine mm_if_eq (pc := 6) (tgt := 18) dX6_takeNumber_6 (by decide) (fun c6 => ?_) (fun c6 => absurd (by rw [decide_eq_false h32]; rfl) c6)
  refine mm_aload_n (pc := 18) dX6_takeNumber_18 rfl (by first | trivial | assumption | exact mm_isr_rf _) ?_
  refine mm_iconst (pc := 19) (v := 3) dX6_takeNumber_19 (by decide) ?_
  refine mm_callV (pc := 20) (As := [_]) (kd := ?kd_20_18) (fs := ?fs_20_18) dX6_takeNumber_20 vl_X6_31 (tk_bad hr hn hC (fun z => h3 ((nI_eq (by have := cd_lt tb n t; omega) (by decide)).mp z))) ?hc_20_18 ?hk_20_18 rfl rfl (Nat.le_of_ble_eq_true rfl) ?_; (case hc_20_18 => exact cw_cell (f := 6) hC rfl rfl n6); (case hk_20_18 => rfl)
  rintro _ h20 ⟨C1, hC, q1, q2, q3, v20, rfl⟩
  refine mm_l2i (pc := 23) dX6_takeNumber_23 ?_
  refine mm_iret (pc := 24) dX6_takeNumber_24 rfl ?_
  exact ⟨C1, hC, q1, q2, q3, _, rfl⟩

theorem tn_dead {G : mm_G} {L : Nat × Nat} {d : Nat} {h : mm_H} {h0 : mm_H} {ad : Nat → Nat → Nat} {C : cw_C} {p : Nat} (hr : rD ad C p) (hC : cw ad h0 C h) : mm_Ok G mX6_takeNumber L (d + 1) [.ref (ad 6 0)] h (fun r h1 => h1 = h ∧ ∃ x : Int32, r = some (.int x)) := by
  refine mm_Ok.of [(0, .ref (ad 6 0))] rfl kX6_takeNumber.2.2.2.2.2 rfl (fun A => ?_)
  obtain ⟨n6, hf, hp8, t, hnow, n10⟩ := id hr
  have hfp : (0 : Int32) ≤ cI C 6 0 0 := by rw [hf]; exact nI_pos' (by omega)
  refine mm_aload_n (pc := 0) dX6_takeNumber_0 rfl (by first | trivial | assumption | exact mm_isr_rf _) ?_
  refine mm_bipush (pc := 1) (v := 32) dX6_takeNumber_1 (by decide) ?_
  refine mm_callV (pc := 3) (As := [_]) (kd := ?kd_3_19) (fs := ?fs_3_19) dX6_takeNumber_3 vl_X6_39 (se_dead hr hC) ?hc_3_19 ?hk_3_19 rfl rfl (Nat.le_of_ble_eq_true rfl) ?_; (case hc_3_19 => exact cw_cell (f := 6) hC rfl rfl n6); (case hk_3_19 => rfl)
  rintro _ _ ⟨rfl, rfl⟩
  refine mm_if_eq (pc := 6) (tgt := 18) dX6_takeNumber_6 (by decide) (fun c6 => ?_) (fun c6 => absurd rfl c6)
  refine mm_aload_n (pc := 18) dX6_takeNumber_18 rfl (by first | trivial | assumption | exact mm_isr_rf _) ?_
  refine mm_iconst (pc := 19) (v := 3) dX6_takeNumber_19 (by decide) ?_
  refine mm_callV (pc := 20) (As := [_]) (kd := ?kd_20_20) (fs := ?fs_20_20) dX6_takeNumber_20 vl_X6_31 (tk_dead hr hC) ?hc_20_20 ?hk_20_20 rfl rfl (Nat.le_of_ble_eq_true rfl) ?_; (case hc_20_20 => exact cw_cell (f := 6) hC rfl rfl n6); (case hk_20_20 => rfl)
  rintro _ _ ⟨rfl, v20, rfl⟩
  refine mm_l2i (pc := 23) dX6_takeNumber_23 ?_
  refine mm_iret (pc := 24) dX6_takeNumber_24 rfl ?_
  exact ⟨rfl, _, rfl⟩

