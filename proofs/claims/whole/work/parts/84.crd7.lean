/-! the class's bodies -/
def gvE (C B : cw_C) (k q x : Nat) : cw_C := if cR C 21 k q = none then cw_sR B 21 k q (some x) else B

theorem gv_0 {G : mm_G} {L : Nat × Nat} {d : Nat} {h : mm_H} {h0 : mm_H} {ad : Nat → Nat → Nat} {C : cw_C} {k g q : Nat} (n4 : k < cN C 4) (n1 : g < cN C 1) (n21 : k < cN C 21) (hq : q < 6) (h11 : cR C 4 k 11 = some (ad 21 k)) (hh : cI C 1 g 1 = nI q) (h10 : cR C 4 k 10 = none) (hC : cw ad h0 C h) : mm_Ok G mX4_give L (d + 1) [.ref (ad 4 k), .ref (ad 1 g)] h (fun r h1 => cw ad h0 (gvE C (cw_sR (cw_sR C 4 k 9 (some (ad 1 g))) 4 k 10 (some (ad 1 g))) k q (ad 1 g)) h1 ∧ h1.2 = h.2 ∧ r = none) := by
  refine mm_Ok.of [(0, .ref (ad 4 k)), (1, .ref (ad 1 g))] rfl kX4_give.2.2.2.2.2 rfl (fun A => ?_)
  refine mm_aload_n (pc := 0) dX4_give_0 rfl (by first | trivial | assumption | exact mm_isr_rf _) ?_
  refine cw_grN (pc := 1) 4 _ 10 hC (rfl) rfl (n4) dX4_give_1 fl_X4_39 rfl rfl rfl (h10) ?_
  refine mm_ifnonnull (pc := 4) (tgt := 15) dX4_give_4 (by decide) (by first | trivial | assumption | exact mm_isr_rf _) (fun a4 c4 => by cases c4) (fun c4 => ?_)
  refine mm_aload_n (pc := 7) dX4_give_7 rfl (by first | trivial | assumption | exact mm_isr_rf _) ?_
  refine mm_aload_n (pc := 8) dX4_give_8 rfl (by first | trivial | assumption | exact mm_isr_rf _) ?_
  refine cw_prS (pc := 9) 4 _ 9 hC (rfl) rfl (n4) dX4_give_9 (pl_X4_35 _) rfl rfl (fun h9 hC e9 => ?_)
  refine mm_goto (pc := 12) (tgt := 23) dX4_give_12 (by decide) ?_
  refine mm_aload_n (pc := 23) dX4_give_23 rfl (by first | trivial | assumption | exact mm_isr_rf _) ?_
  refine mm_aload_n (pc := 24) dX4_give_24 rfl (by first | trivial | assumption | exact mm_isr_rf _) ?_
  refine cw_prS (pc := 25) 4 _ 10 hC (rfl) rfl (n4) dX4_give_25 (pl_X4_39 _) rfl rfl (fun h25 hC e25 => ?_)
  refine mm_aload_n (pc := 28) dX4_give_28 rfl (by first | trivial | assumption | exact mm_isr_rf _) ?_
  have h11b : cR (cw_sR (cw_sR C 4 k 9 (some (ad 1 g))) 4 k 10 (some (ad 1 g))) 4 k 11 = some (ad 21 k) := by rw [cR_sR_n (by omega), cR_sR_n (by omega)]; exact h11
  have hhb : cI (cw_sR (cw_sR C 4 k 9 (some (ad 1 g))) 4 k 10 (some (ad 1 g))) 1 g 1 = nI q := by rw [cI_sR, cI_sR]; exact hh
  have h21b : cR (cw_sR (cw_sR C 4 k 9 (some (ad 1 g))) 4 k 10 (some (ad 1 g))) 21 k q = cR C 21 k q := by rw [cR_sR_n (by omega), cR_sR_n (by omega)]
  refine cw_gi (pc := 29) 1 _ 1 hC (rfl) rfl (n1) dX4_give_29 fl_X4_57 rfl rfl rfl ?_
  refine mm_topi _ hhb ?_
  refine mm_callSN (pc := 32) (As := [_]) dX4_give_32 snl_X4_60 (ok_X11_isHook) rfl rfl (Nat.le_of_ble_eq_true rfl) ?_
  rintro _ _ ⟨rfl, rfl⟩
  refine mm_if_eq (pc := 35) (tgt := 60) dX4_give_35 (by decide) (fun c35 => absurd c35 (by rw [if_neg (nI_pos (by omega)), if_neg (show ¬ (6 : Int32) ≤ nI q from nI_ge (b := (6 : Nat)) hq (by decide))]; decide)) (fun c35 => ?_)
  refine mm_aload_n (pc := 38) dX4_give_38 rfl (by first | trivial | assumption | exact mm_isr_rf _) ?_
  refine cw_grS (pc := 39) 4 _ 11 hC (rfl) rfl (n4) dX4_give_39 fl_X4_44 rfl rfl rfl ((by first | exact h11b)) ?_
  refine mm_aload_n (pc := 42) dX4_give_42 rfl (by first | trivial | assumption | exact mm_isr_rf _) ?_
  refine cw_gi (pc := 43) 1 _ 1 hC (rfl) rfl (n1) dX4_give_43 fl_X4_57 rfl rfl rfl ?_
  refine mm_topi _ hhb ?_
  refine cw_aald (pc := 46) (v := (va_rf (cR C 21 k q))) 21 _ q hC (rfl) rfl (n21) dX4_give_46 rfl rfl rfl (by first | with_reducible rfl | assumption | rfl) (hq) (by omega) rfl (by rw [h21b]) ?_
  refine mm_ifnonnull (pc := 47) (tgt := 60) dX4_give_47 (by decide) (by first | trivial | assumption | exact mm_isr_rf _) (fun a47 c47 => ?_) (fun c47 => ?_)
  · refine mm_vret (pc := 60) dX4_give_60 rfl ?_
    have hb_ : ¬ cR C 21 k q = none := fun z => by rw [z] at c47; cases c47
    exact ⟨by unfold gvE; rw [if_neg hb_]; exact hC, by rw [e25, e9], rfl⟩
  · refine mm_aload_n (pc := 50) dX4_give_50 rfl (by first | trivial | assumption | exact mm_isr_rf _) ?_
    refine cw_grS (pc := 51) 4 _ 11 hC (rfl) rfl (n4) dX4_give_51 fl_X4_44 rfl rfl rfl ((by first | exact h11b)) ?_
    refine mm_aload_n (pc := 54) dX4_give_54 rfl (by first | trivial | assumption | exact mm_isr_rf _) ?_
    refine cw_gi (pc := 55) 1 _ 1 hC (rfl) rfl (n1) dX4_give_55 fl_X4_57 rfl rfl rfl ?_
    refine mm_topi _ hhb ?_
    refine mm_aload_n (pc := 58) dX4_give_58 rfl (by first | trivial | assumption | exact mm_isr_rf _) ?_
    refine cw_aast (pc := 59) 21 _ q hC (rfl) rfl (n21) dX4_give_59 rfl rfl (cw_cell (f := 1) hC rfl rfl n1) rfl rfl (by first | with_reducible rfl | assumption | rfl) (hq) (by omega) rfl (fun h59 hC e59 => ?_)
    refine mm_vret (pc := 60) dX4_give_60 rfl ?_
    have hb_ : cR C 21 k q = none := by
      cases z : cR C 21 k q with
      | none => rfl
      | some y => rw [z] at c47; cases c47
    exact ⟨by unfold gvE; rw [if_pos hb_]; exact hC, by rw [e59, e25, e9], rfl⟩

theorem gv_1 {G : mm_G} {L : Nat × Nat} {d : Nat} {h : mm_H} {h0 : mm_H} {ad : Nat → Nat → Nat} {C : cw_C} {k g q : Nat} (n4 : k < cN C 4) (n1 : g < cN C 1) (n21 : k < cN C 21) (hq : q < 6) (h11 : cR C 4 k 11 = some (ad 21 k)) (hh : cI C 1 g 1 = nI q) {x : Nat} (nx : x < cN C 1) (h10 : cR C 4 k 10 = some (ad 1 x)) (hC : cw ad h0 C h) : mm_Ok G mX4_give L (d + 1) [.ref (ad 4 k), .ref (ad 1 g)] h (fun r h1 => cw ad h0 (gvE C (cw_sR (cw_sR C 1 x 8 (some (ad 1 g))) 4 k 10 (some (ad 1 g))) k q (ad 1 g)) h1 ∧ h1.2 = h.2 ∧ r = none) := by
  refine mm_Ok.of [(0, .ref (ad 4 k)), (1, .ref (ad 1 g))] rfl kX4_give.2.2.2.2.2 rfl (fun A => ?_)
  refine mm_aload_n (pc := 0) dX4_give_0 rfl (by first | trivial | assumption | exact mm_isr_rf _) ?_
  refine cw_grS (pc := 1) 4 _ 10 hC (rfl) rfl (n4) dX4_give_1 fl_X4_39 rfl rfl rfl (h10) ?_
  refine mm_ifnonnull (pc := 4) (tgt := 15) dX4_give_4 (by decide) (by first | trivial | assumption | exact mm_isr_rf _) (fun a4 c4 => ?_) (fun c4 => by cases c4)
  refine mm_aload_n (pc := 15) dX4_give_15 rfl (by first | trivial | assumption | exact mm_isr_rf _) ?_
  refine cw_grS (pc := 16) 4 _ 10 hC (rfl) rfl (n4) dX4_give_16 fl_X4_39 rfl rfl rfl (h10) ?_
  refine mm_aload_n (pc := 19) dX4_give_19 rfl (by first | trivial | assumption | exact mm_isr_rf _) ?_
  refine cw_prS (pc := 20) 1 _ 8 hC (rfl) rfl (nx) dX4_give_20 (pl_X4_54 _) rfl rfl (fun h20 hC e20 => ?_)
  refine mm_aload_n (pc := 23) dX4_give_23 rfl (by first | trivial | assumption | exact mm_isr_rf _) ?_
  refine mm_aload_n (pc := 24) dX4_give_24 rfl (by first | trivial | assumption | exact mm_isr_rf _) ?_
  refine cw_prS (pc := 25) 4 _ 10 hC (rfl) rfl (n4) dX4_give_25 (pl_X4_39 _) rfl rfl (fun h25 hC e25 => ?_)
  refine mm_aload_n (pc := 28) dX4_give_28 rfl (by first | trivial | assumption | exact mm_isr_rf _) ?_
  have h11b : cR (cw_sR (cw_sR C 1 x 8 (some (ad 1 g))) 4 k 10 (some (ad 1 g))) 4 k 11 = some (ad 21 k) := by rw [cR_sR_n (by omega), cR_sR_n (by omega)]; exact h11
  have hhb : cI (cw_sR (cw_sR C 1 x 8 (some (ad 1 g))) 4 k 10 (some (ad 1 g))) 1 g 1 = nI q := by rw [cI_sR, cI_sR]; exact hh
  have h21b : cR (cw_sR (cw_sR C 1 x 8 (some (ad 1 g))) 4 k 10 (some (ad 1 g))) 21 k q = cR C 21 k q := by rw [cR_sR_n (by omega), cR_sR_n (by omega)]
  refine cw_gi (pc := 29) 1 _ 1 hC (rfl) rfl (n1) dX4_give_29 fl_X4_57 rfl rfl rfl ?_
  refine mm_topi _ hhb ?_
  refine mm_callSN (pc := 32) (As := [_]) dX4_give_32 snl_X4_60 (ok_X11_isHook) rfl rfl (Nat.le_of_ble_eq_true rfl) ?_
  rintro _ _ ⟨rfl, rfl⟩
  refine mm_if_eq (pc := 35) (tgt := 60) dX4_give_35 (by decide) (fun c35 => absurd c35 (by rw [if_neg (nI_pos (by omega)), if_neg (show ¬ (6 : Int32) ≤ nI q from nI_ge (b := (6 : Nat)) hq (by decide))]; decide)) (fun c35 => ?_)
  refine mm_aload_n (pc := 38) dX4_give_38 rfl (by first | trivial | assumption | exact mm_isr_rf _) ?_
  refine cw_grS (pc := 39) 4 _ 11 hC (rfl) rfl (n4) dX4_give_39 fl_X4_44 rfl rfl rfl ((by first | exact h11b)) ?_
  refine mm_aload_n (pc := 42) dX4_give_42 rfl (by first | trivial | assumption | exact mm_isr_rf _) ?_
  refine cw_gi (pc := 43) 1 _ 1 hC (rfl) rfl (n1) dX4_give_43 fl_X4_57 rfl rfl rfl ?_
  refine mm_topi _ hhb ?_
  refine cw_aald (pc := 46) (v := (va_rf (cR C 21 k q))) 21 _ q hC (rfl) rfl (n21) dX4_give_46 rfl rfl rfl (by first | with_reducible rfl | assumption | rfl) (hq) (by omega) rfl (by rw [h21b]) ?_
  refine mm_ifnonnull (pc := 47) (tgt := 60) dX4_give_47 (by decide) (by first | trivial | assumption | exact mm_isr_rf _) (fun a47 c47 => ?_) (fun c47 => ?_)
  · refine mm_vret (pc := 60) dX4_give_60 rfl ?_
    have hb_ : ¬ cR C 21 k q = none := fun z => by rw [z] at c47; cases c47
    exact ⟨by unfold gvE; rw [if_neg hb_]; exact hC, by rw [e25, e20], rfl⟩
  · refine mm_aload_n (pc := 50) dX4_give_50 rfl (by first | trivial | assumption | exact mm_isr_rf _) ?_
    refine cw_grS (pc := 51) 4 _ 11 hC (rfl) rfl (n4) dX4_give_51 fl_X4_44 rfl rfl rfl ((by first | exact h11b)) ?_
    refine mm_aload_n (pc := 54) dX4_give_54 rfl (by first | trivial | assumption | exact mm_isr_rf _) ?_
    refine cw_gi (pc := 55) 1 _ 1 hC (rfl) rfl (n1) dX4_give_55 fl_X4_57 rfl rfl rfl ?_
    refine mm_topi _ hhb ?_
    refine mm_aload_n (pc := 58) dX4_give_58 rfl (by first | trivial | assumption | exact mm_isr_rf _) ?_
    refine cw_aast (pc := 59) 21 _ q hC (rfl) rfl (n21) dX4_give_59 rfl rfl (cw_cell (f := 1) hC rfl rfl n1) rfl rfl (by first | with_reducible rfl | assumption | rfl) (hq) (by omega) rfl (fun h59 hC e59 => ?_)
    refine mm_vret (pc := 60) dX4_give_60 rfl ?_
    have hb_ : cR C 21 k q = none := by
      cases z : cR C 21 k q with
      | none => rfl
      | some y => rw [z] at c47; cases c47
    exact ⟨by unfold gvE; rw [if_pos hb_]; exact hC, by rw [e59, e25, e20], rfl⟩

def gvP (ad : Nat → Nat → Nat) (C C6 : cw_C) (k g q s : Nat) : Prop := (∀ f, ¬ f = 1 → ¬ f = 4 → ¬ f = 21 → C6 f = C f) ∧ (∀ f, cN C6 f = cN C f) ∧ (∀ f i j, cI C6 f i j = cI C f i j ∧ cL C6 f i j = cL C f i j) ∧ (∀ i j, ¬ (i = k ∧ (j = 9 ∨ j = 10)) → cR C6 4 i j = cR C 4 i j) ∧ (∀ i j, ¬ (s < g ∧ i = g - 1 ∧ j = 8) → cR C6 1 i j = cR C 1 i j) ∧ (∀ i j, ¬ (i = k ∧ j = q) → cR C6 21 i j = cR C 21 i j) ∧ cR C6 4 k 10 = some (ad 1 g) ∧ cR C6 4 k 9 = (if s < g then cR C 4 k 9 else some (ad 1 g)) ∧ (s < g → cR C6 1 (g - 1) 8 = some (ad 1 g)) ∧ cR C6 21 k q = (if cR C 21 k q = none then some (ad 1 g) else cR C 21 k q)
section GVE
variable {C B : cw_C} {k q x f i j : Nat}
theorem gvE_o (h : ¬ f = 21) : gvE C B k q x f = B f := by
  unfold gvE
  split
  · exact cw_sR_o h
  · rfl
theorem gvE_N : cN (gvE C B k q x) f = cN B f := by
  unfold gvE
  split
  · exact cw_sR_N
  · rfl
theorem gvE_I : cI (gvE C B k q x) f i j = cI B f i j := by
  unfold gvE
  split
  · exact cI_sR
  · rfl
theorem gvE_L : cL (gvE C B k q x) f i j = cL B f i j := by
  unfold gvE
  split
  · exact cL_sR
  · rfl
theorem gvE_R (h : ¬ (f = 21 ∧ i = k ∧ j = q)) : cR (gvE C B k q x) f i j = cR B f i j := by
  unfold gvE
  split
  · exact cR_sR_n h
  · rfl
theorem gvE_e (h : cR B 21 k q = cR C 21 k q) : cR (gvE C B k q x) 21 k q = if cR C 21 k q = none then some x else cR C 21 k q := by
  unfold gvE
  split
  · exact cR_sR_e
  · exact h
end GVE
theorem gv_any {G : mm_G} {L : Nat × Nat} {d : Nat} {h : mm_H} {h0 : mm_H} {ad : Nat → Nat → Nat} {C : cw_C} {k g q : Nat} (s : Nat) (n4 : k < cN C 4) (n1 : g < cN C 1) (n21 : k < cN C 21) (hq : q < 6) (h11 : cR C 4 k 11 = some (ad 21 k)) (hh : cI C 1 g 1 = nI q) (h10 : cR C 4 k 10 = if s < g then some (ad 1 (g - 1)) else none) (hC : cw ad h0 C h) : mm_Ok G mX4_give L (d + 1) [.ref (ad 4 k), .ref (ad 1 g)] h (fun r h1 => ∃ C6, cw ad h0 C6 h1 ∧ h1.2 = h.2 ∧ r = none ∧ gvP ad C C6 k g q s) := by
  by_cases e : s < g
  · rw [if_pos e] at h10
    refine mm_Ok.post (gv_1 n4 n1 n21 hq h11 hh (show g - 1 < cN C 1 by omega) h10 hC) ?_
    rintro r h1 ⟨a, b, c⟩
    refine ⟨_, a, b, c, ?_, ?_, ?_, ?_, ?_, ?_, ?_, ?_, ?_, ?_⟩
    · intro f h1 h2 h3; rw [gvE_o h3, cw_sR_o h2, cw_sR_o h1]
    · intro f; rw [gvE_N, cw_sR_N, cw_sR_N]
    · intro f i j; exact ⟨by rw [gvE_I, cI_sR, cI_sR], by rw [gvE_L, cL_sR, cL_sR]⟩
    · intro i j hn; rw [gvE_R (by omega), cR_sR_n (by omega), cR_sR_n (by omega)]
    · intro i j hn; rw [gvE_R (by omega), cR_sR_n (by omega), cR_sR_n (by omega)]
    · intro i j hn; rw [gvE_R (by omega), cR_sR_n (by omega), cR_sR_n (by omega)]
    · rw [gvE_R (by omega), cR_sR_e]
    · rw [if_pos e, gvE_R (by omega), cR_sR_n (by omega), cR_sR_n (by omega)]
    · intro _; rw [gvE_R (by omega), cR_sR_n (by omega), cR_sR_e]
    · exact gvE_e (by rw [cR_sR_n (by omega), cR_sR_n (by omega)])
  · rw [if_neg e] at h10
    refine mm_Ok.post (gv_0 n4 n1 n21 hq h11 hh h10 hC) ?_
    rintro r h1 ⟨a, b, c⟩
    refine ⟨_, a, b, c, ?_, ?_, ?_, ?_, ?_, ?_, ?_, ?_, ?_, ?_⟩
    · intro f h1 h2 h3; rw [gvE_o h3, cw_sR_o h2, cw_sR_o h2]
    · intro f; rw [gvE_N, cw_sR_N, cw_sR_N]
    · intro f i j; exact ⟨by rw [gvE_I, cI_sR, cI_sR], by rw [gvE_L, cL_sR, cL_sR]⟩
    · intro i j hn; rw [gvE_R (by omega), cR_sR_n (by omega), cR_sR_n (by omega)]
    · intro i j hn; rw [gvE_R (by omega), cR_sR_n (by omega), cR_sR_n (by omega)]
    · intro i j hn; rw [gvE_R (by omega), cR_sR_n (by omega), cR_sR_n (by omega)]
    · rw [gvE_R (by omega), cR_sR_e]
    · rw [if_neg e, gvE_R (by omega), cR_sR_n (by omega), cR_sR_e]
    · intro z; exact absurd z e
    · exact gvE_e (by rw [cR_sR_n (by omega), cR_sR_n (by omega)])

