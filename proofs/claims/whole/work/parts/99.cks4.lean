/-- the first fault of the actions from s to e -/
def aF (M : mw_S) (ab : Nat → Option Nat) (k q s e : Nat) (x p : Int32) : Prop := (x = 0 ∧ ∀ y, s ≤ y → y < e → cA M ab k q y = 0) ∨ ∃ y, s ≤ y ∧ y < e ∧ (∀ y', s ≤ y' → y' < y → cA M ab k q y' = 0) ∧ ¬ cA M ab k q y = 0 ∧ x = nI (cA M ab k q y) ∧ p = M.2.2.1 83 y
theorem cA_le {M : mw_S} {ab : Nat → Option Nat} {k q y : Nat} : cA M ab k q y ≤ 7 := by
  unfold cA
  split
  · split <;> omega
  · split
    · split <;> omega
    · split
      · split <;> omega
      · omega
theorem aF.nil {M : mw_S} {ab : Nat → Option Nat} {k q s : Nat} {p : Int32} : aF M ab k q s s 0 p := Or.inl ⟨rfl, fun y a b => by omega⟩
theorem aF.bad {M : mw_S} {ab : Nat → Option Nat} {k q s e e' : Nat} {x p : Int32} (h : aF M ab k q s e x p) (hx : ¬ x = 0) (he : e ≤ e') : aF M ab k q s e' x p := by
  rcases h with ⟨a, -⟩ | ⟨y, a, b, c⟩
  · exact absurd a hx
  · exact Or.inr ⟨y, a, by omega, c⟩
theorem aF.app {M : mw_S} {ab : Nat → Option Nat} {k q s m e : Nat} {x x' p p' : Int32} (h : aF M ab k q s m x p) (hx : x = 0) (hm : s ≤ m) (h2 : aF M ab k q m e x' p') : aF M ab k q s e x' p' := by
  have h1 : ∀ y, s ≤ y → y < m → cA M ab k q y = 0 := by
    rcases h with ⟨-, b⟩ | ⟨y, -, -, -, c, d, -⟩
    · exact b
    · exfalso
      have := cA_le (M := M) (ab := ab) (k := k) (q := q) (y := y)
      rw [hx] at d
      exact c ((nI_eq (a := 0) (by decide) (by omega)).mp d).symm
  rcases h2 with ⟨a, b⟩ | ⟨y, a, b, c, d⟩
  · refine Or.inl ⟨a, fun y y1 y2 => ?_⟩
    by_cases z : y < m
    · exact h1 y y1 z
    · exact b y (by omega) y2
  · refine Or.inr ⟨y, by omega, b, fun y' z1 z2 => ?_, d⟩
    by_cases z : y' < m
    · exact h1 y' z1 z
    · exact c y' (by omega) z2
theorem aF.one {M : mw_S} {ab : Nat → Option Nat} {k q s : Nat} {x p : Int32} (h : (cA M ab k q s = 0 ∧ x = 0) ∨ (¬ cA M ab k q s = 0 ∧ x = nI (cA M ab k q s) ∧ p = M.2.2.1 83 s)) : aF M ab k q s (s + 1) x p := by
  rcases h with ⟨a, b⟩ | ⟨a, b, c⟩
  · exact Or.inl ⟨b, fun y y1 y2 => by rw [show y = s by omega]; exact a⟩
  · exact Or.inr ⟨s, Nat.le_refl _, by omega, fun y y1 y2 => by omega, a, b, c⟩
def aP (ad : Nat → Nat → Nat) (h0 : mm_H) (C : cw_C) (h : mm_H) (M : mw_S) (ab : Nat → Option Nat) (k q s e : Nat) (r : Option Value) (h1 : mm_H) : Prop := r = none ∧ ∃ C1, cw ad h0 C1 h1 ∧ k2 C C1 ∧ h1.2 = h.2 ∧ aF M ab k q s e (cI C1 2 0 0) (cI C1 2 0 1)

theorem cas_deadN {G : mm_G} {L : Nat × Nat} {d : Nat} {h : mm_H} {h0 : mm_H} {ad : Nat → Nat → Nat} {C : cw_C} {v1 : Nat} {x : Int32} (n2 : 0 < cN C 2) (hx : ¬ cI C 2 0 0 = 0) (hC : cw ad h0 C h) : mm_Ok G mX2_checkActions L (d) [.ref (ad 2 0), .ref v1, .null, .int x] h (fun r h1 => r = none ∧ h1 = h) := by
  refine mm_Ok.of [(0, .ref (ad 2 0)), (1, .ref v1), (2, .null), (3, .int x)] rfl kX2_checkActions.2.2.2.2.2 rfl (fun A => ?_)
  refine mm_iload_n (pc := 0) dX2_checkActions_0 rfl ?_
  refine mm_bipush (pc := 1) (v := 6) dX2_checkActions_1 (by decide) ?_
  refine mm_icmp_le (pc := 3) (tgt := 7) dX2_checkActions_3 (by decide) (fun c3 => ?_) (fun c3 => ?_)
  · refine mm_aload_n (pc := 7) dX2_checkActions_7 rfl (by first | trivial | assumption | exact mm_isr_rf _) ?_
    refine mm_astore (pc := 8) dX2_checkActions_8 (by first | trivial | assumption | exact mm_isr_rf _) rfl (Nat.le_of_ble_eq_true rfl) ?_
    refine mm_aload (pc := 10) dX2_checkActions_10 rfl (by first | trivial | assumption | exact mm_isr_rf _) ?_
    refine mm_ifnull (pc := 12) (tgt := 65) dX2_checkActions_12 (by decide) (by first | trivial | assumption | exact mm_isr_rf _) (fun c12 => ?_) (fun a12 c12 => by cases c12)
    refine mm_vret (pc := 65) dX2_checkActions_65 rfl ?_
    exact ⟨rfl, rfl⟩
  · refine mm_vret (pc := 6) dX2_checkActions_6 rfl ?_
    exact ⟨rfl, rfl⟩

theorem cas_d10N {G : mm_G} {L : Nat × Nat} {d : Nat} {h : mm_H} {A : Nat → Prop} {h0 : mm_H} {ad : Nat → Nat → Nat} {C : cw_C} (n2 : 0 < cN C 2) (hx : ¬ cI C 2 0 0 = 0) (hC : cw ad h0 C h) : mm_Run G mX2_checkActions A L d 10 [(0, .ref (ad 2 0)), (4, .null)] [] h (fun r h1 => r = none ∧ h1 = h) := by
  refine mm_aload (pc := 10) dX2_checkActions_10 rfl (by first | trivial | assumption | exact mm_isr_rf _) ?_
  refine mm_ifnull (pc := 12) (tgt := 65) dX2_checkActions_12 (by decide) (by first | trivial | assumption | exact mm_isr_rf _) (fun c12 => ?_) (fun a12 c12 => by cases c12)
  refine mm_vret (pc := 65) dX2_checkActions_65 rfl ?_
  exact ⟨rfl, rfl⟩

theorem cas_deadS {G : mm_G} {L : Nat × Nat} {d : Nat} {h : mm_H} {h0 : mm_H} {ad : Nat → Nat → Nat} {C : cw_C} {v1 : Nat} {a : Nat} {x : Int32} (n2 : 0 < cN C 2) (hx : ¬ cI C 2 0 0 = 0) (hC : cw ad h0 C h) : mm_Ok G mX2_checkActions L (d) [.ref (ad 2 0), .ref v1, .ref a, .int x] h (fun r h1 => r = none ∧ h1 = h) := by
  refine mm_Ok.of [(0, .ref (ad 2 0)), (1, .ref v1), (2, .ref a), (3, .int x)] rfl kX2_checkActions.2.2.2.2.2 rfl (fun A => ?_)
  refine mm_iload_n (pc := 0) dX2_checkActions_0 rfl ?_
  refine mm_bipush (pc := 1) (v := 6) dX2_checkActions_1 (by decide) ?_
  refine mm_icmp_le (pc := 3) (tgt := 7) dX2_checkActions_3 (by decide) (fun c3 => ?_) (fun c3 => ?_)
  · refine mm_aload_n (pc := 7) dX2_checkActions_7 rfl (by first | trivial | assumption | exact mm_isr_rf _) ?_
    refine mm_astore (pc := 8) dX2_checkActions_8 (by first | trivial | assumption | exact mm_isr_rf _) rfl (Nat.le_of_ble_eq_true rfl) ?_
    refine mm_aload (pc := 10) dX2_checkActions_10 rfl (by first | trivial | assumption | exact mm_isr_rf _) ?_
    refine mm_ifnull (pc := 12) (tgt := 65) dX2_checkActions_12 (by decide) (by first | trivial | assumption | exact mm_isr_rf _) (fun c12 => by cases c12) (fun a12 c12 => ?_)
    refine mm_aload_n (pc := 15) dX2_checkActions_15 rfl (by first | trivial | assumption | exact mm_isr_rf _) ?_
    refine cw_gi (pc := 16) 2 _ 0 hC (rfl) rfl (n2) dX2_checkActions_16 fl_X2_9 rfl rfl rfl ?_
    refine mm_if_ne (pc := 19) (tgt := 65) dX2_checkActions_19 (by decide) (fun c19 => ?_) (fun c19 => absurd c19 hx)
    refine mm_vret (pc := 65) dX2_checkActions_65 rfl ?_
    exact ⟨rfl, rfl⟩
  · refine mm_vret (pc := 6) dX2_checkActions_6 rfl ?_
    exact ⟨rfl, rfl⟩

theorem cas_d10S {G : mm_G} {L : Nat × Nat} {d : Nat} {h : mm_H} {A : Nat → Prop} {h0 : mm_H} {ad : Nat → Nat → Nat} {C : cw_C} {a : Nat} (n2 : 0 < cN C 2) (hx : ¬ cI C 2 0 0 = 0) (hC : cw ad h0 C h) : mm_Run G mX2_checkActions A L d 10 [(0, .ref (ad 2 0)), (4, .ref a)] [] h (fun r h1 => r = none ∧ h1 = h) := by
  refine mm_aload (pc := 10) dX2_checkActions_10 rfl (by first | trivial | assumption | exact mm_isr_rf _) ?_
  refine mm_ifnull (pc := 12) (tgt := 65) dX2_checkActions_12 (by decide) (by first | trivial | assumption | exact mm_isr_rf _) (fun c12 => by cases c12) (fun a12 c12 => ?_)
  refine mm_aload_n (pc := 15) dX2_checkActions_15 rfl (by first | trivial | assumption | exact mm_isr_rf _) ?_
  refine cw_gi (pc := 16) 2 _ 0 hC (rfl) rfl (n2) dX2_checkActions_16 fl_X2_9 rfl rfl rfl ?_
  refine mm_if_ne (pc := 19) (tgt := 65) dX2_checkActions_19 (by decide) (fun c19 => ?_) (fun c19 => absurd c19 hx)
  refine mm_vret (pc := 65) dX2_checkActions_65 rfl ?_
  exact ⟨rfl, rfl⟩

theorem cas_dead {G : mm_G} {L : Nat × Nat} {d : Nat} {h : mm_H} {h0 : mm_H} {ad : Nat → Nat → Nat} {C : cw_C} {v1 : Nat} {o : Option Nat} {x : Int32} (n2 : 0 < cN C 2) (hx : ¬ cI C 2 0 0 = 0) (hC : cw ad h0 C h) : mm_Ok G mX2_checkActions L d [.ref (ad 2 0), .ref v1, va_rf o, .int x] h (fun r h1 => r = none ∧ h1 = h) := by
  cases o with
  | none => exact cas_deadN n2 hx hC
  | some a => exact cas_deadS n2 hx hC
theorem cas_d10 {G : mm_G} {L : Nat × Nat} {d : Nat} {h : mm_H} {A : Nat → Prop} {h0 : mm_H} {ad : Nat → Nat → Nat} {C : cw_C} {o : Option Nat} (n2 : 0 < cN C 2) (hx : ¬ cI C 2 0 0 = 0) (hC : cw ad h0 C h) : mm_Run G mX2_checkActions A L d 10 [(0, .ref (ad 2 0)), (4, va_rf o)] [] h (fun r h1 => r = none ∧ h1 = h) := by
  cases o with
  | none => exact cas_d10N n2 hx hC
  | some a => exact cas_d10S n2 hx hC

def rcP (G : mm_G) (L : Nat × Nat) (h0 : mm_H) (ad : Nat → Nat → Nat) (M : mw_S) (ab : Nat → Option Nat) (n k q g f : Nat) : Prop := ∀ (e_ d deep : Nat) (v : Int32) (s e : Nat) (o : Option Nat) (C : cw_C) (h : mm_H), deep + e_ = 7 → COV M k q f deep v s e → e ≤ cN C 0 → lkR ad (cN C 0) v o → ckE ad C M ab n → 0 < cN C 2 → cI C 2 0 0 = 0 → cw ad h0 C h →  mm_Ok G mX2_checkActions L (d + e_ + 3) [.ref (ad 2 0), .ref (ad 1 g), va_rf o, .int (nI deep)] h (fun r h1 => aP ad h0 C h M ab k q s e r h1)
def rcQ (G : mm_G) (L : Nat × Nat) (h0 : mm_H) (ad : Nat → Nat → Nat) (M : mw_S) (ab : Nat → Option Nat) (n k q g f : Nat) : Prop := ∀ (A : Nat → Prop) (e_ d deep : Nat) (v : Int32) (s e : Nat) (o : Option Nat) (C : cw_C) (h : mm_H), deep + e_ = 7 → COV M k q f deep v s e → e ≤ cN C 0 → lkR ad (cN C 0) v o → ckE ad C M ab n → 0 < cN C 2 → cI C 2 0 0 = 0 → cw ad h0 C h →  mm_Run G mX2_checkActions A L (d + e_ + 3) 10 [(0, .ref (ad 2 0)), (1, .ref (ad 1 g)), (3, .int (nI deep)), (4, va_rf o)] [] h (fun r h1 => aP ad h0 C h M ab k q s e r h1)

theorem aP.mono {ad : Nat → Nat → Nat} {h0 h h' h1 : mm_H} {C C' : cw_C} {M : mw_S} {ab : Nat → Option Nat} {k q s m e : Nat} {r : Option Value} (z : aP ad h0 C' h' M ab k q m e r h1) (y : k2 C C') (hs : h'.2 = h.2) (h2 : aF M ab k q s m (cI C' 2 0 0) (cI C' 2 0 1)) (hx : cI C' 2 0 0 = 0) (hm : s ≤ m) : aP ad h0 C h M ab k q s e r h1 := by
  obtain ⟨a, C1, b, c, d, f⟩ := z
  exact ⟨a, C1, b, y.trans c, d.trans hs, h2.app hx hm f⟩
theorem aP.dead {ad : Nat → Nat → Nat} {h0 h h' : mm_H} {C C' : cw_C} {M : mw_S} {ab : Nat → Option Nat} {k q s m e : Nat} (hC : cw ad h0 C' h') (y : k2 C C') (hs : h'.2 = h.2) (h2 : aF M ab k q s m (cI C' 2 0 0) (cI C' 2 0 1)) (hx : ¬ cI C' 2 0 0 = 0) (hm : m ≤ e) : aP ad h0 C h M ab k q s e none h' := ⟨rfl, C', hC, y, hs, h2.bad hx hm⟩

theorem rc_of {G : mm_G} {L : Nat × Nat} {h0 : mm_H} {ad : Nat → Nat → Nat} {M : mw_S} {ab : Nat → Option Nat} {n k q g f : Nat} (hQ : rcQ G L h0 ad M ab n k q g f) : rcP G L h0 ad M ab n k q g f := by
  intro e_ d deep v s e o C h hd hv he hl hE n2 h00 hC
  cases o with
  | none =>
    refine mm_Ok.of [(0, .ref (ad 2 0)), (1, .ref (ad 1 g)), (2, .null), (3, .int (nI deep))] rfl kX2_checkActions.2.2.2.2.2 rfl (fun A => ?_)
    refine mm_iload_n (pc := 0) dX2_checkActions_0 rfl ?_
    refine mm_bipush (pc := 1) (v := 6) dX2_checkActions_1 (by decide) ?_
    refine mm_icmp_le (pc := 3) (tgt := 7) dX2_checkActions_3 (by decide) (fun c3 => ?_) (fun c3 => ?_)
    · refine mm_aload_n (pc := 7) dX2_checkActions_7 rfl (by first | trivial | assumption | exact mm_isr_rf _) ?_
      refine mm_astore (pc := 8) dX2_checkActions_8 (by first | trivial | assumption | exact mm_isr_rf _) rfl (Nat.le_of_ble_eq_true rfl) ?_
      exact mm_weakK (hQ A e_ d deep v s e none C h hd hv he hl hE n2 h00 hC) (And.intro rfl (And.intro rfl (And.intro rfl (And.intro rfl trivial))))
    · refine mm_vret (pc := 6) dX2_checkActions_6 rfl ?_
      refine ⟨rfl, C, hC, k2.refl C, rfl, ?_⟩
      rw [h00]
      have hse : s = e := by
        cases f with
        | zero => exact hv.elim
        | succ f =>
          rcases hv with ⟨-, z⟩ | ⟨-, -, ⟨z, -⟩, -⟩
          · exact z
          · exact absurd (nI_le (b := 6) z (by decide)) c3
      rw [hse]
      exact aF.nil
  | some a =>
    refine mm_Ok.of [(0, .ref (ad 2 0)), (1, .ref (ad 1 g)), (2, .ref a), (3, .int (nI deep))] rfl kX2_checkActions.2.2.2.2.2 rfl (fun A => ?_)
    have hd6 : deep ≤ 6 := by
      cases f with
      | zero => exact hv.elim
      | succ f =>
        rcases hv with ⟨z, -⟩ | ⟨-, -, ⟨z, -⟩, -⟩
        · rcases hl with ⟨-, w⟩ | ⟨y, y1, w, -⟩
          · cases w
          · rw [z] at w; exact absurd (show nI y < 0 by rw [← w]; decide) (nI_pos (by have := hE.2.2.2.2.2.2.1; omega))
        · exact z
    refine mm_iload_n (pc := 0) dX2_checkActions_0 rfl ?_
    refine mm_bipush (pc := 1) (v := 6) dX2_checkActions_1 (by decide) ?_
    refine mm_icmp_le (pc := 3) (tgt := 7) dX2_checkActions_3 (by decide) (fun c3 => ?_) (fun c3 => absurd (nI_le (b := 6) hd6 (by decide)) c3)
    refine mm_aload_n (pc := 7) dX2_checkActions_7 rfl (by first | trivial | assumption | exact mm_isr_rf _) ?_
    refine mm_astore (pc := 8) dX2_checkActions_8 (by first | trivial | assumption | exact mm_isr_rf _) rfl (Nat.le_of_ble_eq_true rfl) ?_
    exact mm_weakK (hQ A e_ d deep v s e (some a) C h hd hv he hl hE n2 h00 hC) (And.intro rfl (And.intro rfl (And.intro rfl (And.intro rfl trivial))))

theorem rc_loop {G : mm_G} {L : Nat × Nat} {h0 : mm_H} {ad : Nat → Nat → Nat} {M : mw_S} {ab : Nat → Option Nat} {n k q g : Nat} (hk : k < n) (hq6 : q < 6) (n1 : g < kg M) (hyK : yK M g = k) (h99 : M.2.2.1 99 g = nI q) : ∀ f, rcQ G L h0 ad M ab n k q g f := by
  intro f
  induction f with
  | zero => intro A e_ d deep v s e o C h hd hv; exact hv.elim
  | succ f ih =>
    intro A e_ d deep v s e o C h hd hv he hl hE n2 h00 hC
    have hN4 := hE.2.2.2.2.2.2.1
    rcases hv with ⟨hv1, hse⟩ | ⟨hv1, hse, hd6, hao, m1, m2, a1, a2, a3, cv1, cv2, cv3⟩
    · obtain rfl : o = none := by
        rcases hl with ⟨-, z⟩ | ⟨y, z1, z2, -⟩
        · exact z
        · exact absurd (show nI y < 0 by rw [← z2, hv1]; decide) (nI_pos (by omega))
      subst hse
      refine mm_aload (pc := 10) dX2_checkActions_10 rfl (by first | trivial | assumption | exact mm_isr_rf _) ?_
      refine mm_ifnull (pc := 12) (tgt := 65) dX2_checkActions_12 (by decide) (by first | trivial | assumption | exact mm_isr_rf _) (fun c12 => ?_) (fun a12 c12 => by cases c12)
      refine mm_vret (pc := 65) dX2_checkActions_65 rfl ?_
      exact ⟨rfl, C, hC, k2.refl C, rfl, by rw [h00]; exact aF.nil⟩
    · obtain rfl : o = some (ad 0 s) := by
        rcases hl with ⟨z, -⟩ | ⟨y, z1, z2, z3⟩
        · rw [hv1] at z; exact absurd z (nI_pos (by omega))
        · rw [z3, (nI_eq (by omega) (by omega)).mp (hv1.symm.trans z2)]
      obtain ⟨e_, rfl⟩ : ∃ x, e_ = x + 1 := ⟨e_ - 1, by omega⟩
      have ihP := rc_of ih
      have n0 : s < cN C 0 := by omega
      refine mm_aload (pc := 10) dX2_checkActions_10 rfl (by first | trivial | assumption | exact mm_isr_rf _) ?_
      refine mm_ifnull (pc := 12) (tgt := 65) dX2_checkActions_12 (by decide) (by first | trivial | assumption | exact mm_isr_rf _) (fun c12 => by cases c12) (fun a12 c12 => ?_)
      refine mm_aload_n (pc := 15) dX2_checkActions_15 rfl (by first | trivial | assumption | exact mm_isr_rf _) ?_
      refine cw_gi (pc := 16) 2 0 0 hC (rfl) rfl (n2) dX2_checkActions_16 fl_X2_9 rfl rfl rfl ?_
      refine mm_if_ne (pc := 19) (tgt := 65) dX2_checkActions_19 (by decide) (fun c19 => absurd h00 c19) (fun c19 => ?_)
      refine mm_aload_n (pc := 22) dX2_checkActions_22 rfl (by first | trivial | assumption | exact mm_isr_rf _) ?_
      refine mm_aload_n (pc := 23) dX2_checkActions_23 rfl (by first | trivial | assumption | exact mm_isr_rf _) ?_
      refine mm_aload (pc := 24) dX2_checkActions_24 rfl (by first | trivial | assumption | exact mm_isr_rf _) ?_
      refine mm_callV (pc := 26) (As := [_, _]) (kd := ?kd_26_1) (fs := ?fs_26_1) dX2_checkActions_26 vl_X2_141 (ca_ok (d := d + (e_ + 1)) hE n2 h00 hk hq6 (by rw [hE.2.2.2.1.1]; exact n1) hyK h99 (by omega) hao hC) ?hc_26_1 ?hk_26_1 rfl rfl (Nat.le_of_ble_eq_true rfl) ?_; (case hc_26_1 => exact cw_cell (f := 2) hC rfl rfl n2); (case hk_26_1 => rfl)
      rintro _ h26 ⟨rfl, C1, hC, y1, e1, ⟨c1, x1⟩ | ⟨c1, x1, x2⟩⟩
      · have hx1 : cI C1 2 0 0 = 0 := x1
        have e0 : C1 0 = C 0 := (y1 0).1 (by decide)
        have hE1 := hE.k2 y1
        have ha1 := hE1.2.2.2.2.2.2.2 s (by rw [cN_o e0]; omega)
        have m2_ : 0 < cN C1 2 := by rw [(y1 2).2.1]; exact n2
        have m0 : s < cN C1 0 := by rw [cN_o e0]; omega
        have fa1 : aF M ab k q s (s + 1) (cI C1 2 0 0) (cI C1 2 0 1) := aF.one (Or.inl ⟨c1, hx1⟩)
        refine mm_aload_n (pc := 29) dX2_checkActions_29 rfl (by first | trivial | assumption | exact mm_isr_rf _) ?_
        refine mm_aload_n (pc := 30) dX2_checkActions_30 rfl (by first | trivial | assumption | exact mm_isr_rf _) ?_
        refine mm_aload (pc := 31) dX2_checkActions_31 rfl (by first | trivial | assumption | exact mm_isr_rf _) ?_
        refine cw_gr (pc := 33) 0 s 3 hC (rfl) rfl (m0) dX2_checkActions_33 fl_X2_145 rfl rfl rfl rfl ?_
        refine mm_iload_n (pc := 36) dX2_checkActions_36 rfl ?_
        refine mm_iconst (pc := 37) (v := 1) dX2_checkActions_37 (by decide) ?_
        refine mm_iadd (pc := 38) dX2_checkActions_38 ?_
        refine mm_topi _ (nI_add deep 1) ?_
        refine mm_callV (pc := 39) (As := [_, _, _]) (kd := ?kd_39_2) (fs := ?fs_39_2) dX2_checkActions_39 vl_X2_106 (ihP e_ d (deep + 1) (M.2.2.1 16 s) (s + 1) m1 (cR C1 0 s 3) C1 h26 (by omega) cv1 (by rw [cN_o e0]; omega) ha1.2.2.2.1 hE1 m2_ hx1 hC) ?hc_39_2 ?hk_39_2 rfl rfl (Nat.le_of_ble_eq_true rfl) ?_; (case hc_39_2 => exact cw_cell (f := 2) hC rfl rfl m2_); (case hk_39_2 => rfl)
        rintro _ h39 ⟨rfl, C2, hC, y2, e2, f2⟩
        have e02 : C2 0 = C 0 := ((y2 0).1 (by decide)).trans e0
        have hE2 := hE1.k2 y2
        have ha2 := hE2.2.2.2.2.2.2.2 s (by rw [cN_o e02]; omega)
        have m22 : 0 < cN C2 2 := by rw [(y2 2).2.1]; exact m2_
        have m0 : s < cN C2 0 := by rw [cN_o e02]; omega
        have fa2 : aF M ab k q s m1 (cI C2 2 0 0) (cI C2 2 0 1) := fa1.app hx1 (by omega) f2
        by_cases hx2 : cI C2 2 0 0 = 0
        · skip
          refine mm_aload_n (pc := 42) dX2_checkActions_42 rfl (by first | trivial | assumption | exact mm_isr_rf _) ?_
          refine mm_aload_n (pc := 43) dX2_checkActions_43 rfl (by first | trivial | assumption | exact mm_isr_rf _) ?_
          refine mm_aload (pc := 44) dX2_checkActions_44 rfl (by first | trivial | assumption | exact mm_isr_rf _) ?_
          refine cw_gr (pc := 46) 0 s 4 hC (rfl) rfl (m0) dX2_checkActions_46 fl_X2_150 rfl rfl rfl rfl ?_
          refine mm_iload_n (pc := 49) dX2_checkActions_49 rfl ?_
          refine mm_iconst (pc := 50) (v := 1) dX2_checkActions_50 (by decide) ?_
          refine mm_iadd (pc := 51) dX2_checkActions_51 ?_
          refine mm_topi _ (nI_add deep 1) ?_
          refine mm_callV (pc := 52) (As := [_, _, _]) (kd := ?kd_52_3) (fs := ?fs_52_3) dX2_checkActions_52 vl_X2_106 (ihP e_ d (deep + 1) (M.2.2.1 17 s) m1 m2 (cR C2 0 s 4) C2 h39 (by omega) cv2 (by rw [cN_o e02]; omega) ha2.2.2.2.2.1 hE2 m22 hx2 hC) ?hc_52_3 ?hk_52_3 rfl rfl (Nat.le_of_ble_eq_true rfl) ?_; (case hc_52_3 => exact cw_cell (f := 2) hC rfl rfl m22); (case hk_52_3 => rfl)
          rintro _ h52 ⟨rfl, C3, hC, y3, e3, f3⟩
          have e03 : C3 0 = C 0 := ((y3 0).1 (by decide)).trans e02
          have hE3 := hE2.k2 y3
          have ha3 := hE3.2.2.2.2.2.2.2 s (by rw [cN_o e03]; omega)
          have m23 : 0 < cN C3 2 := by rw [(y3 2).2.1]; exact m22
          have m0 : s < cN C3 0 := by rw [cN_o e03]; omega
          have fa3 : aF M ab k q s m2 (cI C3 2 0 0) (cI C3 2 0 1) := fa2.app hx2 (by omega) f3
          refine mm_aload (pc := 55) dX2_checkActions_55 rfl (by first | trivial | assumption | exact mm_isr_rf _) ?_
          refine cw_gr (pc := 57) 0 s 5 hC (rfl) rfl (m0) dX2_checkActions_57 fl_X2_153 rfl rfl rfl rfl ?_
          refine mm_astore (pc := 60) dX2_checkActions_60 (by first | trivial | assumption | exact mm_isr_rf _) rfl (Nat.le_of_ble_eq_true rfl) ?_
          refine mm_goto (pc := 62) (tgt := 10) dX2_checkActions_62 (by decide) ?_
          by_cases hx3 : cI C3 2 0 0 = 0
          · refine mm_post (fun r_ h_ z_ => aP.mono z_ (y1.trans (y2.trans y3)) (by rw [e3, e2, e1]) fa3 hx3 (by omega)) ?_
            exact mm_weakK (ih A (e_ + 1) d deep (M.2.2.1 18 s) m2 e (cR C3 0 s 5) C3 h52 (by omega) cv3 (by rw [cN_o e03]; exact he) ha3.2.2.2.2.2 hE3 m23 hx3 hC) (And.intro rfl (And.intro rfl (And.intro rfl (And.intro rfl trivial))))
          · refine mm_post (fun r_ h_ z_ => ?_) (mm_weakK (cas_d10 m23 hx3 hC) (And.intro rfl (And.intro rfl trivial)))
            obtain ⟨rfl, rfl⟩ := z_
            exact aP.dead hC (y1.trans (y2.trans y3)) (by rw [e3, e2, e1]) fa3 hx3 (by omega)
        · skip
          refine mm_aload_n (pc := 42) dX2_checkActions_42 rfl (by first | trivial | assumption | exact mm_isr_rf _) ?_
          refine mm_aload_n (pc := 43) dX2_checkActions_43 rfl (by first | trivial | assumption | exact mm_isr_rf _) ?_
          refine mm_aload (pc := 44) dX2_checkActions_44 rfl (by first | trivial | assumption | exact mm_isr_rf _) ?_
          refine cw_gr (pc := 46) 0 s 4 hC (rfl) rfl (m0) dX2_checkActions_46 fl_X2_150 rfl rfl rfl rfl ?_
          refine mm_iload_n (pc := 49) dX2_checkActions_49 rfl ?_
          refine mm_iconst (pc := 50) (v := 1) dX2_checkActions_50 (by decide) ?_
          refine mm_iadd (pc := 51) dX2_checkActions_51 ?_
          refine mm_topi _ (nI_add deep 1) ?_
          refine mm_callV (pc := 52) (As := [_, _, _]) (kd := ?kd_52_4) (fs := ?fs_52_4) dX2_checkActions_52 vl_X2_106 (cas_dead m22 hx2 hC) ?hc_52_4 ?hk_52_4 rfl rfl (Nat.le_of_ble_eq_true rfl) ?_; (case hc_52_4 => exact cw_cell (f := 2) hC rfl rfl m22); (case hk_52_4 => rfl)
          rintro _ _ ⟨rfl, rfl⟩
          refine mm_aload (pc := 55) dX2_checkActions_55 rfl (by first | trivial | assumption | exact mm_isr_rf _) ?_
          refine cw_gr (pc := 57) 0 s 5 hC (rfl) rfl (m0) dX2_checkActions_57 fl_X2_153 rfl rfl rfl rfl ?_
          refine mm_astore (pc := 60) dX2_checkActions_60 (by first | trivial | assumption | exact mm_isr_rf _) rfl (Nat.le_of_ble_eq_true rfl) ?_
          refine mm_goto (pc := 62) (tgt := 10) dX2_checkActions_62 (by decide) ?_
          refine mm_post (fun r_ h_ z_ => ?_) (mm_weakK (cas_d10 m22 hx2 hC) (And.intro rfl (And.intro rfl trivial)))
          obtain ⟨rfl, rfl⟩ := z_
          exact aP.dead hC (y1.trans y2) (by rw [e2, e1]) fa2 hx2 (by omega)
      · have hx1 : ¬ cI C1 2 0 0 = 0 := by rw [x1]; exact fun z => c1 ((nI_eq (b := 0) (by have := cA_le (M := M) (ab := ab) (k := k) (q := q) (y := s); omega) (by decide)).mp z)
        have e0 : C1 0 = C 0 := (y1 0).1 (by decide)
        have m2_ : 0 < cN C1 2 := by rw [(y1 2).2.1]; exact n2
        have m0 : s < cN C1 0 := by rw [cN_o e0]; omega
        have fa1 : aF M ab k q s (s + 1) (cI C1 2 0 0) (cI C1 2 0 1) := aF.one (Or.inr ⟨c1, x1, x2⟩)
        refine mm_aload_n (pc := 29) dX2_checkActions_29 rfl (by first | trivial | assumption | exact mm_isr_rf _) ?_
        refine mm_aload_n (pc := 30) dX2_checkActions_30 rfl (by first | trivial | assumption | exact mm_isr_rf _) ?_
        refine mm_aload (pc := 31) dX2_checkActions_31 rfl (by first | trivial | assumption | exact mm_isr_rf _) ?_
        refine cw_gr (pc := 33) 0 s 3 hC (rfl) rfl (m0) dX2_checkActions_33 fl_X2_145 rfl rfl rfl rfl ?_
        refine mm_iload_n (pc := 36) dX2_checkActions_36 rfl ?_
        refine mm_iconst (pc := 37) (v := 1) dX2_checkActions_37 (by decide) ?_
        refine mm_iadd (pc := 38) dX2_checkActions_38 ?_
        refine mm_topi _ (nI_add deep 1) ?_
        refine mm_callV (pc := 39) (As := [_, _, _]) (kd := ?kd_39_5) (fs := ?fs_39_5) dX2_checkActions_39 vl_X2_106 (cas_dead m2_ hx1 hC) ?hc_39_5 ?hk_39_5 rfl rfl (Nat.le_of_ble_eq_true rfl) ?_; (case hc_39_5 => exact cw_cell (f := 2) hC rfl rfl m2_); (case hk_39_5 => rfl)
        rintro _ _ ⟨rfl, rfl⟩
        refine mm_aload_n (pc := 42) dX2_checkActions_42 rfl (by first | trivial | assumption | exact mm_isr_rf _) ?_
        refine mm_aload_n (pc := 43) dX2_checkActions_43 rfl (by first | trivial | assumption | exact mm_isr_rf _) ?_
        refine mm_aload (pc := 44) dX2_checkActions_44 rfl (by first | trivial | assumption | exact mm_isr_rf _) ?_
        refine cw_gr (pc := 46) 0 s 4 hC (rfl) rfl (m0) dX2_checkActions_46 fl_X2_150 rfl rfl rfl rfl ?_
        refine mm_iload_n (pc := 49) dX2_checkActions_49 rfl ?_
        refine mm_iconst (pc := 50) (v := 1) dX2_checkActions_50 (by decide) ?_
        refine mm_iadd (pc := 51) dX2_checkActions_51 ?_
        refine mm_topi _ (nI_add deep 1) ?_
        refine mm_callV (pc := 52) (As := [_, _, _]) (kd := ?kd_52_6) (fs := ?fs_52_6) dX2_checkActions_52 vl_X2_106 (cas_dead m2_ hx1 hC) ?hc_52_6 ?hk_52_6 rfl rfl (Nat.le_of_ble_eq_true rfl) ?_; (case hc_52_6 => exact cw_cell (f := 2) hC rfl rfl m2_); (case hk_52_6 => rfl)
        rintro _ _ ⟨rfl, rfl⟩
        refine mm_aload (pc := 55) dX2_checkActions_55 rfl (by first | trivial | assumption | exact mm_isr_rf _) ?_
        refine cw_gr (pc := 57) 0 s 5 hC (rfl) rfl (m0) dX2_checkActions_57 fl_X2_153 rfl rfl rfl rfl ?_
        refine mm_astore (pc := 60) dX2_checkActions_60 (by first | trivial | assumption | exact mm_isr_rf _) rfl (Nat.le_of_ble_eq_true rfl) ?_
        refine mm_goto (pc := 62) (tgt := 10) dX2_checkActions_62 (by decide) ?_
        refine mm_post (fun r_ h_ z_ => ?_) (mm_weakK (cas_d10 m2_ hx1 hC) (And.intro rfl (And.intro rfl trivial)))
        obtain ⟨rfl, rfl⟩ := z_
        exact aP.dead hC y1 e1 fa1 hx1 (by omega)

