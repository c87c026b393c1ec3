/-! the class's checker: a body -/
def c5 (M : mw_S) (ab : Nat → Option Nat) (k q j : Nat) : Prop := rm_has M q j = true ∧ ovB ab (rm_E M q) k j = true ∧ M.2.2.1 10 (6 * j + q) = 1
def c4 (M : mw_S) (ab : Nat → Option Nat) (k q j : Nat) : Prop := rm_has M q j = true ∧ ovB ab (rm_E M q) k j = true ∧ M.2.2.1 9 (6 * j + q) < M.2.2.1 9 (6 * k + q)
def exA (ab : Nat → Option Nat) (k : Nat) (P : Nat → Prop) : Prop := ∃ j, An ab k j ∧ P j
/-- the fault of a body, 0 if none -/
def cB (M : mw_S) (ab : Nat → Option Nat) (k q g f : Nat) : Prop := (M.2.2.1 96 g = 1 ∧ f = 3) ∨ (M.2.2.1 96 g = 0 ∧ exA ab k (c5 M ab k q) ∧ f = 5) ∨ (M.2.2.1 96 g = 0 ∧ ¬ exA ab k (c5 M ab k q) ∧ exA ab k (c4 M ab k q) ∧ f = 4) ∨ (M.2.2.1 96 g = 0 ∧ ¬ exA ab k (c5 M ab k q) ∧ ¬ exA ab k (c4 M ab k q) ∧ f = 0)
def rem (ab : Nat → Option Nat) (c : Option Nat) (j : Nat) : Prop := c = some j ∨ ∃ x, c = some x ∧ An ab x j
theorem rem_An {ab : Nat → Option Nat} {k j : Nat} : rem ab (ab k) j ↔ An ab k j := by
  constructor
  · rintro (h | ⟨x, h, a⟩)
    · exact An.one h
    · exact (An.one h).trans a
  · intro h
    obtain ⟨x, h1, h2⟩ := h.cases
    rcases h2 with rfl | h2
    · exact Or.inl h1
    · exact Or.inr ⟨x, h1, h2⟩
theorem rem_s {ab : Nat → Option Nat} {x j : Nat} : rem ab (some x) j ↔ j = x ∨ rem ab (ab x) j := by
  rw [rem_An]
  constructor
  · rintro (h | ⟨y, h, a⟩)
    · exact Or.inl (Option.some.inj h).symm
    · rw [Option.some.inj h]; exact Or.inr a
  · rintro (h | h)
    · exact Or.inl (by rw [h])
    · exact Or.inr ⟨x, rfl, h⟩
def riv (ab : Nat → Option Nat) (k : Nat) (P : Nat → Prop) (c : Option Nat) (b : Bool) : Prop := (b = true ∨ ∃ j, rem ab c j ∧ P j) ↔ exA ab k P
theorem riv.zero {ab : Nat → Option Nat} {k : Nat} {P : Nat → Prop} : riv ab k P (ab k) false := by
  constructor
  · rintro (h | ⟨j, a, b⟩)
    · cases h
    · exact ⟨j, rem_An.mp a, b⟩
  · rintro ⟨j, a, b⟩
    exact Or.inr ⟨j, rem_An.mpr a, b⟩
theorem riv.fin {ab : Nat → Option Nat} {k : Nat} {P : Nat → Prop} {b : Bool} (h : riv ab k P none b) : b = true ↔ exA ab k P := by
  unfold riv at h
  rw [← h]
  constructor
  · exact Or.inl
  · rintro (z | ⟨j, (a | ⟨x, a, -⟩), -⟩)
    · exact z
    · cases a
    · cases a
theorem riv.step {ab : Nat → Option Nat} {k x : Nat} {P : Nat → Prop} {b b' : Bool} (h : riv ab k P (some x) b) (e : b' = true ↔ (b = true ∨ P x)) : riv ab k P (ab x) b' := by
  unfold riv at *
  rw [← h, e]
  constructor
  · rintro ((z | z) | ⟨j, z1, z2⟩)
    · exact Or.inl z
    · exact Or.inr ⟨x, rem_s.mpr (Or.inl rfl), z⟩
    · exact Or.inr ⟨j, rem_s.mpr (Or.inr z1), z2⟩
  · rintro (z | ⟨j, z1, z2⟩)
    · exact Or.inl (Or.inl z)
    · rcases rem_s.mp z1 with z3 | z3
      · rw [z3] at z2; exact Or.inl (Or.inr z2)
      · exact Or.inr ⟨j, z3, z2⟩
theorem bI_or (a b : Bool) : bI a ||| bI b = bI (a || b) := by cases a <;> cases b <;> decide

theorem cbd_3 {G : mm_G} {L : Nat × Nat} {d : Nat} {h : mm_H} {h0 : mm_H} {ad : Nat → Nat → Nat} {C : cw_C} {M : mw_S} {ab : Nat → Option Nat} {n k q g : Nat} (hE : ckE ad C M ab n) (n2 : 0 < cN C 2) (h00 : cI C 2 0 0 = 0) (hk : k < n) (hq6 : q < 6) (n1 : g < cN C 1) (hyK : yK M g = k) (h99 : M.2.2.1 99 g = nI q) (hhas : rm_has M q k = true) (h96 : M.2.2.1 96 g = 1) (hne : ¬ gb M k q = g) (hC : cw ad h0 C h) : mm_Ok G mX2_checkBody L (d + 2) [.ref (ad 2 0), .ref (ad 1 g)] h (fun r h1 => ∃ f, cB M ab k q g f ∧ ck1 ad h0 C h f (M.2.2.1 107 g) r h1) := by
  refine mm_Ok.of [(0, .ref (ad 2 0)), (1, .ref (ad 1 g))] rfl kX2_checkBody.2.2.2.2.2 rfl (fun A => ?_)
  have hbd := hE.2.2.1 g n1
  have hn50 := hE.1.2.1
  have n4 : k < cN C 4 := by have := hE.1.2.2.1; omega
  have hk0 : cR C 1 g 0 = some (ad 4 k) := by rw [← hyK]; exact hbd.1
  have hq1 : cI C 1 g 1 = nI q := by rw [hbd.2.2.1]; exact h99
  have hxb : xbo ad M k q = some (ad 1 (gb M k q)) := if_pos hhas
  have hgb := (hE.2.2.2.2.1 k hk).g hE.2.2.2.1.2 hq6 hhas
  have h1k := hE.2.2.2.1.1
  refine mm_aload_n (pc := 0) dX2_checkBody_0 rfl (by first | trivial | assumption | exact mm_isr_rf _) ?_
  refine cw_grS (pc := 1) 1 g 0 hC (rfl) rfl (n1) dX2_checkBody_1 fl_X2_116 rfl rfl rfl (hk0) ?_
  refine mm_aload_n (pc := 4) dX2_checkBody_4 rfl (by first | trivial | assumption | exact mm_isr_rf _) ?_
  refine cw_gi (pc := 5) 1 g 1 hC (rfl) rfl (n1) dX2_checkBody_5 fl_X2_120 rfl rfl rfl ?_
  refine mm_topi _ hq1 ?_
  refine mm_callV (pc := 8) (As := [_]) (kd := ?kd_8_1) (fs := ?fs_8_1) dX2_checkBody_8 vl_X2_123 (ck_bo hE hC hk hq6) ?hc_8_1 ?hk_8_1 rfl rfl (Nat.le_of_ble_eq_true rfl) ?_; (case hc_8_1 => exact cw_cell (f := 4) hC rfl rfl n4); (case hk_8_1 => rfl)
  rintro _ _ ⟨rfl, rfl⟩
  rw [show va_rf (xbo ad M k q) = .ref (ad 1 (gb M k q)) by rw [hxb]; rfl]
  refine mm_aload_n (pc := 11) dX2_checkBody_11 rfl (by first | trivial | assumption | exact mm_isr_rf _) ?_
  refine mm_acmp_eq (pc := 12) (tgt := 25) dX2_checkBody_12 (by decide) (by first | trivial | assumption | exact mm_isr_rf _) (by first | trivial | assumption | exact mm_isr_rf _) (fun c12 => absurd c12 (fun z => hne (hC.2.1 1 _ 1 _ (by decide) (by decide) (by rw [h1k]; exact hgb.2.1) n1 (Value.ref.inj z)).2)) (fun c12 => ?_)
  refine mm_aload_n (pc := 15) dX2_checkBody_15 rfl (by first | trivial | assumption | exact mm_isr_rf _) ?_
  refine mm_iconst (pc := 16) (v := 3) dX2_checkBody_16 (by decide) ?_
  refine mm_aload_n (pc := 17) dX2_checkBody_17 rfl (by first | trivial | assumption | exact mm_isr_rf _) ?_
  refine cw_gi (pc := 18) 1 g 4 hC (rfl) rfl (n1) dX2_checkBody_18 fl_X2_127 rfl rfl rfl ?_
  refine mm_topi _ hbd.2.2.2.2.2.1 ?_
  refine mm_callV (pc := 21) (As := [_, _]) (kd := ?kd_21_2) (fs := ?fs_21_2) dX2_checkBody_21 vl_X2_51 (ck_bl n2 h00 (by decide) hC) ?hc_21_2 ?hk_21_2 rfl rfl (Nat.le_of_ble_eq_true rfl) ?_; (case hc_21_2 => exact cw_cell (f := 2) hC rfl rfl n2); (case hk_21_2 => rfl)
  rintro _ h21 ⟨rfl, C1, hC, y2, e_, hx, hp⟩
  refine mm_vret (pc := 24) dX2_checkBody_24 rfl ?_
  exact ⟨3, Or.inl ⟨h96, rfl⟩, rfl, C1, hC, y2, e_, Or.inr ⟨by decide, hx, hp⟩⟩

theorem cbd_loop {G : mm_G} {L : Nat × Nat} {d : Nat} {h : mm_H} {A : Nat → Prop} {h0 : mm_H} {ad : Nat → Nat → Nat} {C : cw_C} {M : mw_S} {ab : Nat → Option Nat} {n k q g : Nat} (hE : ckE ad C M ab n) (n2 : 0 < cN C 2) (h00 : cI C 2 0 0 = 0) (hk : k < n) (hq6 : q < 6) (n1 : g < cN C 1) (hyK : yK M g = k) (h99 : M.2.2.1 99 g = nI q) (hhas : rm_has M q k = true) (h96 : M.2.2.1 96 g = 0) (heq : gb M k q = g) (hb10 : ∀ i, M.2.2.1 10 i = 0 ∨ M.2.2.1 10 i = 1) (hC : cw ad h0 C h) : ∀ (f : Nat) (c : Option Nat) (b2 b3 : Bool), kf_lt f c → kf_lt n c → riv ab k (c5 M ab k q) c b2 → riv ab k (c4 M ab k q) c b3 → mm_Run G mX2_checkBody A L (d + 3) 38 [(0, .ref (ad 2 0)), (1, .ref (ad 1 g)), (2, .int (bI b2)), (3, .int (bI b3)), (4, va_rf (c.map (ad 4)))] [] h (fun r h1 => ∃ f, cB M ab k q g f ∧ ck1 ad h0 C h f (M.2.2.1 107 g) r h1) := by
  have hbd := hE.2.2.1 g n1
  have hn50 := hE.1.2.1
  have n4 : k < cN C 4 := by have := hE.1.2.2.1; omega
  have hk0 : cR C 1 g 0 = some (ad 4 k) := by rw [← hyK]; exact hbd.1
  have hq1 : cI C 1 g 1 = nI q := by rw [hbd.2.2.1]; exact h99
  have hxb : xbo ad M k q = some (ad 1 (gb M k q)) := if_pos hhas
  have hgb := (hE.2.2.2.2.1 k hk).g hE.2.2.2.1.2 hq6 hhas
  have h1k := hE.2.2.2.1.1
  intro f
  induction f with
  | zero =>
    intro c b2 b3 hf hn i5 i4
    cases c with
    | some x => exact absurd hf (Nat.not_lt_zero x)
    | none =>
      refine mm_aload (pc := 38) dX2_checkBody_38 rfl (by first | trivial | assumption | exact mm_isr_rf _) ?_
      refine mm_ifnull (pc := 40) (tgt := 106) dX2_checkBody_40 (by decide) (by first | trivial | assumption | exact mm_isr_rf _) (fun c40 => ?_) (fun a40 c40 => by cases c40)
      refine mm_iload_n (pc := 106) dX2_checkBody_106 rfl ?_
      refine mm_if_eq (pc := 107) (tgt := 122) dX2_checkBody_107 (by decide) (fun c107 => ?_) (fun c107 => ?_)
      · have hb2 : ¬ exA ab k (c5 M ab k q) := fun z => by rw [i5.fin.mpr z] at c107; exact absurd c107 (by decide)
        refine mm_iload_n (pc := 122) dX2_checkBody_122 rfl ?_
        refine mm_if_eq (pc := 123) (tgt := 135) dX2_checkBody_123 (by decide) (fun c123 => ?_) (fun c123 => ?_)
        · have hb3 : ¬ exA ab k (c4 M ab k q) := fun z => by rw [i4.fin.mpr z] at c123; exact absurd c123 (by decide)
          refine mm_vret (pc := 135) dX2_checkBody_135 rfl ?_
          exact ⟨0, Or.inr (Or.inr (Or.inr ⟨h96, hb2, hb3, rfl⟩)), rfl, C, hC, k2.refl C, rfl, Or.inl ⟨rfl, h00⟩⟩
        · have hb3 : exA ab k (c4 M ab k q) := i4.fin.mp (by cases z : b3 with
            | true => rfl
            | false => rw [z] at c123; exact absurd rfl c123)
          refine mm_aload_n (pc := 126) dX2_checkBody_126 rfl (by first | trivial | assumption | exact mm_isr_rf _) ?_
          refine mm_iconst (pc := 127) (v := 4) dX2_checkBody_127 (by decide) ?_
          refine mm_aload_n (pc := 128) dX2_checkBody_128 rfl (by first | trivial | assumption | exact mm_isr_rf _) ?_
          refine cw_gi (pc := 129) 1 g 4 hC (rfl) rfl (n1) dX2_checkBody_129 fl_X2_127 rfl rfl rfl ?_
          refine mm_topi _ hbd.2.2.2.2.2.1 ?_
          refine mm_callV (pc := 132) (As := [_, _]) (kd := ?kd_132_3) (fs := ?fs_132_3) dX2_checkBody_132 vl_X2_51 (ck_bl n2 h00 (by decide) hC) ?hc_132_3 ?hk_132_3 rfl rfl (Nat.le_of_ble_eq_true rfl) ?_; (case hc_132_3 => exact cw_cell (f := 2) hC rfl rfl n2); (case hk_132_3 => rfl)
          rintro _ h132 ⟨rfl, C1, hC, y2, e_, hx, hp⟩
          refine mm_vret (pc := 135) dX2_checkBody_135 rfl ?_
          exact ⟨4, Or.inr (Or.inr (Or.inl ⟨h96, hb2, hb3, rfl⟩)), rfl, C1, hC, y2, e_, Or.inr ⟨by decide, hx, hp⟩⟩
      · have hb2 : exA ab k (c5 M ab k q) := i5.fin.mp (by cases z : b2 with
          | true => rfl
          | false => rw [z] at c107; exact absurd rfl c107)
        refine mm_aload_n (pc := 110) dX2_checkBody_110 rfl (by first | trivial | assumption | exact mm_isr_rf _) ?_
        refine mm_iconst (pc := 111) (v := 5) dX2_checkBody_111 (by decide) ?_
        refine mm_aload_n (pc := 112) dX2_checkBody_112 rfl (by first | trivial | assumption | exact mm_isr_rf _) ?_
        refine cw_gi (pc := 113) 1 g 4 hC (rfl) rfl (n1) dX2_checkBody_113 fl_X2_127 rfl rfl rfl ?_
        refine mm_topi _ hbd.2.2.2.2.2.1 ?_
        refine mm_callV (pc := 116) (As := [_, _]) (kd := ?kd_116_4) (fs := ?fs_116_4) dX2_checkBody_116 vl_X2_51 (ck_bl n2 h00 (by decide) hC) ?hc_116_4 ?hk_116_4 rfl rfl (Nat.le_of_ble_eq_true rfl) ?_; (case hc_116_4 => exact cw_cell (f := 2) hC rfl rfl n2); (case hk_116_4 => rfl)
        rintro _ h116 ⟨rfl, C1, hC, y2, e_, hx, hp⟩
        refine mm_goto (pc := 119) (tgt := 135) dX2_checkBody_119 (by decide) ?_
        refine mm_vret (pc := 135) dX2_checkBody_135 rfl ?_
        exact ⟨5, Or.inr (Or.inl ⟨h96, hb2, rfl⟩), rfl, C1, hC, y2, e_, Or.inr ⟨by decide, hx, hp⟩⟩
  | succ f ih =>
    intro c b2 b3 hf hn i5 i4
    cases c with
    | none =>
      refine mm_aload (pc := 38) dX2_checkBody_38 rfl (by first | trivial | assumption | exact mm_isr_rf _) ?_
      refine mm_ifnull (pc := 40) (tgt := 106) dX2_checkBody_40 (by decide) (by first | trivial | assumption | exact mm_isr_rf _) (fun c40 => ?_) (fun a40 c40 => by cases c40)
      refine mm_iload_n (pc := 106) dX2_checkBody_106 rfl ?_
      refine mm_if_eq (pc := 107) (tgt := 122) dX2_checkBody_107 (by decide) (fun c107 => ?_) (fun c107 => ?_)
      · have hb2 : ¬ exA ab k (c5 M ab k q) := fun z => by rw [i5.fin.mpr z] at c107; exact absurd c107 (by decide)
        refine mm_iload_n (pc := 122) dX2_checkBody_122 rfl ?_
        refine mm_if_eq (pc := 123) (tgt := 135) dX2_checkBody_123 (by decide) (fun c123 => ?_) (fun c123 => ?_)
        · have hb3 : ¬ exA ab k (c4 M ab k q) := fun z => by rw [i4.fin.mpr z] at c123; exact absurd c123 (by decide)
          refine mm_vret (pc := 135) dX2_checkBody_135 rfl ?_
          exact ⟨0, Or.inr (Or.inr (Or.inr ⟨h96, hb2, hb3, rfl⟩)), rfl, C, hC, k2.refl C, rfl, Or.inl ⟨rfl, h00⟩⟩
        · have hb3 : exA ab k (c4 M ab k q) := i4.fin.mp (by cases z : b3 with
            | true => rfl
            | false => rw [z] at c123; exact absurd rfl c123)
          refine mm_aload_n (pc := 126) dX2_checkBody_126 rfl (by first | trivial | assumption | exact mm_isr_rf _) ?_
          refine mm_iconst (pc := 127) (v := 4) dX2_checkBody_127 (by decide) ?_
          refine mm_aload_n (pc := 128) dX2_checkBody_128 rfl (by first | trivial | assumption | exact mm_isr_rf _) ?_
          refine cw_gi (pc := 129) 1 g 4 hC (rfl) rfl (n1) dX2_checkBody_129 fl_X2_127 rfl rfl rfl ?_
          refine mm_topi _ hbd.2.2.2.2.2.1 ?_
          refine mm_callV (pc := 132) (As := [_, _]) (kd := ?kd_132_5) (fs := ?fs_132_5) dX2_checkBody_132 vl_X2_51 (ck_bl n2 h00 (by decide) hC) ?hc_132_5 ?hk_132_5 rfl rfl (Nat.le_of_ble_eq_true rfl) ?_; (case hc_132_5 => exact cw_cell (f := 2) hC rfl rfl n2); (case hk_132_5 => rfl)
          rintro _ h132 ⟨rfl, C1, hC, y2, e_, hx, hp⟩
          refine mm_vret (pc := 135) dX2_checkBody_135 rfl ?_
          exact ⟨4, Or.inr (Or.inr (Or.inl ⟨h96, hb2, hb3, rfl⟩)), rfl, C1, hC, y2, e_, Or.inr ⟨by decide, hx, hp⟩⟩
      · have hb2 : exA ab k (c5 M ab k q) := i5.fin.mp (by cases z : b2 with
          | true => rfl
          | false => rw [z] at c107; exact absurd rfl c107)
        refine mm_aload_n (pc := 110) dX2_checkBody_110 rfl (by first | trivial | assumption | exact mm_isr_rf _) ?_
        refine mm_iconst (pc := 111) (v := 5) dX2_checkBody_111 (by decide) ?_
        refine mm_aload_n (pc := 112) dX2_checkBody_112 rfl (by first | trivial | assumption | exact mm_isr_rf _) ?_
        refine cw_gi (pc := 113) 1 g 4 hC (rfl) rfl (n1) dX2_checkBody_113 fl_X2_127 rfl rfl rfl ?_
        refine mm_topi _ hbd.2.2.2.2.2.1 ?_
        refine mm_callV (pc := 116) (As := [_, _]) (kd := ?kd_116_6) (fs := ?fs_116_6) dX2_checkBody_116 vl_X2_51 (ck_bl n2 h00 (by decide) hC) ?hc_116_6 ?hk_116_6 rfl rfl (Nat.le_of_ble_eq_true rfl) ?_; (case hc_116_6 => exact cw_cell (f := 2) hC rfl rfl n2); (case hk_116_6 => rfl)
        rintro _ h116 ⟨rfl, C1, hC, y2, e_, hx, hp⟩
        refine mm_goto (pc := 119) (tgt := 135) dX2_checkBody_119 (by decide) ?_
        refine mm_vret (pc := 135) dX2_checkBody_135 rfl ?_
        exact ⟨5, Or.inr (Or.inl ⟨h96, hb2, rfl⟩), rfl, C1, hC, y2, e_, Or.inr ⟨by decide, hx, hp⟩⟩
    | some x =>
      have hx : x < n := hn
      have mx : x < cN C 4 := by have := hE.1.2.2.1; omega
      have habx : cR C 4 x 5 = (ab x).map (ad 4) := (hE.2.1 x hx).1.2.2.1
      have hsf : xb (cL C 1 g 7) x = ovB ab (rm_E M q) k x := by rw [← heq]; exact (hE.2.1 k hk).2 q hq6 hhas x (by omega)
      refine mm_aload (pc := 38) dX2_checkBody_38 rfl (by first | trivial | assumption | exact mm_isr_rf _) ?_
      refine mm_ifnull (pc := 40) (tgt := 106) dX2_checkBody_40 (by decide) (by first | trivial | assumption | exact mm_isr_rf _) (fun c40 => by cases c40) (fun a40 c40 => ?_)
      refine mm_aload (pc := 43) dX2_checkBody_43 rfl (by first | trivial | assumption | exact mm_isr_rf _) ?_
      refine mm_aload_n (pc := 45) dX2_checkBody_45 rfl (by first | trivial | assumption | exact mm_isr_rf _) ?_
      refine cw_gi (pc := 46) 1 g 1 hC (rfl) rfl (n1) dX2_checkBody_46 fl_X2_120 rfl rfl rfl ?_
      refine mm_topi _ hq1 ?_
      refine mm_callV (pc := 49) (As := [_]) (kd := ?kd_49_7) (fs := ?fs_49_7) dX2_checkBody_49 vl_X2_123 (ck_bo hE hC hx hq6) ?hc_49_7 ?hk_49_7 rfl rfl (Nat.le_of_ble_eq_true rfl) ?_; (case hc_49_7 => exact cw_cell (f := 4) hC rfl rfl mx); (case hk_49_7 => rfl)
      rintro _ _ ⟨rfl, rfl⟩
      refine mm_astore (pc := 52) dX2_checkBody_52 (by first | trivial | assumption | exact mm_isr_rf _) rfl (Nat.le_of_ble_eq_true rfl) ?_
      refine mm_aload (pc := 54) dX2_checkBody_54 rfl (by first | trivial | assumption | exact mm_isr_rf _) ?_
      refine mm_ifnull (pc := 56) (tgt := 96) dX2_checkBody_56 (by decide) (by first | trivial | assumption | exact mm_isr_rf _) (fun c56 => ?_) (fun a56 c56 => ?_)
      · have hhx : rm_has M q x = false := by
          rw [← xbo_is (ad := ad)]
          cases z : xbo ad M x q with
          | none => rfl
          | some y => rw [z] at c56; cases c56
        refine mm_aload (pc := 96) dX2_checkBody_96 rfl (by first | trivial | assumption | exact mm_isr_rf _) ?_
        refine cw_gr (pc := 98) (v := va_rf ((ab x).map (ad 4))) 4 x 5 hC (rfl) rfl (mx) dX2_checkBody_98 fl_X2_128 rfl rfl rfl (congrArg va_rf habx) ?_
        refine mm_astore (pc := 101) dX2_checkBody_101 (by first | trivial | assumption | exact mm_isr_rf _) rfl (Nat.le_of_ble_eq_true rfl) ?_
        refine mm_goto (pc := 103) (tgt := 38) dX2_checkBody_103 (by decide) ?_
        exact mm_weakK (ih (ab x) b2 b3 (by
          cases z : ab x with
          | none => trivial
          | some w => exact Nat.lt_of_lt_of_le (hE.1.1 x w hx z) (by have : x < f + 1 := hf; omega)) (kf_ab hE.1.1 hx) (i5.step (b' := b2) ⟨Or.inl, fun z => z.elim id (fun y => absurd y (fun y_ => by have := y_.1; rw [hhx] at this; cases this))⟩) (i4.step (b' := b3) ⟨Or.inl, fun z => z.elim id (fun y => absurd y (fun y_ => by have := y_.1; rw [hhx] at this; cases this))⟩)) (And.intro rfl (And.intro rfl (And.intro rfl (And.intro rfl (And.intro rfl trivial)))))
      · have hhx : rm_has M q x = true := by
          rw [← xbo_is (ad := ad)]
          cases z : xbo ad M x q with
          | none => rw [z] at c56; cases c56
          | some y => rfl
        have hxx : xbo ad M x q = some (ad 1 (gb M x q)) := if_pos hhx
        have hgbx := (hE.2.2.2.2.1 x hx).g hE.2.2.2.1.2 hq6 hhx
        have hgx : gb M x q < cN C 1 := by rw [h1k]; exact hgbx.2.1
        have hbx := hE.2.2.1 (gb M x q) hgx
        have hl10 : cI C 1 (gb M x q) 3 = bI (decide (M.2.2.1 10 (6 * x + q) = 1)) := by
          rw [hbx.2.2.2.2.1, ← hgbx.2.2.2.2.2.1]
          rcases hb10 (6 * x + q) with z | z <;> rw [z] <;> decide
        have hr9 : cI C 1 g 2 = M.2.2.1 9 (6 * k + q) := by rw [hbd.2.2.2.1, hgb.2.2.2.2.1, heq]
        have hr9x : cI C 1 (gb M x q) 2 = M.2.2.1 9 (6 * x + q) := by rw [hbx.2.2.2.1, hgbx.2.2.2.2.1]
        have e5_ := bI_or b2 (decide (M.2.2.1 10 (6 * x + q) = 1))
        rw [show va_rf (xbo ad M x q) = .ref (ad 1 (gb M x q)) by rw [hxx]; rfl]
        refine mm_aload_n (pc := 59) dX2_checkBody_59 rfl (by first | trivial | assumption | exact mm_isr_rf _) ?_
        refine mm_aload (pc := 60) dX2_checkBody_60 rfl (by first | trivial | assumption | exact mm_isr_rf _) ?_
        refine mm_callV (pc := 62) (As := [_]) (kd := ?kd_62_8) (fs := ?fs_62_8) dX2_checkBody_62 vl_X2_131 (ck_sf (d := d + 1) hE hC hx n1) ?hc_62_8 ?hk_62_8 rfl rfl (Nat.le_of_ble_eq_true rfl) ?_; (case hc_62_8 => exact cw_cell (f := 1) hC rfl rfl n1); (case hk_62_8 => rfl)
        rintro _ _ ⟨rfl, rfl⟩
        refine mm_if_eq (pc := 65) (tgt := 96) dX2_checkBody_65 (by decide) (fun c65 => ?_) (fun c65 => ?_)
        · have hov : ¬ ovB ab (rm_E M q) k x = true := fun z => by rw [hsf, z] at c65; exact absurd c65 (by decide)
          refine mm_aload (pc := 96) dX2_checkBody_96 rfl (by first | trivial | assumption | exact mm_isr_rf _) ?_
          refine cw_gr (pc := 98) (v := va_rf ((ab x).map (ad 4))) 4 x 5 hC (rfl) rfl (mx) dX2_checkBody_98 fl_X2_128 rfl rfl rfl (congrArg va_rf habx) ?_
          refine mm_astore (pc := 101) dX2_checkBody_101 (by first | trivial | assumption | exact mm_isr_rf _) rfl (Nat.le_of_ble_eq_true rfl) ?_
          refine mm_goto (pc := 103) (tgt := 38) dX2_checkBody_103 (by decide) ?_
          exact mm_weakK (ih (ab x) b2 b3 (by
            cases z : ab x with
            | none => trivial
            | some w => exact Nat.lt_of_lt_of_le (hE.1.1 x w hx z) (by have : x < f + 1 := hf; omega)) (kf_ab hE.1.1 hx) (i5.step (b' := b2) ⟨Or.inl, fun z => z.elim id (fun y => absurd y (fun y_ => hov y_.2.1))⟩) (i4.step (b' := b3) ⟨Or.inl, fun z => z.elim id (fun y => absurd y (fun y_ => hov y_.2.1))⟩)) (And.intro rfl (And.intro rfl (And.intro rfl (And.intro rfl (And.intro rfl trivial)))))
        · have hov : ovB ab (rm_E M q) k x = true := by
            cases z : ovB ab (rm_E M q) k x with
            | true => rfl
            | false => rw [hsf, z] at c65; exact absurd rfl c65
          refine mm_iload_n (pc := 68) dX2_checkBody_68 rfl ?_
          refine mm_aload (pc := 69) dX2_checkBody_69 rfl (by first | trivial | assumption | exact mm_isr_rf _) ?_
          refine cw_gi (pc := 71) 1 (gb M x q) 3 hC (rfl) rfl (hgx) dX2_checkBody_71 fl_X2_135 rfl rfl rfl ?_
          refine mm_topi _ hl10 ?_
          refine mm_ior (pc := 74) dX2_checkBody_74 ?_
          refine mm_istore_n (pc := 75) dX2_checkBody_75 rfl (Nat.le_of_ble_eq_true rfl) ?_
          refine mm_iload_n (pc := 76) dX2_checkBody_76 rfl ?_
          refine mm_aload_n (pc := 77) dX2_checkBody_77 rfl (by first | trivial | assumption | exact mm_isr_rf _) ?_
          refine cw_gi (pc := 78) 1 g 2 hC (rfl) rfl (n1) dX2_checkBody_78 fl_X2_138 rfl rfl rfl ?_
          refine mm_topi _ hr9 ?_
          refine mm_aload (pc := 81) dX2_checkBody_81 rfl (by first | trivial | assumption | exact mm_isr_rf _) ?_
          refine cw_gi (pc := 83) 1 (gb M x q) 2 hC (rfl) rfl (hgx) dX2_checkBody_83 fl_X2_138 rfl rfl rfl ?_
          refine mm_topi _ hr9x ?_
          refine mm_icmp_le (pc := 86) (tgt := 93) dX2_checkBody_86 (by decide) (fun c86 => ?_) (fun c86 => ?_)
          · have hcmp : ¬ M.2.2.1 9 (6 * x + q) < M.2.2.1 9 (6 * k + q) := fun z => absurd c86 (Int32.not_le.mpr z)
            refine mm_iconst (pc := 93) (v := 0) dX2_checkBody_93 (by decide) ?_
            refine mm_ior (pc := 94) dX2_checkBody_94 ?_
            refine mm_istore_n (pc := 95) dX2_checkBody_95 rfl (Nat.le_of_ble_eq_true rfl) ?_
            refine mm_aload (pc := 96) dX2_checkBody_96 rfl (by first | trivial | assumption | exact mm_isr_rf _) ?_
            refine cw_gr (pc := 98) (v := va_rf ((ab x).map (ad 4))) 4 x 5 hC (rfl) rfl (mx) dX2_checkBody_98 fl_X2_128 rfl rfl rfl (congrArg va_rf habx) ?_
            refine mm_astore (pc := 101) dX2_checkBody_101 (by first | trivial | assumption | exact mm_isr_rf _) rfl (Nat.le_of_ble_eq_true rfl) ?_
            refine mm_goto (pc := 103) (tgt := 38) dX2_checkBody_103 (by decide) ?_
            have h5 : (b2 || decide (M.2.2.1 10 (6 * x + q) = 1)) = true ↔ b2 = true ∨ c5 M ab k q x := by
              rw [Bool.or_eq_true_iff, decide_eq_true_iff]
              exact ⟨fun z => z.elim Or.inl (fun y => Or.inr ⟨hhx, hov, y⟩), fun z => z.elim Or.inl (fun y => Or.inr y.2.2)⟩
            have h4 : (b3 || false) = true ↔ b3 = true ∨ c4 M ab k q x := by
              rw [Bool.or_eq_true_iff]
              exact ⟨fun z => z.elim Or.inl (fun y => absurd y (by decide)), fun z => z.elim Or.inl (fun y => absurd y.2.2 hcmp)⟩
            exact mm_weakK (ih (ab x) (b2 || decide (M.2.2.1 10 (6 * x + q) = 1)) (b3 || false) (by
              cases z : ab x with
              | none => trivial
              | some w => exact Nat.lt_of_lt_of_le (hE.1.1 x w hx z) (by have : x < f + 1 := hf; omega)) (kf_ab hE.1.1 hx) (i5.step h5) (i4.step h4)) (And.intro rfl (And.intro rfl (And.intro (congrArg (fun z => some (Value.int z)) e5_) (And.intro (congrArg (fun z => some (Value.int z)) (bI_or b3 false)) (And.intro rfl trivial)))))
          · have hcmp : M.2.2.1 9 (6 * x + q) < M.2.2.1 9 (6 * k + q) := Int32.not_le.mp c86
            refine mm_iconst (pc := 89) (v := 1) dX2_checkBody_89 (by decide) ?_
            refine mm_goto (pc := 90) (tgt := 94) dX2_checkBody_90 (by decide) ?_
            refine mm_ior (pc := 94) dX2_checkBody_94 ?_
            refine mm_istore_n (pc := 95) dX2_checkBody_95 rfl (Nat.le_of_ble_eq_true rfl) ?_
            refine mm_aload (pc := 96) dX2_checkBody_96 rfl (by first | trivial | assumption | exact mm_isr_rf _) ?_
            refine cw_gr (pc := 98) (v := va_rf ((ab x).map (ad 4))) 4 x 5 hC (rfl) rfl (mx) dX2_checkBody_98 fl_X2_128 rfl rfl rfl (congrArg va_rf habx) ?_
            refine mm_astore (pc := 101) dX2_checkBody_101 (by first | trivial | assumption | exact mm_isr_rf _) rfl (Nat.le_of_ble_eq_true rfl) ?_
            refine mm_goto (pc := 103) (tgt := 38) dX2_checkBody_103 (by decide) ?_
            have h5 : (b2 || decide (M.2.2.1 10 (6 * x + q) = 1)) = true ↔ b2 = true ∨ c5 M ab k q x := by
              rw [Bool.or_eq_true_iff, decide_eq_true_iff]
              exact ⟨fun z => z.elim Or.inl (fun y => Or.inr ⟨hhx, hov, y⟩), fun z => z.elim Or.inl (fun y => Or.inr y.2.2)⟩
            have h4 : (b3 || true) = true ↔ b3 = true ∨ c4 M ab k q x := by
              rw [Bool.or_eq_true_iff]
              exact ⟨fun z => z.elim Or.inl (fun y => Or.inr ⟨hhx, hov, hcmp⟩), fun z => z.elim Or.inl (fun y => Or.inr rfl)⟩
            exact mm_weakK (ih (ab x) (b2 || decide (M.2.2.1 10 (6 * x + q) = 1)) (b3 || true) (by
              cases z : ab x with
              | none => trivial
              | some w => exact Nat.lt_of_lt_of_le (hE.1.1 x w hx z) (by have : x < f + 1 := hf; omega)) (kf_ab hE.1.1 hx) (i5.step h5) (i4.step h4)) (And.intro rfl (And.intro rfl (And.intro (congrArg (fun z => some (Value.int z)) e5_) (And.intro (congrArg (fun z => some (Value.int z)) (bI_or b3 true)) (And.intro rfl trivial)))))

theorem kf_ab64 {ab : Nat → Option Nat} {n k : Nat} (h : kf_ok ab n) (hk : k < n) (hn : n ≤ 64) : kf_lt 64 (ab k) := by
  cases z : ab k with
  | none => trivial
  | some x => exact Nat.lt_trans (h k x hk z) (by omega)

theorem cbd_0 {G : mm_G} {L : Nat × Nat} {d : Nat} {h : mm_H} {h0 : mm_H} {ad : Nat → Nat → Nat} {C : cw_C} {M : mw_S} {ab : Nat → Option Nat} {n k q g : Nat} (hE : ckE ad C M ab n) (n2 : 0 < cN C 2) (h00 : cI C 2 0 0 = 0) (hk : k < n) (hq6 : q < 6) (n1 : g < cN C 1) (hyK : yK M g = k) (h99 : M.2.2.1 99 g = nI q) (hhas : rm_has M q k = true) (h96 : M.2.2.1 96 g = 0) (heq : gb M k q = g) (hb10 : ∀ i, M.2.2.1 10 i = 0 ∨ M.2.2.1 10 i = 1) (hC : cw ad h0 C h) : mm_Ok G mX2_checkBody L (d + 3) [.ref (ad 2 0), .ref (ad 1 g)] h (fun r h1 => ∃ f, cB M ab k q g f ∧ ck1 ad h0 C h f (M.2.2.1 107 g) r h1) := by
  refine mm_Ok.of [(0, .ref (ad 2 0)), (1, .ref (ad 1 g))] rfl kX2_checkBody.2.2.2.2.2 rfl (fun A => ?_)
  have hbd := hE.2.2.1 g n1
  have hn50 := hE.1.2.1
  have n4 : k < cN C 4 := by have := hE.1.2.2.1; omega
  have hk0 : cR C 1 g 0 = some (ad 4 k) := by rw [← hyK]; exact hbd.1
  have hq1 : cI C 1 g 1 = nI q := by rw [hbd.2.2.1]; exact h99
  have hxb : xbo ad M k q = some (ad 1 (gb M k q)) := if_pos hhas
  have hgb := (hE.2.2.2.2.1 k hk).g hE.2.2.2.1.2 hq6 hhas
  have h1k := hE.2.2.2.1.1
  have habk : cR C 4 k 5 = (ab k).map (ad 4) := (hE.2.1 k hk).1.2.2.1
  refine mm_aload_n (pc := 0) dX2_checkBody_0 rfl (by first | trivial | assumption | exact mm_isr_rf _) ?_
  refine cw_grS (pc := 1) 1 g 0 hC (rfl) rfl (n1) dX2_checkBody_1 fl_X2_116 rfl rfl rfl (hk0) ?_
  refine mm_aload_n (pc := 4) dX2_checkBody_4 rfl (by first | trivial | assumption | exact mm_isr_rf _) ?_
  refine cw_gi (pc := 5) 1 g 1 hC (rfl) rfl (n1) dX2_checkBody_5 fl_X2_120 rfl rfl rfl ?_
  refine mm_topi _ hq1 ?_
  refine mm_callV (pc := 8) (As := [_]) (kd := ?kd_8_9) (fs := ?fs_8_9) dX2_checkBody_8 vl_X2_123 (ck_bo hE hC hk hq6) ?hc_8_9 ?hk_8_9 rfl rfl (Nat.le_of_ble_eq_true rfl) ?_; (case hc_8_9 => exact cw_cell (f := 4) hC rfl rfl n4); (case hk_8_9 => rfl)
  rintro _ _ ⟨rfl, rfl⟩
  rw [show va_rf (xbo ad M k q) = .ref (ad 1 g) by rw [hxb, heq]; rfl]
  refine mm_aload_n (pc := 11) dX2_checkBody_11 rfl (by first | trivial | assumption | exact mm_isr_rf _) ?_
  refine mm_acmp_eq (pc := 12) (tgt := 25) dX2_checkBody_12 (by decide) (by first | trivial | assumption | exact mm_isr_rf _) (by first | trivial | assumption | exact mm_isr_rf _) (fun c12 => ?_) (fun c12 => absurd rfl c12)
  refine mm_iconst (pc := 25) (v := 0) dX2_checkBody_25 (by decide) ?_
  refine mm_istore_n (pc := 26) dX2_checkBody_26 rfl (Nat.le_of_ble_eq_true rfl) ?_
  refine mm_iconst (pc := 27) (v := 0) dX2_checkBody_27 (by decide) ?_
  refine mm_istore_n (pc := 28) dX2_checkBody_28 rfl (Nat.le_of_ble_eq_true rfl) ?_
  refine mm_aload_n (pc := 29) dX2_checkBody_29 rfl (by first | trivial | assumption | exact mm_isr_rf _) ?_
  refine cw_grS (pc := 30) 1 g 0 hC (rfl) rfl (n1) dX2_checkBody_30 fl_X2_116 rfl rfl rfl (hk0) ?_
  refine cw_gr (pc := 33) (v := va_rf ((ab k).map (ad 4))) 4 k 5 hC (rfl) rfl (n4) dX2_checkBody_33 fl_X2_128 rfl rfl rfl (congrArg va_rf habk) ?_
  refine mm_astore (pc := 36) dX2_checkBody_36 (by first | trivial | assumption | exact mm_isr_rf _) rfl (Nat.le_of_ble_eq_true rfl) ?_
  exact mm_weakK (cbd_loop hE n2 h00 hk hq6 n1 hyK h99 hhas h96 heq hb10 hC 64 (ab k) false false (kf_ab64 hE.1.1 hk (by omega)) (kf_ab hE.1.1 hk) riv.zero riv.zero) (And.intro rfl (And.intro rfl (And.intro rfl (And.intro rfl (And.intro rfl trivial)))))

theorem cbd_ok {G : mm_G} {L : Nat × Nat} {d : Nat} {h : mm_H} {h0 : mm_H} {ad : Nat → Nat → Nat} {C : cw_C} {M : mw_S} {ab : Nat → Option Nat} {n k q g : Nat} (hE : ckE ad C M ab n) (n2 : 0 < cN C 2) (h00 : cI C 2 0 0 = 0) (hk : k < n) (hq6 : q < 6) (n1 : g < cN C 1) (hyK : yK M g = k) (h99 : M.2.2.1 99 g = nI q) (hhas : rm_has M q k = true) (hX : riX M g (6 * k + q)) (hg2 : g < 2 ^ 30) (hb10 : ∀ i, M.2.2.1 10 i = 0 ∨ M.2.2.1 10 i = 1) (hC : cw ad h0 C h) : mm_Ok G mX2_checkBody L (d + 3) [.ref (ad 2 0), .ref (ad 1 g)] h (fun r h1 => ∃ f, cB M ab k q g f ∧ ck1 ad h0 C h f (M.2.2.1 107 g) r h1) := by
  rcases hX with ⟨a, b, -⟩ | ⟨a, g', b, c⟩
  · exact cbd_0 hE n2 h00 hk hq6 n1 hyK h99 hhas a (by unfold gb; rw [b, nI_clamp (by omega)]) hb10 hC
  · exact cbd_3 (d := d + 1) hE n2 h00 hk hq6 n1 hyK h99 hhas a (by unfold gb; rw [c, nI_clamp (by omega)]; omega) hC

