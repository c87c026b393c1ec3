/-! the class's checker: a kind's bodies -/
def bOk (M : mw_S) (k g : Nat) : Prop := (yK M g = k ∧ yQ M g < 6 ∧ M.2.2.1 99 g = nI (yQ M g)) ∧ rm_has M (yQ M g) k = true ∧ riX M g (6 * k + yQ M g) ∧ CV M k (yQ M g) 1 (M.2.2.1 108 g) (yS M g) (yE M g) ∧ yE M g ≤ ka M
def gC (M : mw_S) (ab : Nat → Option Nat) (k g : Nat) : Prop := cB M ab k (yQ M g) g 0 ∧ ∀ y, yS M g ≤ y → y < yE M g → cA M ab k (yQ M g) y = 0
def gF (M : mw_S) (ab : Nat → Option Nat) (k g : Nat) (x p : Int32) : Prop := (∃ f, cB M ab k (yQ M g) g f ∧ ¬ f = 0 ∧ x = nI f ∧ p = M.2.2.1 107 g) ∨ (cB M ab k (yQ M g) g 0 ∧ aF M ab k (yQ M g) (yS M g) (yE M g) x p)
def bF (M : mw_S) (ab : Nat → Option Nat) (k g1 g2 : Nat) (x p : Int32) : Prop := (x = 0 ∧ ∀ g, g1 ≤ g → g < g2 → gC M ab k g) ∨ ∃ g, g1 ≤ g ∧ g < g2 ∧ (∀ g', g1 ≤ g' → g' < g → gC M ab k g') ∧ gF M ab k g x p ∧ ¬ x = 0
theorem cB_le {M : mw_S} {ab : Nat → Option Nat} {k q g f : Nat} (h : cB M ab k q g f) : f ≤ 7 := by
  rcases h with ⟨-, h⟩ | ⟨-, -, h⟩ | ⟨-, -, -, h⟩ | ⟨-, -, -, h⟩ <;> omega
theorem bF.cons {M : mw_S} {ab : Nat → Option Nat} {k g T : Nat} {x p : Int32} (hc : gC M ab k g) (h : bF M ab k (g + 1) T x p) : bF M ab k g T x p := by
  rcases h with ⟨a, b⟩ | ⟨g', a, b, c, d⟩
  · refine Or.inl ⟨a, fun z z1 z2 => ?_⟩
    by_cases e : z = g
    · rw [e]; exact hc
    · exact b z (by omega) z2
  · refine Or.inr ⟨g', by omega, b, fun z z1 z2 => ?_, d⟩
    by_cases e : z = g
    · rw [e]; exact hc
    · exact c z (by omega) z2
theorem bF.bad {M : mw_S} {ab : Nat → Option Nat} {k g T : Nat} {x p : Int32} (h : gF M ab k g x p) (hx : ¬ x = 0) (hg : g < T) : bF M ab k g T x p := Or.inr ⟨g, Nat.le_refl _, hg, fun z z1 z2 => by omega, h, hx⟩
def bP (ad : Nat → Nat → Nat) (h0 : mm_H) (C : cw_C) (h : mm_H) (M : mw_S) (ab : Nat → Option Nat) (k g T : Nat) (r : Option Value) (h1 : mm_H) : Prop := r = none ∧ ∃ C1, cw ad h0 C1 h1 ∧ k2 C C1 ∧ h1.2 = h.2 ∧ bF M ab k g T (cI C1 2 0 0) (cI C1 2 0 1)

theorem ckb_d80N {G : mm_G} {L : Nat × Nat} {d : Nat} {h : mm_H} {A : Nat → Prop} {h0 : mm_H} {ad : Nat → Nat → Nat} {C : cw_C} (n2 : 0 < cN C 2) (hx : ¬ cI C 2 0 0 = 0) (hC : cw ad h0 C h) : mm_Run G mX2_checkKind A L d 80 [(0, .ref (ad 2 0)), (4, .null)] [] h (fun r h1 => r = none ∧ h1 = h) := by
  refine mm_aload (pc := 80) dX2_checkKind_80 rfl (by first | trivial | assumption | exact mm_isr_rf _) ?_
  refine mm_ifnull (pc := 82) (tgt := 120) dX2_checkKind_82 (by decide) (by first | trivial | assumption | exact mm_isr_rf _) (fun c82 => ?_) (fun a82 c82 => by cases c82)
  refine mm_vret (pc := 120) dX2_checkKind_120 rfl ?_
  exact ⟨rfl, rfl⟩

theorem ckb_d80S {G : mm_G} {L : Nat × Nat} {d : Nat} {h : mm_H} {A : Nat → Prop} {h0 : mm_H} {ad : Nat → Nat → Nat} {C : cw_C} {a : Nat} (n2 : 0 < cN C 2) (hx : ¬ cI C 2 0 0 = 0) (hC : cw ad h0 C h) : mm_Run G mX2_checkKind A L d 80 [(0, .ref (ad 2 0)), (4, .ref a)] [] h (fun r h1 => r = none ∧ h1 = h) := by
  refine mm_aload (pc := 80) dX2_checkKind_80 rfl (by first | trivial | assumption | exact mm_isr_rf _) ?_
  refine mm_ifnull (pc := 82) (tgt := 120) dX2_checkKind_82 (by decide) (by first | trivial | assumption | exact mm_isr_rf _) (fun c82 => by cases c82) (fun a82 c82 => ?_)
  refine mm_aload_n (pc := 85) dX2_checkKind_85 rfl (by first | trivial | assumption | exact mm_isr_rf _) ?_
  refine cw_gi (pc := 86) 2 _ 0 hC (rfl) rfl (n2) dX2_checkKind_86 fl_X2_9 rfl rfl rfl ?_
  refine mm_if_ne (pc := 89) (tgt := 120) dX2_checkKind_89 (by decide) (fun c89 => ?_) (fun c89 => absurd c89 hx)
  refine mm_vret (pc := 120) dX2_checkKind_120 rfl ?_
  exact ⟨rfl, rfl⟩

theorem ckb_d80 {G : mm_G} {L : Nat × Nat} {d : Nat} {h : mm_H} {A : Nat → Prop} {h0 : mm_H} {ad : Nat → Nat → Nat} {C : cw_C} {o : Option Nat} (n2 : 0 < cN C 2) (hx : ¬ cI C 2 0 0 = 0) (hC : cw ad h0 C h) : mm_Run G mX2_checkKind A L d 80 [(0, .ref (ad 2 0)), (4, va_rf o)] [] h (fun r h1 => r = none ∧ h1 = h) := by
  cases o with
  | none => exact ckb_d80N n2 hx hC
  | some a => exact ckb_d80S n2 hx hC

theorem ckb_loop {G : mm_G} {L : Nat × Nat} {d : Nat} {h0 : mm_H} {A : Nat → Prop} {ad : Nat → Nat → Nat} {M : mw_S} {ab : Nat → Option Nat} {k g0 T : Nat} (hb10 : ∀ i, M.2.2.1 10 i = 0 ∨ M.2.2.1 10 i = 1) (hbo : ∀ g, g0 ≤ g → g < T → bOk M k g) (hT : T ≤ kg M) : ∀ (v g : Nat) (C : cw_C) (h : mm_H), g + v = T → g0 ≤ g → ckE ad C M ab (k + 1) → 0 < cN C 2 → cI C 2 0 0 = 0 → (∀ g', g ≤ g' → g' < T → cR C 1 g' 8 = if g' + 1 < T then some (ad 1 (g' + 1)) else none) → cw ad h0 C h → mm_Run G mX2_checkKind A L (d + 10) 80 [(0, .ref (ad 2 0)), (4, va_rf (if g < T then some (ad 1 g) else none))] [] h (fun r h1 => bP ad h0 C h M ab k g T r h1) := by
  intro v
  induction v with
  | zero =>
    intro g C h hv hg0 hE n2 h00 hch hC
    rw [if_neg (by omega)]
    refine mm_aload (pc := 80) dX2_checkKind_80 rfl (by first | trivial | assumption | exact mm_isr_rf _) ?_
    refine mm_ifnull (pc := 82) (tgt := 120) dX2_checkKind_82 (by decide) (by first | trivial | assumption | exact mm_isr_rf _) (fun c82 => ?_) (fun a82 c82 => by cases c82)
    refine mm_vret (pc := 120) dX2_checkKind_120 rfl ?_
    exact ⟨rfl, C, hC, k2.refl C, rfl, Or.inl ⟨h00, fun g_ z1 z2 => by omega⟩⟩
  | succ v ih =>
    intro g C h hv hg0 hE n2 h00 hch hC
    rw [if_pos (by omega)]
    have hkg := hE.2.2.2.1
    have n1 : g < cN C 1 := by omega
    have hb_ := hbo g hg0 (by omega)
    obtain ⟨fu, hcov⟩ := hb_.2.2.2.1
    refine mm_aload (pc := 80) dX2_checkKind_80 rfl (by first | trivial | assumption | exact mm_isr_rf _) ?_
    refine mm_ifnull (pc := 82) (tgt := 120) dX2_checkKind_82 (by decide) (by first | trivial | assumption | exact mm_isr_rf _) (fun c82 => by cases c82) (fun a82 c82 => ?_)
    refine mm_aload_n (pc := 85) dX2_checkKind_85 rfl (by first | trivial | assumption | exact mm_isr_rf _) ?_
    refine cw_gi (pc := 86) 2 _ 0 hC (rfl) rfl (n2) dX2_checkKind_86 fl_X2_9 rfl rfl rfl ?_
    refine mm_if_ne (pc := 89) (tgt := 120) dX2_checkKind_89 (by decide) (fun c89 => absurd h00 c89) (fun c89 => ?_)
    refine mm_aload_n (pc := 92) dX2_checkKind_92 rfl (by first | trivial | assumption | exact mm_isr_rf _) ?_
    refine mm_aload (pc := 93) dX2_checkKind_93 rfl (by first | trivial | assumption | exact mm_isr_rf _) ?_
    refine mm_callV (pc := 95) (As := [_]) (kd := ?kd_95_1) (fs := ?fs_95_1) dX2_checkKind_95 vl_X2_96 (cbd_ok (d := d + 6) hE n2 h00 (Nat.lt_succ_self k) hb_.1.2.1 n1 hb_.1.1 hb_.1.2.2 hb_.2.1 hb_.2.2.1 (by omega) hb10 hC) ?hc_95_1 ?hk_95_1 rfl rfl (Nat.le_of_ble_eq_true rfl) ?_; (case hc_95_1 => exact cw_cell (f := 2) hC rfl rfl n2); (case hk_95_1 => rfl)
    rintro _ h95 ⟨f_, hcB, rfl, C1, hC, y1, e1, ⟨c1, x1⟩ | ⟨c1, x1, x2⟩⟩
    · obtain rfl := c1
      have hE1 := hE.k2 y1
      have m2_ : 0 < cN C1 2 := by rw [(y1 2).2.1]; exact n2
      have e1_ : C1 1 = C 1 := (y1 1).1 (by decide)
      have m1 : g < cN C1 1 := by rw [cN_o e1_]; exact n1
      have hb1 := hE1.2.2.1 g m1
      refine mm_aload_n (pc := 98) dX2_checkKind_98 rfl (by first | trivial | assumption | exact mm_isr_rf _) ?_
      refine mm_aload (pc := 99) dX2_checkKind_99 rfl (by first | trivial | assumption | exact mm_isr_rf _) ?_
      refine mm_aload (pc := 101) dX2_checkKind_101 rfl (by first | trivial | assumption | exact mm_isr_rf _) ?_
      refine cw_gr (pc := 103) 1 g 5 hC (rfl) rfl (m1) dX2_checkKind_103 fl_X2_100 rfl rfl rfl rfl ?_
      refine mm_iconst (pc := 106) (v := 1) dX2_checkKind_106 (by decide) ?_
      refine mm_callV (pc := 107) (As := [_, _, _]) (kd := ?kd_107_2) (fs := ?fs_107_2) dX2_checkKind_107 vl_X2_106 (rc_of (rc_loop (n := k + 1) (Nat.lt_succ_self k) hb_.1.2.1 (by omega) hb_.1.1 hb_.1.2.2 fu) 6 d 1 (M.2.2.1 108 g) (yS M g) (yE M g) (cR C1 1 g 5) C1 h95 rfl hcov (by rw [← hE1.2.2.2.2.2.N]; exact hb_.2.2.2.2) hb1.2.2.2.2.2.2.1 hE1 m2_ x1 hC) ?hc_107_2 ?hk_107_2 rfl rfl (Nat.le_of_ble_eq_true rfl) ?_; (case hc_107_2 => exact cw_cell (f := 2) hC rfl rfl m2_); (case hk_107_2 => rfl)
      rintro _ h107 ⟨rfl, C2, hC, y2, e2, f2⟩
      have m22 : 0 < cN C2 2 := by rw [(y2 2).2.1]; exact m2_
      have hE2 := hE1.k2 y2
      have e2_ : C2 1 = C 1 := ((y2 1).1 (by decide)).trans e1_
      have m1 : g < cN C2 1 := by rw [cN_o e2_]; exact n1
      refine mm_aload (pc := 110) dX2_checkKind_110 rfl (by first | trivial | assumption | exact mm_isr_rf _) ?_
      refine cw_gr (pc := 112) 1 g 8 hC (rfl) rfl (m1) dX2_checkKind_112 fl_X2_110 rfl rfl rfl rfl ?_
      refine mm_astore (pc := 115) dX2_checkKind_115 (by first | trivial | assumption | exact mm_isr_rf _) rfl (Nat.le_of_ble_eq_true rfl) ?_
      refine mm_goto (pc := 117) (tgt := 80) dX2_checkKind_117 (by decide) ?_
      by_cases hx2 : cI C2 2 0 0 = 0
      · have hgc : gC M ab k g := ⟨hcB, by
          rcases f2 with ⟨-, z⟩ | ⟨y, -, -, -, z1, z2, -⟩
          · exact z
          · exfalso
            have := cA_le (M := M) (ab := ab) (k := k) (q := yQ M g) (y := y)
            rw [hx2] at z2
            exact z1 ((nI_eq (a := 0) (by decide) (by omega)).mp z2).symm⟩
        refine mm_post (fun r_ h_ z_ => ?_) (mm_weakK (ih (g + 1) C2 h107 (by omega) (by omega) hE2 m22 hx2 (fun g' z1 z2 => by rw [cR_o e2_]; exact hch g' (by omega) z2) hC) (And.intro rfl (And.intro (congrArg some (show va_rf (cR C2 1 g 8) = _ by rw [cR_o e2_, hch g (Nat.le_refl _) (by omega)])) trivial)))
        obtain ⟨a_, C3, b_, c_, d_, f_⟩ := z_
        exact ⟨a_, C3, b_, (y1.trans y2).trans c_, by rw [d_, e2, e1], f_.cons hgc⟩
      · refine mm_post (fun r_ h_ z_ => ?_) (mm_weakK (ckb_d80 m22 hx2 hC) (And.intro rfl (And.intro rfl trivial)))
        obtain ⟨rfl, rfl⟩ := z_
        exact ⟨rfl, C2, hC, y1.trans y2, by rw [e2, e1], bF.bad (Or.inr ⟨hcB, f2⟩) hx2 (by omega)⟩
    · have hE1 := hE.k2 y1
      have m2_ : 0 < cN C1 2 := by rw [(y1 2).2.1]; exact n2
      have e1_ : C1 1 = C 1 := (y1 1).1 (by decide)
      have m1 : g < cN C1 1 := by rw [cN_o e1_]; exact n1
      have hb1 := hE1.2.2.1 g m1
      have hx1_ : ¬ cI C1 2 0 0 = 0 := by rw [x1]; exact fun z => c1 ((nI_eq (b := 0) (by have := cB_le hcB; omega) (by decide)).mp z)
      refine mm_aload_n (pc := 98) dX2_checkKind_98 rfl (by first | trivial | assumption | exact mm_isr_rf _) ?_
      refine mm_aload (pc := 99) dX2_checkKind_99 rfl (by first | trivial | assumption | exact mm_isr_rf _) ?_
      refine mm_aload (pc := 101) dX2_checkKind_101 rfl (by first | trivial | assumption | exact mm_isr_rf _) ?_
      refine cw_gr (pc := 103) 1 g 5 hC (rfl) rfl (m1) dX2_checkKind_103 fl_X2_100 rfl rfl rfl rfl ?_
      refine mm_iconst (pc := 106) (v := 1) dX2_checkKind_106 (by decide) ?_
      refine mm_callV (pc := 107) (As := [_, _, _]) (kd := ?kd_107_3) (fs := ?fs_107_3) dX2_checkKind_107 vl_X2_106 (cas_dead m2_ hx1_ hC) ?hc_107_3 ?hk_107_3 rfl rfl (Nat.le_of_ble_eq_true rfl) ?_; (case hc_107_3 => exact cw_cell (f := 2) hC rfl rfl m2_); (case hk_107_3 => rfl)
      rintro _ _ ⟨rfl, rfl⟩
      refine mm_aload (pc := 110) dX2_checkKind_110 rfl (by first | trivial | assumption | exact mm_isr_rf _) ?_
      refine cw_gr (pc := 112) 1 g 8 hC (rfl) rfl (m1) dX2_checkKind_112 fl_X2_110 rfl rfl rfl rfl ?_
      refine mm_astore (pc := 115) dX2_checkKind_115 (by first | trivial | assumption | exact mm_isr_rf _) rfl (Nat.le_of_ble_eq_true rfl) ?_
      refine mm_goto (pc := 117) (tgt := 80) dX2_checkKind_117 (by decide) ?_
      refine mm_post (fun r_ h_ z_ => ?_) (mm_weakK (ckb_d80 m2_ hx1_ hC) (And.intro rfl (And.intro rfl trivial)))
      obtain ⟨rfl, rfl⟩ := z_
      exact ⟨rfl, C1, hC, y1, e1, bF.bad (Or.inl ⟨f_, hcB, c1, x1, x2⟩) hx1_ (by omega)⟩

