/-! a row of actions -/
section RAL
variable {ab : Nat → Option Nat} {M : mw_S} {x : Int32} {f k q deep s e y : Nat}
theorem rnA_neg (h : x < 0) : rnA ab f M x k q = (0, M) := by
  cases f with
  | zero => exact if_pos h
  | succ f => exact if_pos h
theorem rnA_400 (h : ¬ x < 0) (h4 : M.1 67 = 400) : rnA ab f M x k q = (3, M) := by
  cases f with
  | zero => exact if_neg h
  | succ f => exact (if_neg h).trans (if_pos h4)
theorem rnA_s (h : ¬ x < 0) (h4 : ¬ M.1 67 = 400) : rnA ab (f + 1) M x k q = rnN (rnA ab f) (rnS ab (rnA ab f) (mw_setS M 67 (M.1 67 + 1)) x.toNatClampNeg k q) x.toNatClampNeg k q := (if_neg h).trans (if_neg h4)
theorem CV.cs (h : CV M k q deep (nI y) s e) (hy : y < 4000) (he : e ≤ 4000) : dOk M deep y ∧ ∃ m1 m2, m1 ≤ m2 ∧ m2 ≤ e ∧ CV M k q (deep + 1) (M.2.2.1 16 y) (y + 1) m1 ∧ CV M k q (deep + 1) (M.2.2.1 17 y) m1 m2 ∧ CV M k q deep (M.2.2.1 18 y) m2 e := by
  obtain ⟨f, h⟩ := h
  cases f with
  | zero => exact h.elim
  | succ f =>
    rcases h with ⟨h, -⟩ | ⟨h1, h2, h3, h4, m1, m2, p1, p2, p3, c1, c2, c3⟩
    · exact absurd h (fun z => absurd z.symm (neg1 hy))
    · have ey : y = s := (nI_eq (by omega) (by omega)).mp h1
      subst ey
      exact ⟨h3.2, m1, m2, p2, p3, ⟨f, c1⟩, ⟨f, c2⟩, ⟨f, c3⟩⟩
end RAL

theorem ral_dN {G : mm_G} {L : Nat × Nat} {d : Nat} {h : mm_H} {A : Nat → Prop} {w : Int32} (hw : ¬ w = 0) : mm_Run G mX8_runActions A L d 17 [(6, .null), (5, .int w)] [] h (fun r h1 => r = some (.int w) ∧ h1 = h) := by
  refine mm_aload (pc := 17) dX8_runActions_17 rfl (by first | trivial | assumption | exact mm_isr_rf _) ?_
  refine mm_ifnull (pc := 19) (tgt := 71) dX8_runActions_19 (by decide) (by first | trivial | assumption | exact mm_isr_rf _) (fun c19 => ?_) (fun a19 c19 => by cases c19)
  refine mm_iload (pc := 71) dX8_runActions_71 rfl ?_
  refine mm_iret (pc := 73) dX8_runActions_73 rfl ?_
  exact ⟨rfl, rfl⟩

theorem ral_dS {G : mm_G} {L : Nat × Nat} {d : Nat} {h : mm_H} {A : Nat → Prop} {w : Int32} {a : Nat} (hw : ¬ w = 0) : mm_Run G mX8_runActions A L d 17 [(6, .ref a), (5, .int w)] [] h (fun r h1 => r = some (.int w) ∧ h1 = h) := by
  refine mm_aload (pc := 17) dX8_runActions_17 rfl (by first | trivial | assumption | exact mm_isr_rf _) ?_
  refine mm_ifnull (pc := 19) (tgt := 71) dX8_runActions_19 (by decide) (by first | trivial | assumption | exact mm_isr_rf _) (fun c19 => by cases c19) (fun a19 c19 => ?_)
  refine mm_iload (pc := 22) dX8_runActions_22 rfl ?_
  refine mm_if_ne (pc := 24) (tgt := 71) dX8_runActions_24 (by decide) (fun c24 => ?_) (fun c24 => absurd c24 hw)
  refine mm_iload (pc := 71) dX8_runActions_71 rfl ?_
  refine mm_iret (pc := 73) dX8_runActions_73 rfl ?_
  exact ⟨rfl, rfl⟩

theorem ral_d {G : mm_G} {L : Nat × Nat} {d : Nat} {h : mm_H} {A : Nat → Prop} {w : Int32} {o : Option Nat} (hw : ¬ w = 0) : mm_Run G mX8_runActions A L d 17 [(6, va_rf o), (5, .int w)] [] h (fun r h1 => r = some (.int w) ∧ h1 = h) := by
  cases o with
  | none => exact ral_dN hw
  | some a => exact ral_dS hw

def LP_ (G : mm_G) (L : Nat × Nat) (h0 : mm_H) (ad : Nat → Nat → Nat) (ab : Nat → Option Nat) (nk na : Nat) (oK oQ : Nat → Nat) (app K : Nat) (B : rB_T) (e f : Nat) : Prop := ∀ (A : Nat → Prop) (d u deep k q t : Nat) (x : Int32) (s z g : Nat) (C : cw_C) (M : mw_S) (h : mm_H) (o : Option Nat), rHy ad ab nk na oK oQ app K B e f M C t u t → bHy M ab nk K k q → gb M k q = g → rm_lk na oK oQ k q x → CV M k q deep x s z → z ≤ na → deep ≤ 6 → 16 * (12 - u) + 2 * (6 - deep) + 8 ≤ d → lkR ad na x o → cw ad h0 C h → mm_Run G mX8_runActions A L d 17 [(6, va_rf o), (5, .int 0), (4, .int (nI deep)), (3, .int (nI u)), (1, .ref (ad 1 g)), (0, .ref (ad 8 0))] [] h (rO ad h0 h C ab nk app K B (rnA ab f M x k q))

theorem ra_of {G : mm_G} {L : Nat × Nat} {h0 : mm_H} {ad : Nat → Nat → Nat} {ab : Nat → Option Nat} {nk na : Nat} {oK oQ : Nat → Nat} {app K : Nat} {B : rB_T} {e f : Nat} (hLP : LP_ G L h0 ad ab nk na oK oQ app K B e f) : RA_ G L h0 ad ab nk na oK oQ app K B e f := by
  intro d u deep k q t x s z g C M h o H hb hg hl hcv hz hdp hd hlk hC
  cases o with
  | none =>
    refine mm_Ok.of [(0, .ref (ad 8 0)), (1, .ref (ad 1 g)), (2, .null), (3, .int (nI u)), (4, .int (nI deep))] rfl kX8_runActions.2.2.2.2.2 rfl (fun A => ?_)
    refine mm_iload (pc := 0) dX8_runActions_0 rfl ?_
    refine mm_bipush (pc := 2) (v := 6) dX8_runActions_2 (by decide) ?_
    refine mm_icmp_le (pc := 4) (tgt := 11) dX8_runActions_4 (by decide) (fun c4 => ?_) (fun c4 => absurd ((nI_leI (b := 6) (by omega) (by decide)).mpr hdp) c4)
    refine mm_iconst (pc := 11) (v := 0) dX8_runActions_11 (by decide) ?_
    refine mm_istore (pc := 12) dX8_runActions_12 rfl (Nat.le_of_ble_eq_true rfl) ?_
    refine mm_aload_n (pc := 14) dX8_runActions_14 rfl (by first | trivial | assumption | exact mm_isr_rf _) ?_
    refine mm_astore (pc := 15) dX8_runActions_15 (by first | trivial | assumption | exact mm_isr_rf _) rfl (Nat.le_of_ble_eq_true rfl) ?_
    exact mm_weakK (hLP A d u deep k q t x s z g C M h (none) H hb hg hl hcv hz hdp hd hlk hC) (And.intro rfl (And.intro rfl (And.intro rfl (And.intro rfl (And.intro rfl (And.intro rfl trivial))))))
  | some a =>
    refine mm_Ok.of [(0, .ref (ad 8 0)), (1, .ref (ad 1 g)), (2, .ref a), (3, .int (nI u)), (4, .int (nI deep))] rfl kX8_runActions.2.2.2.2.2 rfl (fun A => ?_)
    refine mm_iload (pc := 0) dX8_runActions_0 rfl ?_
    refine mm_bipush (pc := 2) (v := 6) dX8_runActions_2 (by decide) ?_
    refine mm_icmp_le (pc := 4) (tgt := 11) dX8_runActions_4 (by decide) (fun c4 => ?_) (fun c4 => absurd ((nI_leI (b := 6) (by omega) (by decide)).mpr hdp) c4)
    refine mm_iconst (pc := 11) (v := 0) dX8_runActions_11 (by decide) ?_
    refine mm_istore (pc := 12) dX8_runActions_12 rfl (Nat.le_of_ble_eq_true rfl) ?_
    refine mm_aload_n (pc := 14) dX8_runActions_14 rfl (by first | trivial | assumption | exact mm_isr_rf _) ?_
    refine mm_astore (pc := 15) dX8_runActions_15 (by first | trivial | assumption | exact mm_isr_rf _) rfl (Nat.le_of_ble_eq_true rfl) ?_
    exact mm_weakK (hLP A d u deep k q t x s z g C M h (some a) H hb hg hl hcv hz hdp hd hlk hC) (And.intro rfl (And.intro rfl (And.intro rfl (And.intro rfl (And.intro rfl (And.intro rfl trivial))))))

theorem ral_e {G : mm_G} {L : Nat × Nat} {d : Nat} {h : mm_H} {A : Nat → Prop} {h0 : mm_H} {ad : Nat → Nat → Nat} {ab : Nat → Option Nat} {nk na : Nat} {oK oQ : Nat → Nat} {app K : Nat} {B : rB_T} {e f : Nat} {u deep k q t g : Nat} {x : Int32} {C : cw_C} {M : mw_S} (H : rHy ad ab nk na oK oQ app K B e f M C t u t) (hx : x < 0) (hC : cw ad h0 C h) : mm_Run G mX8_runActions A L d 17 [(6, .null), (5, .int 0), (4, .int (nI deep)), (3, .int (nI u)), (1, .ref (ad 1 g)), (0, .ref (ad 8 0))] [] h (rO ad h0 h C ab nk app K B (rnA ab f M x k q)) := by
  refine mm_aload (pc := 17) dX8_runActions_17 rfl (by first | trivial | assumption | exact mm_isr_rf _) ?_
  refine mm_ifnull (pc := 19) (tgt := 71) dX8_runActions_19 (by decide) (by first | trivial | assumption | exact mm_isr_rf _) (fun c19 => ?_) (fun a19 c19 => by cases c19)
  refine mm_iload (pc := 71) dX8_runActions_71 rfl ?_
  refine mm_iret (pc := 73) dX8_runActions_73 rfl ?_
  rw [rnA_neg hx]
  exact ⟨C, t, hC, rfl, rfl, H.2.1.1, H.2.2.2.2.1, rF.refl, fun y => by rcases y with y | y <;> exact absurd y (by show ¬ (0 : Int32) = _; decide)⟩

theorem ral_4 {G : mm_G} {L : Nat × Nat} {d : Nat} {h : mm_H} {A : Nat → Prop} {h0 : mm_H} {ad : Nat → Nat → Nat} {ab : Nat → Option Nat} {nk na : Nat} {oK oQ : Nat → Nat} {app K : Nat} {B : rB_T} {e f : Nat} {u deep k q t g : Nat} {x : Int32} {C : cw_C} {M : mw_S} (H : rHy ad ab nk na oK oQ app K B e f M C t u t) {a : Nat} (hx : ¬ x < 0) (h4 : t = 400) (hC : cw ad h0 C h) : mm_Run G mX8_runActions A L d 17 [(6, .ref a), (5, .int 0), (4, .int (nI deep)), (3, .int (nI u)), (1, .ref (ad 1 g)), (0, .ref (ad 8 0))] [] h (rO ad h0 h C ab nk app K B (rnA ab f M x k q)) := by
  have hX := H.2.2.2.2.1
  have n8 := hX.n8
  have s3 : cI C 8 0 3 = nI t := hX.2.2.1.2.1.2.2.trans H.2.1.1.1
  refine mm_aload (pc := 17) dX8_runActions_17 rfl (by first | trivial | assumption | exact mm_isr_rf _) ?_
  refine mm_ifnull (pc := 19) (tgt := 71) dX8_runActions_19 (by decide) (by first | trivial | assumption | exact mm_isr_rf _) (fun c19 => by cases c19) (fun a19 c19 => ?_)
  refine mm_iload (pc := 22) dX8_runActions_22 rfl ?_
  refine mm_if_ne (pc := 24) (tgt := 71) dX8_runActions_24 (by decide) (fun c24 => absurd rfl c24) (fun c24 => ?_)
  refine mm_aload_n (pc := 27) dX8_runActions_27 rfl (by first | trivial | assumption | exact mm_isr_rf _) ?_
  refine cw_gi (pc := 28) 8 _ 3 hC (rfl) rfl (n8) dX8_runActions_28 fl_X8_21 rfl rfl rfl ?_
  refine mm_topi _ s3 ?_
  refine mm_sipush (pc := 31) (v := 400) dX8_runActions_31 (by decide) ?_
  refine mm_icmp_lt (pc := 34) (tgt := 39) dX8_runActions_34 (by decide) (fun c34 => absurd c34 (fun z => absurd ((nI_ltI (b := 400) (by omega) (by decide)).mp z) (by omega))) (fun c34 => ?_)
  refine mm_iconst (pc := 37) (v := 3) dX8_runActions_37 (by decide) ?_
  refine mm_iret (pc := 38) dX8_runActions_38 rfl ?_
  rw [rnA_400 hx (by rw [H.2.1.1.1, h4]; rfl)]
  exact ⟨C, t, hC, rfl, rfl, H.2.1.1, hX, rF.refl, fun y => by rcases y with y | y <;> exact absurd y (by show ¬ (3 : Int32) = _; decide)⟩

theorem rlp_ok {G : mm_G} {L : Nat × Nat} {h0 : mm_H} {ad : Nat → Nat → Nat} {ab : Nat → Option Nat} {nk na : Nat} {oK oQ : Nat → Nat} {app K : Nat} {B : rB_T} {e f : Nat} : LP_ G L h0 ad ab nk na oK oQ app K B e f := by
  induction f with
  | zero =>
    intro A d u deep k q t x s z g C M h o H hb hg hl hcv hz hdp hd hlk hC
    rcases hlk with ⟨hx, rfl⟩ | ⟨y, hy, rfl, rfl⟩
    · exact ral_e H hx hC
    · exact ral_4 H (nI_pos (by have := H.1.2.1.1; omega)) (by have := H.2.2.1; have := H.2.1.1.2; omega) hC
  | succ f ih =>
    intro A d u deep k q t x s z g C M h o H hb hg hl hcv hz hdp hd hlk hC
    rcases hlk with ⟨hx, rfl⟩ | ⟨y, hy, rfl, rfl⟩
    · exact ral_e H hx hC
    have hna : na ≤ 4000 := H.1.2.1.1
    by_cases h4 : t = 400
    · exact ral_4 H (nI_pos (by omega)) h4 hC
    · have ihf := @ih
      have ht4 : t ≤ 400 := H.2.1.1.2
      have hX := H.2.2.2.2.1
      have n8 := hX.n8
      have s3 : cI C 8 0 3 = nI t := hX.2.2.1.2.1.2.2.trans H.2.1.1.1
      have hn4 : ¬ M.1 67 = 400 := by rw [H.2.1.1.1]; exact nI_ne (b := 400) h4 (by omega) (by decide)
      obtain ⟨hdk, m1, m2, hm12, hm2, hv16, hv17, hv18⟩ := hcv.cs (by omega) (by omega)
      have hv16 : CV (mw_setS M 67 (M.1 67 + 1)) k q (deep + 1) (M.2.2.1 16 y) (y + 1) m1 := hv16.same (fun _ _ _ _ _ => rfl)
      have hv17 : CV (mw_setS M 67 (M.1 67 + 1)) k q (deep + 1) (M.2.2.1 17 y) m1 m2 := hv17.same (fun _ _ _ _ _ => rfl)
      have hv18 : CV (mw_setS M 67 (M.1 67 + 1)) k q deep (M.2.2.1 18 y) m2 z := hv18.same (fun _ _ _ _ _ => rfl)
      have hsS : rn_same M (mw_setS M 67 (M.1 67 + 1)) := rn_sameS (Or.inr (Or.inl rfl))
      have htk := rn_tick H.2.1 (show t < 400 by omega)
      have HH : rHy ad ab nk na oK oQ app K B e f (mw_setS M 67 (M.1 67 + 1)) (cw_sI C 8 0 3 (cI C 8 0 3 + 1)) (t + 1) u t := ⟨H.1.same hsS, htk.1, by have := H.2.2.1; omega, H.2.2.2.1.of hsS.V2, rX_tick hX, by rw [cw_sI_N]; exact H.2.2.2.2.2⟩
      obtain ⟨o1, o2⟩ : oK y = k ∧ oQ y = q := by
        rcases hl with hl | ⟨y', hy', hl, o1, o2⟩
        · exact absurd hl.symm (neg1 (by omega))
        · have ey := (nI_eq (by omega) (by omega)).mp hl
          rw [ey]; exact ⟨o1, o2⟩
      obtain ⟨-, -, -, -, -, l18, -⟩ := H.1.2.1.2.1 y hy
      rw [o1, o2] at l18
      have n0 : y < cN C 0 := by rw [H.2.2.2.2.2]; exact hy
      obtain ⟨-, -, -, -, -, a5⟩ := hX.1.2.2.2.2.2.2.2 y n0
      rw [H.2.2.2.2.2] at a5
      have hP := rnS_post (rnA_post f) HH.1 HH.2.1 htk.2.1 htk.2.2 HH.2.2.1 hy (by rw [o1]; exact hb.2.2.2)
      rw [o1, o2] at hP
      obtain ⟨d0, rfl⟩ : ∃ d0, d = d0 + 2 := ⟨d - 2, by omega⟩
      refine mm_aload (pc := 17) dX8_runActions_17 rfl (by first | trivial | assumption | exact mm_isr_rf _) ?_
      refine mm_ifnull (pc := 19) (tgt := 71) dX8_runActions_19 (by decide) (by first | trivial | assumption | exact mm_isr_rf _) (fun c19 => by cases c19) (fun a19 c19 => ?_)
      refine mm_iload (pc := 22) dX8_runActions_22 rfl ?_
      refine mm_if_ne (pc := 24) (tgt := 71) dX8_runActions_24 (by decide) (fun c24 => absurd rfl c24) (fun c24 => ?_)
      refine mm_aload_n (pc := 27) dX8_runActions_27 rfl (by first | trivial | assumption | exact mm_isr_rf _) ?_
      refine cw_gi (pc := 28) 8 _ 3 hC (rfl) rfl (n8) dX8_runActions_28 fl_X8_21 rfl rfl rfl ?_
      refine mm_topi _ s3 ?_
      refine mm_sipush (pc := 31) (v := 400) dX8_runActions_31 (by decide) ?_
      refine mm_icmp_lt (pc := 34) (tgt := 39) dX8_runActions_34 (by decide) (fun c34 => ?_) (fun c34 => absurd ((nI_ltI (b := 400) (by omega) (by decide)).mpr (by omega)) c34)
      refine mm_aload_n (pc := 39) dX8_runActions_39 rfl (by first | trivial | assumption | exact mm_isr_rf _) ?_
      refine mm_dup (pc := 40) dX8_runActions_40 rfl ?_
      refine cw_gi (pc := 41) 8 _ 3 hC (rfl) rfl (n8) dX8_runActions_41 fl_X8_21 rfl rfl rfl ?_
      refine mm_iconst (pc := 44) (v := 1) dX8_runActions_44 (by decide) ?_
      refine mm_iadd (pc := 45) dX8_runActions_45 ?_
      refine cw_pi (pc := 46) 8 _ 3 hC (rfl) rfl (n8) dX8_runActions_46 (pl_X8_21 _) rfl rfl (rfl) (rfl) (fun h46 hC e46 => ?_)
      refine mm_aload_n (pc := 49) dX8_runActions_49 rfl (by first | trivial | assumption | exact mm_isr_rf _) ?_
      refine mm_aload_n (pc := 50) dX8_runActions_50 rfl (by first | trivial | assumption | exact mm_isr_rf _) ?_
      refine mm_aload (pc := 51) dX8_runActions_51 rfl (by first | trivial | assumption | exact mm_isr_rf _) ?_
      refine mm_iload_n (pc := 53) dX8_runActions_53 rfl ?_
      refine mm_iload (pc := 54) dX8_runActions_54 rfl ?_
      refine mm_callV (pc := 56) (As := [_, _, _, _]) (kd := ?kd_56_1) (fs := ?fs_56_1) dX8_runActions_56 vl_X8_99 (rac_ok (d := d0) (ra_of ihf) HH (Nat.le_refl _) htk.2.1 htk.2.2 (hb.of (M1 := (mw_setS M 67 (M.1 67 + 1))) (fun _ _ _ _ _ _ _ _ => rfl)) hg hy o1 o2 hdp hdk hv16 hv17 hm12 (by omega) (by omega) hC) ?hc_56_1 ?hk_56_1 rfl rfl (Nat.le_of_ble_eq_true rfl) ?_; (case hc_56_1 => exact cw_cell (f := 8) hC rfl rfl (by rw [cw_sI_N]; exact n8)); (case hk_56_1 => rfl)
      rintro _ h56 ⟨C2, T2, hC2, s2, rfl, ⟨w1, w2⟩, x2, f2, z2⟩
      have hC := hC2
      have n0 : y < cN C2 0 := by rw [f2.N rfl, cw_sI_N, H.2.2.2.2.2]; exact hy
      have r5 : cR C2 0 y 5 = cR C 0 y 5 := (nD_R f2.1 rfl).trans (cR_o (cw_sI_o (by decide)))
      refine mm_istore (pc := 59) dX8_runActions_59 rfl (Nat.le_of_ble_eq_true rfl) ?_
      refine mm_aload (pc := 61) dX8_runActions_61 rfl (by first | trivial | assumption | exact mm_isr_rf _) ?_
      refine cw_gr (pc := 63) 0 y 5 hC (rfl) rfl (n0) dX8_runActions_63 fl_X8_102 rfl rfl rfl rfl ?_
      refine mm_astore (pc := 66) dX8_runActions_66 (by first | trivial | assumption | exact mm_isr_rf _) rfl (Nat.le_of_ble_eq_true rfl) ?_
      refine mm_goto (pc := 68) (tgt := 17) dX8_runActions_68 (by decide) ?_
      have eA : rnA ab (f + 1) M (nI y) k q = rnN (rnA ab f) (rnS ab (rnA ab f) (mw_setS M 67 (M.1 67 + 1)) y k q) y k q := by
        rw [rnA_s (nI_pos (by omega)) hn4, nI_clamp (by omega)]
      by_cases hr0 : (rnS ab (rnA ab f) (mw_setS M 67 (M.1 67 + 1)) y k q).1 = 0
      · have hP3 := hP.2.2
        obtain ⟨hsm, ⟨t6, ht6, hI6⟩, -⟩ := hP
        have et : t6 = T2 := (nI_eq (by have := hI6.1.2; omega) (by omega)).mp (hI6.1.1.symm.trans w1)
        subst et
        have v2 := hsm.V2
        have e18 : (rnS ab (rnA ab f) (mw_setS M 67 (M.1 67 + 1)) y k q).2.2.2.1 18 y = M.2.2.1 18 y := v2 18 y (by decide) (by decide) (by decide) (by decide) (by decide) (by decide)
        have H2 : rHy ad ab nk na oK oQ app K B e f (rnS ab (rnA ab f) (mw_setS M 67 (M.1 67 + 1)) y k q).2 C2 t6 u t6 := ⟨HH.1.same hsm, hI6, by have := HH.2.2.1; omega, HH.2.2.2.1.of v2, x2, (f2.N rfl).trans HH.2.2.2.2.2⟩
        refine mm_post (fun r_ h_ z_ => ?_) (mm_weakK (ih A (d0 + 2) u deep k q t6 ((rnS ab (rnA ab f) (mw_setS M 67 (M.1 67 + 1)) y k q).2.2.2.1 18 y) m2 z g C2 (rnS ab (rnA ab f) (mw_setS M 67 (M.1 67 + 1)) y k q).2 h56 (cR C2 0 y 5) H2 ((hb.of (M1 := (mw_setS M 67 (M.1 67 + 1))) (fun _ _ _ _ _ _ _ _ => rfl)).of v2) ((gb_v2 v2).trans hg) (by rw [e18]; exact l18) (by rw [e18]; exact hv18.same (fun j i _ _ c => v2 j i (by omega) (by omega) (by omega) (by omega) (by omega) (by omega))) hz hdp hd (by rw [e18, r5]; exact a5) hC2) (And.intro rfl (And.intro (congrArg some (congrArg Value.int ((wy_2 hP3).2.1.mpr hr0))) (And.intro rfl (And.intro rfl (And.intro rfl (And.intro rfl trivial)))))))
        rw [show rnA ab (f + 1) M (nI y) k q = rnA ab f (rnS ab (rnA ab f) (mw_setS M 67 (M.1 67 + 1)) y k q).2 ((rnS ab (rnA ab f) (mw_setS M 67 (M.1 67 + 1)) y k q).2.2.2.1 18 y) k q from eA.trans (if_pos hr0)]
        exact z_.tr (s2.trans e46) ((rF_8 rfl).trans f2)
      · refine mm_post (fun r_ h_ z_ => ?_) (mm_weakK (ral_d (o := cR C2 0 y 5) (w := wy (rnS ab (rnA ab f) (mw_setS M 67 (M.1 67 + 1)) y k q).1) (fun z => hr0 ((wy_2 hP.2.2).2.1.mp z))) (And.intro rfl (And.intro rfl trivial)))
        obtain ⟨rfl, rfl⟩ := z_
        rw [show rnA ab (f + 1) M (nI y) k q = (rnS ab (rnA ab f) (mw_setS M 67 (M.1 67 + 1)) y k q) from eA.trans (if_neg hr0)]
        exact ⟨C2, T2, hC2, s2.trans e46, rfl, ⟨w1, w2⟩, x2, (rF_8 rfl).trans f2, z2⟩

theorem ra_ok_ {G : mm_G} {L : Nat × Nat} {h0 : mm_H} {ad : Nat → Nat → Nat} {ab : Nat → Option Nat} {nk na : Nat} {oK oQ : Nat → Nat} {app K : Nat} {B : rB_T} {e f : Nat} : RA_ G L h0 ad ab nk na oK oQ app K B e f := ra_of rlp_ok

