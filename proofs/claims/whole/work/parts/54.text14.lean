/-! the reference's judge -/
abbrev fp_T : Type := Int32 × Int32
def flt (fp : fp_T) (f p : Int32) : fp_T := if fp.1 = 0 then (f, p) else if p < fp.2 then (f, p) else if p = fp.2 then (if sp_rank fp.1 ≤ sp_rank f then fp else (f, p)) else fp
def setF (M : mw_S) (fp : fp_T) : mw_S := mw_setS (mw_setS M 31 fp.1) 32 fp.2
def jM (M : mw_S) (fp : fp_T) (g : Nat → Int32) : mw_S := mw_r25 (setF M fp) g
theorem setF_self (M : mw_S) : setF M (M.1 31, M.1 32) = M := by
  unfold setF
  rw [mw_setS_self (j := 31) rfl, mw_setS_self rfl]
theorem setF_set (M : mw_S) (fp : fp_T) (f p : Int32) : mw_setS (mw_setS (setF M fp) 31 f) 32 p = setF M (f, p) := by
  refine Prod.ext (funext fun j => ?_) rfl
  show mw_u (mw_u (mw_u (mw_u M.1 31 fp.1) 32 fp.2) 31 f) 32 p j = mw_u (mw_u M.1 31 f) 32 p j
  unfold mw_u
  by_cases h2 : j = 32
  · rw [if_pos h2, if_pos h2]
  · rw [if_neg h2, if_neg h2]
    by_cases h1 : j = 31
    · rw [if_pos h1, if_neg h2, if_pos h1]
    · rw [if_neg h1, if_neg h2, if_neg h1, if_neg h1]
theorem rm_faulty_F (M : mw_S) (fp : fp_T) (g : Nat → Int32) (f p : Int32) : rm_faulty (jM M fp g) f p = jM M (flt fp f p) g := by
  have e31 : (jM M fp g).1 31 = fp.1 := rfl
  have e32 : (jM M fp g).1 32 = fp.2 := rfl
  have es : mw_setS (mw_setS (jM M fp g) 31 f) 32 p = jM M (f, p) g := by
    show mw_r25 (mw_setS (mw_setS (setF M fp) 31 f) 32 p) g = _
    rw [setF_set]
    rfl
  unfold rm_faulty flt
  rw [e31, e32, es]
  split
  · rfl
  · split
    · rfl
    · split
      · split <;> rfl
      · rfl
section JD
variable (M : mw_S) (ab : Nat → Option Nat)
noncomputable def jbS (k q : Nat) (p : Int32) (j : Nat) (fp : fp_T) : fp_T :=
  if bI (rm_has M q k && ovB ab (rm_E M q) k j) = 0 then fp else
  if M.2.2.1 9 (6 * k + q) ≤ M.2.2.1 9 (6 * j + q) then (if M.2.2.1 10 (6 * j + q) = 0 then fp else flt fp 5 p) else flt (if M.2.2.1 10 (6 * j + q) = 0 then fp else flt fp 5 p) 4 p
noncomputable def jbA (k q : Nat) (p : Int32) : Nat → Option Nat → fp_T → fp_T
  | 0, _, fp => fp
  | f + 1, c, fp => match c with
    | none => fp
    | some j => jbA k q p f (ab j) (jbS M ab k q p j fp)
noncomputable def juS (i : Nat) (fp : fp_T) : fp_T :=
  if M.2.2.1 44 i = 8 then (if M.2.2.1 43 i = 0 then fp else flt fp 7 (M.2.2.1 46 i))
  else if rn_fnd M ab (M.2.2.1 42 i).toNatClampNeg (M.2.2.1 45 i).toNatClampNeg (if M.2.2.1 44 i = 1 then ab (M.2.2.1 42 i).toNatClampNeg else some (M.2.2.1 42 i).toNatClampNeg) = none then flt fp 6 (M.2.2.1 46 i) else fp
noncomputable def jd1 : Nat → fp_T → fp_T
  | 0, fp => fp
  | i + 1, fp => jbA M ab (M.2.2.1 38 i).toNatClampNeg (M.2.2.1 39 i).toNatClampNeg (M.2.2.1 40 i) 64 (ab (M.2.2.1 38 i).toNatClampNeg) (jd1 i fp)
noncomputable def jd2 : Nat → fp_T → fp_T
  | 0, fp => fp
  | i + 1, fp => juS M ab i (jd2 i fp)
end JD
theorem rm_T_j {M : mw_S} {n : Nat} {ab : Nat → Option Nat} {fp : fp_T} {g : Nat → Int32} (h : rm_T M n ab) : rm_T (jM M fp g) n ab := h

theorem ok_judgeBody {G : mm_G} {L : Nat × Nat} {d : Nat} {h h0 : mm_H} {m : Nat} {ad : Nat → Nat} {M : mw_S} {n : Nat} {ab : Nat → Option Nat} {k q : Nat} {p : Int32} {fp : fp_T} {g : Nat → Int32} (hT : rm_T M n ab) (hk : k < n) (hq : q < 6) (hW : mw_W m ad h0 (jM M fp g) h) : mm_Ok G mX12_judgeBody L (d + 3) [.ref m, .int (nI k), .int (nI q), .int p] h (fun r h1 => ∃ g2, mw_W m ad h0 (jM M (jbA M ab k q p 64 (ab k) fp) g2) h1 ∧ h1.2 = h.2 ∧ r = none) := by
  obtain ⟨T_, hTe⟩ : ∃ T_, T_ = jbA M ab k q p 64 (ab k) fp := ⟨_, rfl⟩
  have hn50 := hT.2.1
  refine mm_Ok.post (Q := (fun r h1 => ∃ fp2 g2, fp2 = T_ ∧ mw_W m ad h0 (jM M fp2 g2) h1 ∧ h1.2 = h.2 ∧ r = none)) ?_ (fun r h1 ⟨fp2, g2, e1, w1, w2, w3⟩ => ⟨g2, by rw [← hTe, ← e1]; exact w1, w2, w3⟩)
  refine mm_Ok.of [(0, .ref m), (1, .int (nI k)), (2, .int (nI q)), (3, .int p)] rfl kX12_judgeBody.2.2.2.2.2 rfl (fun A => ?_)
  have up_ : ∀ j, j < n → kf_lt j (ab j) := by
    intro j hj
    cases hx : ab j with
    | none => trivial
    | some z => exact hT.1 j z hj hx
  have mono_ : ∀ (a b : Nat) (c : Option Nat), a ≤ b → kf_lt a c → kf_lt b c := by
    intro a b c hab hc
    cases c with
    | none => trivial
    | some z => exact Nat.lt_of_lt_of_le hc hab
  have lp_ : ∀ (f : Nat) (c : Option Nat) (fp : fp_T) (g : Nat → Int32) (h1 : mm_H), kf_lt f c → kf_lt n c → jbA M ab k q p f c fp = T_ → mw_W m ad h0 (jM M fp g) h1 → h1.2 = h.2 → mm_Run G mX12_judgeBody A L (d + 3) 8 [(4, .int (oI c)), (0, .ref m), (1, .int (nI k)), (2, .int (nI q)), (3, .int p)] [] h1 (fun r h1 => ∃ fp2 g2, fp2 = T_ ∧ mw_W m ad h0 (jM M fp2 g2) h1 ∧ h1.2 = h.2 ∧ r = none) := by
    intro f
    induction f with
    | zero =>
      intro c fp g h1 hc hcn he hW eh
      obtain rfl : c = none := by
        cases c with
        | none => rfl
        | some x => exact absurd hc (Nat.not_lt_zero x)
      refine mm_iload (pc := 8) dX12_judgeBody_8 rfl ?_
      refine mm_if_lt (pc := 10) (tgt := 89) dX12_judgeBody_10 (by decide) (fun c10 => ?_) (fun c10 => absurd (by decide) c10)
      refine mm_vret (pc := 89) dX12_judgeBody_89 rfl ?_
      exact ⟨fp, g, by rw [← he]; rfl, hW, eh, rfl⟩
    | succ f ih =>
      intro c fp g h1 hc hcn he hW eh
      cases c with
      | none =>
        refine mm_iload (pc := 8) dX12_judgeBody_8 rfl ?_
        refine mm_if_lt (pc := 10) (tgt := 89) dX12_judgeBody_10 (by decide) (fun c10 => ?_) (fun c10 => absurd (by decide) c10)
        refine mm_vret (pc := 89) dX12_judgeBody_89 rfl ?_
        exact ⟨fp, g, by rw [← he]; rfl, hW, eh, rfl⟩
      | some j =>
        have hjn : j < n := hcn
        have hjf : j < f + 1 := hc
        have hlf : kf_lt f (ab j) := mono_ j f _ (by omega) (up_ j hjn)
        have hln : kf_lt n (ab j) := mono_ j n _ (by omega) (up_ j hjn)
        refine mm_iload (pc := 8) dX12_judgeBody_8 rfl ?_
        refine mm_if_lt (pc := 10) (tgt := 89) dX12_judgeBody_10 (by decide) (fun c10 => absurd c10 (show ¬ oI (some j) < 0 from nI_pos (by omega))) (fun c10 => ?_)
        refine mm_aload_n (pc := 13) dX12_judgeBody_13 rfl (by first | trivial | assumption | exact mm_isr_rf _) ?_
        refine mm_iload_n (pc := 14) dX12_judgeBody_14 rfl ?_
        refine mm_iload_n (pc := 15) dX12_judgeBody_15 rfl ?_
        refine mm_iload (pc := 16) dX12_judgeBody_16 rfl ?_
        refine mm_callV (pc := 18) (As := [_, _, _]) (kd := ?kd_18_1) (fs := ?fs_18_1) dX12_judgeBody_18 vl_X12_203 (ok_X12_isOver (M := jM M fp g) (n := n) (k := k) (q := q) (j := j) (d := d + 1) (rm_T_j hT) hk hq hjn hW) ?hc_18_1 ?hk_18_1 rfl rfl (Nat.le_of_ble_eq_true rfl) ?_; (case hc_18_1 => exact hW.1); (case hk_18_1 => rfl)
        rintro _ h18 ⟨g18, hW, e18, rfl⟩
        have hW : mw_W m ad h0 (jM M fp g18) h18 := by
          have e_ : mw_r25 (jM M fp g) g18 = jM M fp g18 := mw_r25_r25 _ _ _
          rw [← e_]
          exact hW
        refine mm_if_eq (pc := 21) (tgt := 77) dX12_judgeBody_21 (by decide) (fun c21 => ?_) (fun c21 => ?_)
        · have c21 : bI (rm_has M q k && ovB ab (rm_E M q) k j) = 0 := c21
          refine mm_aload_n (pc := 77) dX12_judgeBody_77 rfl (by first | trivial | assumption | exact mm_isr_rf _) ?_
          refine mw_geta (pc := 78) 6 hW dX12_judgeBody_78 fl_X12_26 rfl rfl ?_
          refine mm_iload (pc := 81) dX12_judgeBody_81 rfl ?_
          refine mw_iald (pc := 83) 6 j hW dX12_judgeBody_83 rfl rfl (by first | with_reducible rfl | assumption | rfl) (by show _ < 50; omega) (by omega) ?_
          refine mm_istore (pc := 84) dX12_judgeBody_84 rfl (Nat.le_of_ble_eq_true rfl) ?_
          refine mm_goto (pc := 86) (tgt := 8) dX12_judgeBody_86 (by decide) ?_
          refine mm_weakK (lv := [(4, .int (oI (ab j))), (0, .ref m), (1, .int (nI k)), (2, .int (nI q)), (3, .int p)]) (ih (ab j) fp g18 h18 hlf hln (by rw [← he]; show _ = jbA M ab k q p f (ab j) (jbS M ab k q p j fp); unfold jbS; rw [if_pos c21]) hW (by rw [e18, eh])) (And.intro (by rw [← hT.2.2 j hjn]; rfl) (And.intro rfl (And.intro rfl (And.intro rfl (And.intro rfl trivial)))))
        · have c21 : ¬ (bI (rm_has M q k && ovB ab (rm_E M q) k j) = 0) := c21
          refine mm_aload_n (pc := 24) dX12_judgeBody_24 rfl (by first | trivial | assumption | exact mm_isr_rf _) ?_
          refine mw_geta (pc := 25) 10 hW dX12_judgeBody_25 fl_X12_39 rfl rfl ?_
          refine mm_bipush (pc := 28) (v := 6) dX12_judgeBody_28 (by decide) ?_
          refine mm_iload (pc := 30) dX12_judgeBody_30 rfl ?_
          refine mm_imul (pc := 32) dX12_judgeBody_32 ?_
          refine mm_iload_n (pc := 33) dX12_judgeBody_33 rfl ?_
          refine mm_iadd (pc := 34) dX12_judgeBody_34 ?_
          refine mw_zald (pc := 35) 10 (6 * j + q) hW dX12_judgeBody_35 rfl rfl (mw_ix j q) (by show _ < 300; omega) (by omega) ?_
          refine mm_if_eq (pc := 36) (tgt := 45) dX12_judgeBody_36 (by decide) (fun c36 => ?_) (fun c36 => ?_)
          · have c36 : M.2.2.1 10 (6 * j + q) = 0 := c36
            refine mm_aload_n (pc := 45) dX12_judgeBody_45 rfl (by first | trivial | assumption | exact mm_isr_rf _) ?_
            refine mw_geta (pc := 46) 9 hW dX12_judgeBody_46 fl_X12_36 rfl rfl ?_
            refine mm_bipush (pc := 49) (v := 6) dX12_judgeBody_49 (by decide) ?_
            refine mm_iload_n (pc := 51) dX12_judgeBody_51 rfl ?_
            refine mm_imul (pc := 52) dX12_judgeBody_52 ?_
            refine mm_iload_n (pc := 53) dX12_judgeBody_53 rfl ?_
            refine mm_iadd (pc := 54) dX12_judgeBody_54 ?_
            refine mw_iald (pc := 55) 9 (6 * k + q) hW dX12_judgeBody_55 rfl rfl (mw_ix k q) (by show _ < 300; omega) (by omega) ?_
            refine mm_aload_n (pc := 56) dX12_judgeBody_56 rfl (by first | trivial | assumption | exact mm_isr_rf _) ?_
            refine mw_geta (pc := 57) 9 hW dX12_judgeBody_57 fl_X12_36 rfl rfl ?_
            refine mm_bipush (pc := 60) (v := 6) dX12_judgeBody_60 (by decide) ?_
            refine mm_iload (pc := 62) dX12_judgeBody_62 rfl ?_
            refine mm_imul (pc := 64) dX12_judgeBody_64 ?_
            refine mm_iload_n (pc := 65) dX12_judgeBody_65 rfl ?_
            refine mm_iadd (pc := 66) dX12_judgeBody_66 ?_
            refine mw_iald (pc := 67) 9 (6 * j + q) hW dX12_judgeBody_67 rfl rfl (mw_ix j q) (by show _ < 300; omega) (by omega) ?_
            refine mm_icmp_le (pc := 68) (tgt := 77) dX12_judgeBody_68 (by decide) (fun c68 => ?_) (fun c68 => ?_)
            · have c68 : M.2.2.1 9 (6 * k + q) ≤ M.2.2.1 9 (6 * j + q) := c68
              refine mm_aload_n (pc := 77) dX12_judgeBody_77 rfl (by first | trivial | assumption | exact mm_isr_rf _) ?_
              refine mw_geta (pc := 78) 6 hW dX12_judgeBody_78 fl_X12_26 rfl rfl ?_
              refine mm_iload (pc := 81) dX12_judgeBody_81 rfl ?_
              refine mw_iald (pc := 83) 6 j hW dX12_judgeBody_83 rfl rfl (by first | with_reducible rfl | assumption | rfl) (by show _ < 50; omega) (by omega) ?_
              refine mm_istore (pc := 84) dX12_judgeBody_84 rfl (Nat.le_of_ble_eq_true rfl) ?_
              refine mm_goto (pc := 86) (tgt := 8) dX12_judgeBody_86 (by decide) ?_
              refine mm_weakK (lv := [(4, .int (oI (ab j))), (0, .ref m), (1, .int (nI k)), (2, .int (nI q)), (3, .int p)]) (ih (ab j) fp g18 h18 hlf hln (by rw [← he]; show _ = jbA M ab k q p f (ab j) (jbS M ab k q p j fp); unfold jbS; rw [if_neg c21, if_pos c68, if_pos c36]) hW (by rw [e18, eh])) (And.intro (by rw [← hT.2.2 j hjn]; rfl) (And.intro rfl (And.intro rfl (And.intro rfl (And.intro rfl trivial)))))
            · have c68 : ¬ (M.2.2.1 9 (6 * k + q) ≤ M.2.2.1 9 (6 * j + q)) := c68
              refine mm_aload_n (pc := 71) dX12_judgeBody_71 rfl (by first | trivial | assumption | exact mm_isr_rf _) ?_
              refine mm_iconst (pc := 72) (v := 4) dX12_judgeBody_72 (by decide) ?_
              refine mm_iload_n (pc := 73) dX12_judgeBody_73 rfl ?_
              refine mm_callV (pc := 74) (As := [_, _]) (kd := ?kd_74_2) (fs := ?fs_74_2) dX12_judgeBody_74 vl_X12_333 (ok_X12_faulty hW) ?hc_74_2 ?hk_74_2 rfl rfl (Nat.le_of_ble_eq_true rfl) ?_; (case hc_74_2 => exact hW.1); (case hk_74_2 => rfl)
              rintro _ h74 ⟨hW, e_h74, rfl⟩
              rw [rm_faulty_F] at hW
              refine mm_aload_n (pc := 77) dX12_judgeBody_77 rfl (by first | trivial | assumption | exact mm_isr_rf _) ?_
              refine mw_geta (pc := 78) 6 hW dX12_judgeBody_78 fl_X12_26 rfl rfl ?_
              refine mm_iload (pc := 81) dX12_judgeBody_81 rfl ?_
              refine mw_iald (pc := 83) 6 j hW dX12_judgeBody_83 rfl rfl (by first | with_reducible rfl | assumption | rfl) (by show _ < 50; omega) (by omega) ?_
              refine mm_istore (pc := 84) dX12_judgeBody_84 rfl (Nat.le_of_ble_eq_true rfl) ?_
              refine mm_goto (pc := 86) (tgt := 8) dX12_judgeBody_86 (by decide) ?_
              refine mm_weakK (lv := [(4, .int (oI (ab j))), (0, .ref m), (1, .int (nI k)), (2, .int (nI q)), (3, .int p)]) (ih (ab j) (flt fp 4 p) g18 h74 hlf hln (by rw [← he]; show _ = jbA M ab k q p f (ab j) (jbS M ab k q p j fp); unfold jbS; rw [if_neg c21, if_neg c68, if_pos c36]) hW (by rw [e_h74, e18, eh])) (And.intro (by rw [← hT.2.2 j hjn]; rfl) (And.intro rfl (And.intro rfl (And.intro rfl (And.intro rfl trivial)))))
          · have c36 : ¬ (M.2.2.1 10 (6 * j + q) = 0) := c36
            refine mm_aload_n (pc := 39) dX12_judgeBody_39 rfl (by first | trivial | assumption | exact mm_isr_rf _) ?_
            refine mm_iconst (pc := 40) (v := 5) dX12_judgeBody_40 (by decide) ?_
            refine mm_iload_n (pc := 41) dX12_judgeBody_41 rfl ?_
            refine mm_callV (pc := 42) (As := [_, _]) (kd := ?kd_42_3) (fs := ?fs_42_3) dX12_judgeBody_42 vl_X12_333 (ok_X12_faulty hW) ?hc_42_3 ?hk_42_3 rfl rfl (Nat.le_of_ble_eq_true rfl) ?_; (case hc_42_3 => exact hW.1); (case hk_42_3 => rfl)
            rintro _ h42 ⟨hW, e_h42, rfl⟩
            rw [rm_faulty_F] at hW
            refine mm_aload_n (pc := 45) dX12_judgeBody_45 rfl (by first | trivial | assumption | exact mm_isr_rf _) ?_
            refine mw_geta (pc := 46) 9 hW dX12_judgeBody_46 fl_X12_36 rfl rfl ?_
            refine mm_bipush (pc := 49) (v := 6) dX12_judgeBody_49 (by decide) ?_
            refine mm_iload_n (pc := 51) dX12_judgeBody_51 rfl ?_
            refine mm_imul (pc := 52) dX12_judgeBody_52 ?_
            refine mm_iload_n (pc := 53) dX12_judgeBody_53 rfl ?_
            refine mm_iadd (pc := 54) dX12_judgeBody_54 ?_
            refine mw_iald (pc := 55) 9 (6 * k + q) hW dX12_judgeBody_55 rfl rfl (mw_ix k q) (by show _ < 300; omega) (by omega) ?_
            refine mm_aload_n (pc := 56) dX12_judgeBody_56 rfl (by first | trivial | assumption | exact mm_isr_rf _) ?_
            refine mw_geta (pc := 57) 9 hW dX12_judgeBody_57 fl_X12_36 rfl rfl ?_
            refine mm_bipush (pc := 60) (v := 6) dX12_judgeBody_60 (by decide) ?_
            refine mm_iload (pc := 62) dX12_judgeBody_62 rfl ?_
            refine mm_imul (pc := 64) dX12_judgeBody_64 ?_
            refine mm_iload_n (pc := 65) dX12_judgeBody_65 rfl ?_
            refine mm_iadd (pc := 66) dX12_judgeBody_66 ?_
            refine mw_iald (pc := 67) 9 (6 * j + q) hW dX12_judgeBody_67 rfl rfl (mw_ix j q) (by show _ < 300; omega) (by omega) ?_
            refine mm_icmp_le (pc := 68) (tgt := 77) dX12_judgeBody_68 (by decide) (fun c68 => ?_) (fun c68 => ?_)
            · have c68 : M.2.2.1 9 (6 * k + q) ≤ M.2.2.1 9 (6 * j + q) := c68
              refine mm_aload_n (pc := 77) dX12_judgeBody_77 rfl (by first | trivial | assumption | exact mm_isr_rf _) ?_
              refine mw_geta (pc := 78) 6 hW dX12_judgeBody_78 fl_X12_26 rfl rfl ?_
              refine mm_iload (pc := 81) dX12_judgeBody_81 rfl ?_
              refine mw_iald (pc := 83) 6 j hW dX12_judgeBody_83 rfl rfl (by first | with_reducible rfl | assumption | rfl) (by show _ < 50; omega) (by omega) ?_
              refine mm_istore (pc := 84) dX12_judgeBody_84 rfl (Nat.le_of_ble_eq_true rfl) ?_
              refine mm_goto (pc := 86) (tgt := 8) dX12_judgeBody_86 (by decide) ?_
              refine mm_weakK (lv := [(4, .int (oI (ab j))), (0, .ref m), (1, .int (nI k)), (2, .int (nI q)), (3, .int p)]) (ih (ab j) (flt fp 5 p) g18 h42 hlf hln (by rw [← he]; show _ = jbA M ab k q p f (ab j) (jbS M ab k q p j fp); unfold jbS; rw [if_neg c21, if_pos c68, if_neg c36]) hW (by rw [e_h42, e18, eh])) (And.intro (by rw [← hT.2.2 j hjn]; rfl) (And.intro rfl (And.intro rfl (And.intro rfl (And.intro rfl trivial)))))
            · have c68 : ¬ (M.2.2.1 9 (6 * k + q) ≤ M.2.2.1 9 (6 * j + q)) := c68
              refine mm_aload_n (pc := 71) dX12_judgeBody_71 rfl (by first | trivial | assumption | exact mm_isr_rf _) ?_
              refine mm_iconst (pc := 72) (v := 4) dX12_judgeBody_72 (by decide) ?_
              refine mm_iload_n (pc := 73) dX12_judgeBody_73 rfl ?_
              refine mm_callV (pc := 74) (As := [_, _]) (kd := ?kd_74_4) (fs := ?fs_74_4) dX12_judgeBody_74 vl_X12_333 (ok_X12_faulty hW) ?hc_74_4 ?hk_74_4 rfl rfl (Nat.le_of_ble_eq_true rfl) ?_; (case hc_74_4 => exact hW.1); (case hk_74_4 => rfl)
              rintro _ h74 ⟨hW, e_h74, rfl⟩
              rw [rm_faulty_F] at hW
              refine mm_aload_n (pc := 77) dX12_judgeBody_77 rfl (by first | trivial | assumption | exact mm_isr_rf _) ?_
              refine mw_geta (pc := 78) 6 hW dX12_judgeBody_78 fl_X12_26 rfl rfl ?_
              refine mm_iload (pc := 81) dX12_judgeBody_81 rfl ?_
              refine mw_iald (pc := 83) 6 j hW dX12_judgeBody_83 rfl rfl (by first | with_reducible rfl | assumption | rfl) (by show _ < 50; omega) (by omega) ?_
              refine mm_istore (pc := 84) dX12_judgeBody_84 rfl (Nat.le_of_ble_eq_true rfl) ?_
              refine mm_goto (pc := 86) (tgt := 8) dX12_judgeBody_86 (by decide) ?_
              refine mm_weakK (lv := [(4, .int (oI (ab j))), (0, .ref m), (1, .int (nI k)), (2, .int (nI q)), (3, .int p)]) (ih (ab j) (flt (flt fp 5 p) 4 p) g18 h74 hlf hln (by rw [← he]; show _ = jbA M ab k q p f (ab j) (jbS M ab k q p j fp); unfold jbS; rw [if_neg c21, if_neg c68, if_neg c36]) hW (by rw [e_h74, e_h42, e18, eh])) (And.intro (by rw [← hT.2.2 j hjn]; rfl) (And.intro rfl (And.intro rfl (And.intro rfl (And.intro rfl trivial)))))
  have hl64 : kf_lt 64 (ab k) := mono_ k 64 _ (by omega) (up_ k hk)
  have hln : kf_lt n (ab k) := mono_ k n _ (by omega) (up_ k hk)
  rw [hTe] at lp_ ⊢
  refine mm_aload_n (pc := 0) dX12_judgeBody_0 rfl (by first | trivial | assumption | exact mm_isr_rf _) ?_
  refine mw_geta (pc := 1) 6 hW dX12_judgeBody_1 fl_X12_26 rfl rfl ?_
  refine mm_iload_n (pc := 4) dX12_judgeBody_4 rfl ?_
  refine mw_iald (pc := 5) 6 k hW dX12_judgeBody_5 rfl rfl (by first | with_reducible rfl | assumption | rfl) (by show _ < 50; omega) (by omega) ?_
  refine mm_istore (pc := 6) dX12_judgeBody_6 rfl (Nat.le_of_ble_eq_true rfl) ?_
  exact mm_weakK (lv := [(4, .int (oI (ab k))), (0, .ref m), (1, .int (nI k)), (2, .int (nI q)), (3, .int p)]) (lp_ 64 (ab k) fp g h hl64 hln rfl hW rfl) (And.intro (by rw [← hT.2.2 k hk]; rfl) (And.intro rfl (And.intro rfl (And.intro rfl (And.intro rfl trivial)))))

