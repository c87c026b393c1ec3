/-- the rows of bodies and uses, as judge reads them -/
def jRows (M : mw_S) (n nb nu : Nat) : Prop := M.1 37 = nI nb ∧ nb ≤ 700 ∧ M.1 41 = nI nu ∧ nu ≤ 700 ∧ (∀ i, i < nb → ∃ k q, k < n ∧ q < 6 ∧ M.2.2.1 38 i = nI k ∧ M.2.2.1 39 i = nI q) ∧ ∀ i, i < nu → ∃ k c, k < n ∧ c < 6 ∧ M.2.2.1 42 i = nI k ∧ M.2.2.1 45 i = nI c

/-- the folds of judge from the front -/
noncomputable def jd1F (M : mw_S) (ab : Nat → Option Nat) : Nat → Nat → fp_T → fp_T
  | 0, _, fp => fp
  | v + 1, i, fp => jd1F M ab v (i + 1) (jbA M ab (M.2.2.1 38 i).toNatClampNeg (M.2.2.1 39 i).toNatClampNeg (M.2.2.1 40 i) 64 (ab (M.2.2.1 38 i).toNatClampNeg) fp)
noncomputable def jd2F (M : mw_S) (ab : Nat → Option Nat) : Nat → Nat → fp_T → fp_T
  | 0, _, fp => fp
  | v + 1, i, fp => jd2F M ab v (i + 1) (juS M ab i fp)
theorem jd1C {M : mw_S} {ab : Nat → Option Nat} {n nb i : Nat} {fp : fp_T} (_h : ∀ i, i < nb → ∃ k q, k < n ∧ q < 6 ∧ M.2.2.1 38 i = nI k ∧ M.2.2.1 39 i = nI q) (hi : i < nb) : jd1F M ab (nb - i) i fp = jd1F M ab (nb - (i + 1)) (i + 1) (jbA M ab (M.2.2.1 38 i).toNatClampNeg (M.2.2.1 39 i).toNatClampNeg (M.2.2.1 40 i) 64 (ab (M.2.2.1 38 i).toNatClampNeg) fp) := by
  rw [show nb - i = (nb - (i + 1)) + 1 by omega]
  rfl
theorem jd2C {M : mw_S} {ab : Nat → Option Nat} {nu i : Nat} {fp : fp_T} (hi : i < nu) : jd2F M ab (nu - i) i fp = jd2F M ab (nu - (i + 1)) (i + 1) (juS M ab i fp) := by
  rw [show nu - i = (nu - (i + 1)) + 1 by omega]
  rfl
theorem fnd_lt {M : mw_S} {n k c y : Nat} {ab : Nat → Option Nat} (hT : rm_T M n ab) (hk : k < n) (h : rn_fnd M ab k c (some k) = some y) : y < 2 ^ 31 := by
  have := (Ae.at hT.1 (by have := hT.2.1; omega) hk h).2.2
  have := hT.2.1
  omega
theorem fnd_lt2 {M : mw_S} {n k c y : Nat} {ab : Nat → Option Nat} (hT : rm_T M n ab) (hk : k < n) (h : rn_fnd M ab k c (ab k) = some y) : y < 2 ^ 31 := by
  have := (Ae.up hT.1 (by have := hT.2.1; omega) hk h).2.2
  have := hT.2.1
  omega
noncomputable def jdg (M : mw_S) (ab : Nat → Option Nat) (nb nu : Nat) (fp : fp_T) : fp_T := jd2F M ab nu 0 (jd1F M ab nb 0 fp)
theorem ok_judge {G : mm_G} {L : Nat × Nat} {d : Nat} {h h0 : mm_H} {m : Nat} {ad : Nat → Nat} {M : mw_S} {n : Nat} {ab : Nat → Option Nat} {nb nu : Nat} {fp : fp_T} {g : Nat → Int32} (hT : rm_T M n ab) (hJ : jRows M n nb nu) (hW : mw_W m ad h0 (jM M fp g) h) : mm_Ok G mX12_judge L (d + 4) [.ref m] h (fun r h1 => ∃ g2, mw_W m ad h0 (jM M (jdg M ab nb nu fp) g2) h1 ∧ h1.2 = h.2 ∧ r = none) := by
  obtain ⟨T_, hTe⟩ : ∃ T_, T_ = jdg M ab nb nu fp := ⟨_, rfl⟩
  rw [← hTe]
  have hn50 := hT.2.1
  have hnb := hJ.2.1
  have hnu := hJ.2.2.2.1
  refine mm_Ok.of [(0, .ref m)] rfl kX12_judge.2.2.2.2.2 rfl (fun A => ?_)
  have lpB_ : ∀ (v i : Nat), i + v = nu → ∀ (fp : fp_T) (g : Nat → Int32) (h1 : mm_H), jd2F M ab (nu - i) i fp = T_ → mw_W m ad h0 (jM M fp g) h1 → h1.2 = h.2 → mm_Run G mX12_judge A L (d + 4) 40 [(1, .int (nI i)), (0, .ref m)] [] h1 (fun r h1 => ∃ g2, mw_W m ad h0 (jM M T_ g2) h1 ∧ h1.2 = h.2 ∧ r = none) := by
    intro v
    induction v with
    | zero =>
      intro i hi fp g h1 he hW eh
      have he : fp = T_ := by rw [← he, show nu - i = 0 by omega]; rfl
      subst he
      refine mm_iload_n (pc := 40) dX12_judge_40 rfl ?_
      refine mm_aload_n (pc := 41) dX12_judge_41 rfl (by first | trivial | assumption | exact mm_isr_rf _) ?_
      refine mw_gets (pc := 42) 41 hW dX12_judge_42 fl_X12_390 rfl rfl ?_
      refine mm_icmp_ge (pc := 45) (tgt := 142) dX12_judge_45 (by decide) (fun c45 => ?_) (fun c45 => absurd (show M.1 41 ≤ nI i by rw [hJ.2.2.1, show i = nu by omega]; exact Int32.le_refl _) c45)
      refine mm_vret (pc := 142) dX12_judge_142 rfl ?_
      exact ⟨g, hW, eh, rfl⟩
    | succ v ih =>
      intro i hi fp g h1 he hW eh
      obtain ⟨k, c, hk, hc, e42, e45⟩ := hJ.2.2.2.2.2 i (by omega)
      refine mm_iload_n (pc := 40) dX12_judge_40 rfl ?_
      refine mm_aload_n (pc := 41) dX12_judge_41 rfl (by first | trivial | assumption | exact mm_isr_rf _) ?_
      refine mw_gets (pc := 42) 41 hW dX12_judge_42 fl_X12_390 rfl rfl ?_
      refine mm_icmp_ge (pc := 45) (tgt := 142) dX12_judge_45 (by decide) (fun c45 => absurd c45 (show ¬ M.1 41 ≤ nI i by rw [hJ.2.2.1]; exact nI_ge (by omega) (by omega))) (fun c45 => ?_)
      refine mm_aload_n (pc := 48) dX12_judge_48 rfl (by first | trivial | assumption | exact mm_isr_rf _) ?_
      refine mw_geta (pc := 49) 42 hW dX12_judge_49 fl_X12_94 rfl rfl ?_
      refine mm_iload_n (pc := 52) dX12_judge_52 rfl ?_
      refine mw_iald (pc := 53) 42 i hW dX12_judge_53 rfl rfl (by first | with_reducible rfl | assumption | rfl) (by show _ < 700; omega) (by omega) ?_
      refine mm_topi (nI k) e42 ?_
      refine mm_istore_n (pc := 54) dX12_judge_54 rfl (Nat.le_of_ble_eq_true rfl) ?_
      refine mm_aload_n (pc := 55) dX12_judge_55 rfl (by first | trivial | assumption | exact mm_isr_rf _) ?_
      refine mw_geta (pc := 56) 44 hW dX12_judge_56 fl_X12_100 rfl rfl ?_
      refine mm_iload_n (pc := 59) dX12_judge_59 rfl ?_
      refine mw_iald (pc := 60) 44 i hW dX12_judge_60 rfl rfl (by first | with_reducible rfl | assumption | rfl) (by show _ < 700; omega) (by omega) ?_
      refine mm_bipush (pc := 61) (v := 8) dX12_judge_61 (by decide) ?_
      refine mm_icmp_ne (pc := 63) (tgt := 90) dX12_judge_63 (by decide) (fun c63 => ?_) (fun c63 => ?_)
      · have c63 : ¬ M.2.2.1 44 i = 8 := c63
        refine mm_aload_n (pc := 90) dX12_judge_90 rfl (by first | trivial | assumption | exact mm_isr_rf _) ?_
        refine mm_iload_n (pc := 91) dX12_judge_91 rfl ?_
        refine mm_aload_n (pc := 92) dX12_judge_92 rfl (by first | trivial | assumption | exact mm_isr_rf _) ?_
        refine mw_geta (pc := 93) 45 hW dX12_judge_93 fl_X12_103 rfl rfl ?_
        refine mm_iload_n (pc := 96) dX12_judge_96 rfl ?_
        refine mw_iald (pc := 97) 45 i hW dX12_judge_97 rfl rfl (by first | with_reducible rfl | assumption | rfl) (by show _ < 700; omega) (by omega) ?_
        refine mm_topi (nI c) e45 ?_
        refine mm_aload_n (pc := 98) dX12_judge_98 rfl (by first | trivial | assumption | exact mm_isr_rf _) ?_
        refine mw_geta (pc := 99) 44 hW dX12_judge_99 fl_X12_100 rfl rfl ?_
        refine mm_iload_n (pc := 102) dX12_judge_102 rfl ?_
        refine mw_iald (pc := 103) 44 i hW dX12_judge_103 rfl rfl (by first | with_reducible rfl | assumption | rfl) (by show _ < 700; omega) (by omega) ?_
        refine mm_iconst (pc := 104) (v := 1) dX12_judge_104 (by decide) ?_
        refine mm_icmp_ne (pc := 105) (tgt := 117) dX12_judge_105 (by decide) (fun c105 => ?_) (fun c105 => ?_)
        · have c105 : ¬ M.2.2.1 44 i = 1 := c105
          refine mm_iload_n (pc := 117) dX12_judge_117 rfl ?_
          refine mm_callV (pc := 118) (As := [_, _, _]) (kd := ?kd_118_1) (fs := ?fs_118_1) dX12_judge_118 vl_X12_419 (ok_X12_find (M := jM M fp g) (n := n) (k := k) (j := c) (c0 := some k) hT hk hc (show k < n from hk) hW) ?hc_118_1 ?hk_118_1 rfl rfl (Nat.le_of_ble_eq_true rfl) ?_; (case hc_118_1 => exact hW.1); (case hk_118_1 => rfl)
          rintro _ h_ ⟨e_, rfl⟩
          have e_ := e_.symm
          subst e_
          refine mm_topi (oI (rn_fnd M ab k c (some k))) rfl ?_
          refine mm_if_ge (pc := 121) (tgt := 136) dX12_judge_121 (by decide) (fun c121 => ?_) (fun c121 => ?_)
          · have y121 : ¬ (rn_fnd M ab k c (some k)) = none := fun z => by rw [z] at c121; exact absurd c121 (by decide)
            refine mm_iinc (pc := 136) dX12_judge_136 rfl rfl rfl (Nat.le_of_ble_eq_true rfl) ?_
            refine mm_goto (pc := 139) (tgt := 40) dX12_judge_139 (by decide) ?_
            refine mm_weakK (ih (i + 1) (by omega) fp g h1 ?_ hW (by rw [eh])) (And.intro (by rw [← nI_1]; rfl) (And.intro rfl trivial))
            refine Eq.trans ?_ ((jd2C (i := i) (by omega)).symm.trans he)
            refine congrArg (jd2F M ab (nu - (i + 1)) (i + 1)) ?_
            unfold juS
            rw [if_neg c63, if_neg c105, e42, e45, nI_clamp (show k < 2 ^ 31 by omega), nI_clamp (show c < 2 ^ 31 by omega), if_neg y121]
          · have n121 : (rn_fnd M ab k c (some k)) = none := (oI_lt (fun y hy => fnd_lt hT hk hy)).mp (Int32.not_le.mp c121)
            refine mm_aload_n (pc := 124) dX12_judge_124 rfl (by first | trivial | assumption | exact mm_isr_rf _) ?_
            refine mm_bipush (pc := 125) (v := 6) dX12_judge_125 (by decide) ?_
            refine mm_aload_n (pc := 127) dX12_judge_127 rfl (by first | trivial | assumption | exact mm_isr_rf _) ?_
            refine mw_geta (pc := 128) 46 hW dX12_judge_128 fl_X12_106 rfl rfl ?_
            refine mm_iload_n (pc := 131) dX12_judge_131 rfl ?_
            refine mw_iald (pc := 132) 46 i hW dX12_judge_132 rfl rfl (by first | with_reducible rfl | assumption | rfl) (by show _ < 700; omega) (by omega) ?_
            refine mm_callV (pc := 133) (As := [_, _]) (kd := ?kd_133_2) (fs := ?fs_133_2) dX12_judge_133 vl_X12_333 (ok_X12_faulty hW) ?hc_133_2 ?hk_133_2 rfl rfl (Nat.le_of_ble_eq_true rfl) ?_; (case hc_133_2 => exact hW.1); (case hk_133_2 => rfl)
            rintro _ hf ⟨hW, ef, rfl⟩
            rw [rm_faulty_F] at hW
            refine mm_iinc (pc := 136) dX12_judge_136 rfl rfl rfl (Nat.le_of_ble_eq_true rfl) ?_
            refine mm_goto (pc := 139) (tgt := 40) dX12_judge_139 (by decide) ?_
            refine mm_weakK (ih (i + 1) (by omega) (flt fp 6 (M.2.2.1 46 i)) g hf ?_ hW (by rw [ef, eh])) (And.intro (by rw [← nI_1]; rfl) (And.intro rfl trivial))
            refine Eq.trans ?_ ((jd2C (i := i) (by omega)).symm.trans he)
            refine congrArg (jd2F M ab (nu - (i + 1)) (i + 1)) ?_
            unfold juS
            rw [if_neg c63, if_neg c105, e42, e45, nI_clamp (show k < 2 ^ 31 by omega), nI_clamp (show c < 2 ^ 31 by omega), if_pos n121]
        · have c105 : M.2.2.1 44 i = 1 := c105
          refine mm_aload_n (pc := 108) dX12_judge_108 rfl (by first | trivial | assumption | exact mm_isr_rf _) ?_
          refine mw_geta (pc := 109) 6 hW dX12_judge_109 fl_X12_26 rfl rfl ?_
          refine mm_iload_n (pc := 112) dX12_judge_112 rfl ?_
          refine mw_iald (pc := 113) 6 k hW dX12_judge_113 rfl rfl (by first | with_reducible rfl | assumption | rfl) (by show _ < 50; omega) (by omega) ?_
          refine mm_topi (oI (ab k)) (hT.2.2 k hk) ?_
          refine mm_goto (pc := 114) (tgt := 118) dX12_judge_114 (by decide) ?_
          refine mm_callV (pc := 118) (As := [_, _, _]) (kd := ?kd_118_3) (fs := ?fs_118_3) dX12_judge_118 vl_X12_419 (ok_X12_find (M := jM M fp g) (n := n) (k := k) (j := c) (c0 := ab k) hT hk hc (up_lt hT hk) hW) ?hc_118_3 ?hk_118_3 rfl rfl (Nat.le_of_ble_eq_true rfl) ?_; (case hc_118_3 => exact hW.1); (case hk_118_3 => rfl)
          rintro _ h_ ⟨e_, rfl⟩
          have e_ := e_.symm
          subst e_
          refine mm_topi (oI (rn_fnd M ab k c (ab k))) rfl ?_
          refine mm_if_ge (pc := 121) (tgt := 136) dX12_judge_121 (by decide) (fun c121 => ?_) (fun c121 => ?_)
          · have y121 : ¬ (rn_fnd M ab k c (ab k)) = none := fun z => by rw [z] at c121; exact absurd c121 (by decide)
            refine mm_iinc (pc := 136) dX12_judge_136 rfl rfl rfl (Nat.le_of_ble_eq_true rfl) ?_
            refine mm_goto (pc := 139) (tgt := 40) dX12_judge_139 (by decide) ?_
            refine mm_weakK (ih (i + 1) (by omega) fp g h1 ?_ hW (by rw [eh])) (And.intro (by rw [← nI_1]; rfl) (And.intro rfl trivial))
            refine Eq.trans ?_ ((jd2C (i := i) (by omega)).symm.trans he)
            refine congrArg (jd2F M ab (nu - (i + 1)) (i + 1)) ?_
            unfold juS
            rw [if_neg c63, if_pos c105, e42, e45, nI_clamp (show k < 2 ^ 31 by omega), nI_clamp (show c < 2 ^ 31 by omega), if_neg y121]
          · have n121 : (rn_fnd M ab k c (ab k)) = none := (oI_lt (fun y hy => fnd_lt2 hT hk hy)).mp (Int32.not_le.mp c121)
            refine mm_aload_n (pc := 124) dX12_judge_124 rfl (by first | trivial | assumption | exact mm_isr_rf _) ?_
            refine mm_bipush (pc := 125) (v := 6) dX12_judge_125 (by decide) ?_
            refine mm_aload_n (pc := 127) dX12_judge_127 rfl (by first | trivial | assumption | exact mm_isr_rf _) ?_
            refine mw_geta (pc := 128) 46 hW dX12_judge_128 fl_X12_106 rfl rfl ?_
            refine mm_iload_n (pc := 131) dX12_judge_131 rfl ?_
            refine mw_iald (pc := 132) 46 i hW dX12_judge_132 rfl rfl (by first | with_reducible rfl | assumption | rfl) (by show _ < 700; omega) (by omega) ?_
            refine mm_callV (pc := 133) (As := [_, _]) (kd := ?kd_133_4) (fs := ?fs_133_4) dX12_judge_133 vl_X12_333 (ok_X12_faulty hW) ?hc_133_4 ?hk_133_4 rfl rfl (Nat.le_of_ble_eq_true rfl) ?_; (case hc_133_4 => exact hW.1); (case hk_133_4 => rfl)
            rintro _ hf ⟨hW, ef, rfl⟩
            rw [rm_faulty_F] at hW
            refine mm_iinc (pc := 136) dX12_judge_136 rfl rfl rfl (Nat.le_of_ble_eq_true rfl) ?_
            refine mm_goto (pc := 139) (tgt := 40) dX12_judge_139 (by decide) ?_
            refine mm_weakK (ih (i + 1) (by omega) (flt fp 6 (M.2.2.1 46 i)) g hf ?_ hW (by rw [ef, eh])) (And.intro (by rw [← nI_1]; rfl) (And.intro rfl trivial))
            refine Eq.trans ?_ ((jd2C (i := i) (by omega)).symm.trans he)
            refine congrArg (jd2F M ab (nu - (i + 1)) (i + 1)) ?_
            unfold juS
            rw [if_neg c63, if_pos c105, e42, e45, nI_clamp (show k < 2 ^ 31 by omega), nI_clamp (show c < 2 ^ 31 by omega), if_pos n121]
      · have c63 : M.2.2.1 44 i = 8 := c63
        refine mm_aload_n (pc := 66) dX12_judge_66 rfl (by first | trivial | assumption | exact mm_isr_rf _) ?_
        refine mw_geta (pc := 67) 43 hW dX12_judge_67 fl_X12_97 rfl rfl ?_
        refine mm_iload_n (pc := 70) dX12_judge_70 rfl ?_
        refine mw_iald (pc := 71) 43 i hW dX12_judge_71 rfl rfl (by first | with_reducible rfl | assumption | rfl) (by show _ < 700; omega) (by omega) ?_
        refine mm_if_eq (pc := 72) (tgt := 136) dX12_judge_72 (by decide) (fun c72 => ?_) (fun c72 => ?_)
        · have c72 : M.2.2.1 43 i = 0 := c72
          refine mm_iinc (pc := 136) dX12_judge_136 rfl rfl rfl (Nat.le_of_ble_eq_true rfl) ?_
          refine mm_goto (pc := 139) (tgt := 40) dX12_judge_139 (by decide) ?_
          refine mm_weakK (ih (i + 1) (by omega) fp g h1 ?_ hW (by rw [eh])) (And.intro (by rw [← nI_1]; rfl) (And.intro rfl trivial))
          refine Eq.trans ?_ ((jd2C (i := i) (by omega)).symm.trans he)
          refine congrArg (jd2F M ab (nu - (i + 1)) (i + 1)) ?_
          unfold juS
          rw [if_pos c63, if_pos c72]
        · have c72 : ¬ M.2.2.1 43 i = 0 := c72
          refine mm_aload_n (pc := 75) dX12_judge_75 rfl (by first | trivial | assumption | exact mm_isr_rf _) ?_
          refine mm_bipush (pc := 76) (v := 7) dX12_judge_76 (by decide) ?_
          refine mm_aload_n (pc := 78) dX12_judge_78 rfl (by first | trivial | assumption | exact mm_isr_rf _) ?_
          refine mw_geta (pc := 79) 46 hW dX12_judge_79 fl_X12_106 rfl rfl ?_
          refine mm_iload_n (pc := 82) dX12_judge_82 rfl ?_
          refine mw_iald (pc := 83) 46 i hW dX12_judge_83 rfl rfl (by first | with_reducible rfl | assumption | rfl) (by show _ < 700; omega) (by omega) ?_
          refine mm_callV (pc := 84) (As := [_, _]) (kd := ?kd_84_5) (fs := ?fs_84_5) dX12_judge_84 vl_X12_333 (ok_X12_faulty hW) ?hc_84_5 ?hk_84_5 rfl rfl (Nat.le_of_ble_eq_true rfl) ?_; (case hc_84_5 => exact hW.1); (case hk_84_5 => rfl)
          rintro _ hf ⟨hW, ef, rfl⟩
          rw [rm_faulty_F] at hW
          refine mm_goto (pc := 87) (tgt := 136) dX12_judge_87 (by decide) ?_
          refine mm_iinc (pc := 136) dX12_judge_136 rfl rfl rfl (Nat.le_of_ble_eq_true rfl) ?_
          refine mm_goto (pc := 139) (tgt := 40) dX12_judge_139 (by decide) ?_
          refine mm_weakK (ih (i + 1) (by omega) (flt fp 7 (M.2.2.1 46 i)) g hf ?_ hW (by rw [ef, eh])) (And.intro (by rw [← nI_1]; rfl) (And.intro rfl trivial))
          refine Eq.trans ?_ ((jd2C (i := i) (by omega)).symm.trans he)
          refine congrArg (jd2F M ab (nu - (i + 1)) (i + 1)) ?_
          unfold juS
          rw [if_pos c63, if_neg c72]
  have lpA_ : ∀ (v i : Nat), i + v = nb → ∀ (fp : fp_T) (g : Nat → Int32) (h1 : mm_H), jd2F M ab nu 0 (jd1F M ab (nb - i) i fp) = T_ → mw_W m ad h0 (jM M fp g) h1 → h1.2 = h.2 → mm_Run G mX12_judge A L (d + 4) 2 [(1, .int (nI i)), (0, .ref m)] [] h1 (fun r h1 => ∃ g2, mw_W m ad h0 (jM M T_ g2) h1 ∧ h1.2 = h.2 ∧ r = none) := by
    intro v
    induction v with
    | zero =>
      intro i hi fp g h1 he hW eh
      have he : jd2F M ab (nu - 0) 0 fp = T_ := by rw [← he, show nb - i = 0 by omega]; rfl
      refine mm_iload_n (pc := 2) dX12_judge_2 rfl ?_
      refine mm_aload_n (pc := 3) dX12_judge_3 rfl (by first | trivial | assumption | exact mm_isr_rf _) ?_
      refine mw_gets (pc := 4) 37 hW dX12_judge_4 fl_X12_359 rfl rfl ?_
      refine mm_icmp_ge (pc := 7) (tgt := 38) dX12_judge_7 (by decide) (fun c7 => ?_) (fun c7 => absurd (show M.1 37 ≤ nI i by rw [hJ.1, show i = nb by omega]; exact Int32.le_refl _) c7)
      refine mm_iconst (pc := 38) (v := 0) dX12_judge_38 (by decide) ?_
      refine mm_istore_n (pc := 39) dX12_judge_39 rfl (Nat.le_of_ble_eq_true rfl) ?_
      exact mm_weakK (lpB_ nu 0 (by omega) fp g h1 he hW eh) (And.intro rfl (And.intro rfl trivial))
    | succ v ih =>
      intro i hi fp g h1 he hW eh
      obtain ⟨k, q, hk, hq, e38, e39⟩ := hJ.2.2.2.2.1 i (by omega)
      refine mm_iload_n (pc := 2) dX12_judge_2 rfl ?_
      refine mm_aload_n (pc := 3) dX12_judge_3 rfl (by first | trivial | assumption | exact mm_isr_rf _) ?_
      refine mw_gets (pc := 4) 37 hW dX12_judge_4 fl_X12_359 rfl rfl ?_
      refine mm_icmp_ge (pc := 7) (tgt := 38) dX12_judge_7 (by decide) (fun c7 => absurd c7 (show ¬ M.1 37 ≤ nI i by rw [hJ.1]; exact nI_ge (by omega) (by omega))) (fun c7 => ?_)
      refine mm_aload_n (pc := 10) dX12_judge_10 rfl (by first | trivial | assumption | exact mm_isr_rf _) ?_
      refine mm_aload_n (pc := 11) dX12_judge_11 rfl (by first | trivial | assumption | exact mm_isr_rf _) ?_
      refine mw_geta (pc := 12) 38 hW dX12_judge_12 fl_X12_85 rfl rfl ?_
      refine mm_iload_n (pc := 15) dX12_judge_15 rfl ?_
      refine mw_iald (pc := 16) 38 i hW dX12_judge_16 rfl rfl (by first | with_reducible rfl | assumption | rfl) (by show _ < 700; omega) (by omega) ?_
      refine mm_topi (nI k) e38 ?_
      refine mm_aload_n (pc := 17) dX12_judge_17 rfl (by first | trivial | assumption | exact mm_isr_rf _) ?_
      refine mw_geta (pc := 18) 39 hW dX12_judge_18 fl_X12_88 rfl rfl ?_
      refine mm_iload_n (pc := 21) dX12_judge_21 rfl ?_
      refine mw_iald (pc := 22) 39 i hW dX12_judge_22 rfl rfl (by first | with_reducible rfl | assumption | rfl) (by show _ < 700; omega) (by omega) ?_
      refine mm_topi (nI q) e39 ?_
      refine mm_aload_n (pc := 23) dX12_judge_23 rfl (by first | trivial | assumption | exact mm_isr_rf _) ?_
      refine mw_geta (pc := 24) 40 hW dX12_judge_24 fl_X12_91 rfl rfl ?_
      refine mm_iload_n (pc := 27) dX12_judge_27 rfl ?_
      refine mw_iald (pc := 28) 40 i hW dX12_judge_28 rfl rfl (by first | with_reducible rfl | assumption | rfl) (by show _ < 700; omega) (by omega) ?_
      refine mm_callV (pc := 29) (As := [_, _, _]) (kd := ?kd_29_6) (fs := ?fs_29_6) dX12_judge_29 vl_X12_415 (ok_judgeBody (n := n) (k := k) (q := q) hT hk hq hW) ?hc_29_6 ?hk_29_6 rfl rfl (Nat.le_of_ble_eq_true rfl) ?_; (case hc_29_6 => exact hW.1); (case hk_29_6 => rfl)
      rintro _ h29 ⟨g29, hW, e29, rfl⟩
      refine mm_iinc (pc := 32) dX12_judge_32 rfl rfl rfl (Nat.le_of_ble_eq_true rfl) ?_
      refine mm_goto (pc := 35) (tgt := 2) dX12_judge_35 (by decide) ?_
      refine mm_weakK (ih (i + 1) (by omega) (jbA M ab k q (M.2.2.1 40 i) 64 (ab k) fp) g29 h29 ?_ hW (by rw [e29, eh])) (And.intro (by rw [← nI_1]; rfl) (And.intro rfl trivial))
      refine Eq.trans ?_ ((congrArg (jd2F M ab nu 0) (jd1C (i := i) hJ.2.2.2.2.1 (by omega))).symm.trans he)
      rw [e38, e39, nI_clamp (by omega), nI_clamp (by omega)]
  refine mm_iconst (pc := 0) (v := 0) dX12_judge_0 (by decide) ?_
  refine mm_istore_n (pc := 1) dX12_judge_1 rfl (Nat.le_of_ble_eq_true rfl) ?_
  exact mm_weakK (lpA_ nb 0 (by omega) fp g h (by rw [hTe]; rfl) hW rfl) (And.intro rfl (And.intro rfl trivial))

