theorem i32_12 {x y : Int32} (h : y = x + 12) : x = y - 12 := by rw [h]; exact (Int32.add_sub_cancel ..).symm
theorem aA.oth0 {ad : Nat → Nat → Nat} {C : cw_C} {M : mw_S} (h : aA ad C M) (a : Nat) (h4 : cR C 0 a 4 = none) : aA ad C (mw_setV M 17 a (-1)) := by
  refine h.row a rfl rfl (fun i j e => ⟨rfl, rfl⟩) (fun j i e hj => ?_) (fun q => ?_)
  · by_cases z : j = 17
    · subst z; exact V_n e
    · rw [V_o z]
  · unfold aR
    rw [V_o (by decide), V_o (by decide), V_o (by decide), V_o (by decide), V_e, V_o (by decide), h4]
    exact ⟨q.1, q.2.1, q.2.2.1, q.2.2.2.1, lkR_n, q.2.2.2.2.2⟩
theorem nI_ne1 {a : Nat} (h : a < 4000) : ¬ nI a = -1 := fun z => nI_pos (show a < 2 ^ 31 by omega) (by rw [z]; decide)

theorem ra_l120 {G : mm_G} {L : Nat × Nat} {h0 : mm_H} {tb : Nat → Nat} {n k q f d deep t b A0 : Nat} {M : mw_S} {ad : Nat → Nat → Nat} {C : cw_C} {B : Nat × Nat} {A : Nat → Prop} {a : Nat} {a0 : Nat} {ad1 : Nat → Nat → Nat} {C1 : cw_C} {h1 : mm_H} {Mx : mw_S} {tx : Nat} (hs : lS h0 A0 ad C b B tb n a0 t a ad1 C1 h1 Mx tx) (hA : A0 ≤ a) (htb : ∀ i, tb i < 256) (rec_ : rB G L h0 tb n a0 k q f (deep + 1) (d + 3)) (hf : n - qs tb n t ≤ f) (hB1 : B.1 ≤ L.1) (hB2 : B.2 ≤ L.2) (hz : (pA tb n (pL tb n k q f) k q M t deep) = pE a (pO tb n (pL tb n k q f) Mx tx a deep)) (hv14 : Mx.2.2.1 14 a = 9) (ha4 : a < 4000) : mm_Run G mX6_readAction A L (d + 4) 120 [(3, .ref (ad1 0 a)), (0, .ref (ad1 6 0)), (1, .ref (ad1 1 b)), (2, .int (nI deep))] [] h1 (aQ h0 A0 ad C b B tb n (-1) (pA tb n (pL tb n k q f) k q M t deep)) := by
  obtain ⟨hC, fb, sb, hrm, n0, hw0, hw4, hI, htx⟩ := hs
  have hr := sb.1
  have n6 := hr.1
  have n1 := sb.2.2.1
  have hn8 : n ≤ 800 := by have := hI.n7; omega
  have hfx : n - qs tb n tx ≤ f := by have := qs_le_of (tb := tb) (n := n) (show t ≤ tx by omega); omega
  refine mm_aload_n (pc := 120) dX6_readAction_120 rfl (by first | trivial | assumption | exact mm_isr_rf _) ?_
  refine mm_bipush (pc := 121) (v := 30) dX6_readAction_121 (by decide) ?_
  refine mm_callV (pc := 123) (As := [_]) (kd := ?kd_123_1) (fs := ?fs_123_1) dX6_readAction_123 vl_X6_39 (se_live (c := 30) (by decide) hr hn8 hC) ?hc_123_1 ?hk_123_1 rfl rfl (Nat.le_of_ble_eq_true rfl) ?_; (case hc_123_1 => exact cw_cell (f := 6) hC rfl rfl n6); (case hk_123_1 => rfl)
  rintro _ _ ⟨rfl, rfl⟩
  refine mm_if_eq (pc := 126) (tgt := 148) dX6_readAction_126 (by decide) (fun c126 => ?_) (fun c126 => ?_)
  · have cm : ¬ cd tb n tx = 30 := bI_d.mp c126
    refine mm_aload_n (pc := 148) dX6_readAction_148 rfl (by first | trivial | assumption | exact mm_isr_rf _) ?_
    refine mm_aret (pc := 149) dX6_readAction_149 rfl (Or.inl ⟨_, rfl⟩) (by first | trivial | assumption | exact mm_isr_rf _) ?_
    have hz2 : (pA tb n (pL tb n k q f) k q M t deep) = (nI a, mw_setV Mx 17 a (-1), tx) := by
      rw [hz]; unfold pO; rw [if_neg (by rw [hv14]; decide), if_neg cm]; rfl
    refine ⟨ad1, C1, hC, fb, Or.inl ⟨?_, ?_, ?_, some (ad1 0 a), rfl, ?_⟩⟩
    · rw [hz2]; exact nI_ne1 ha4
    · rw [hz2]; exact ⟨hr, sb.2.1.oth0 a hw4, n1, sb.2.2.2⟩
    · rw [hz2]; exact hrm
    · rw [hz2]; exact Or.inr ⟨a, n0, rfl, rfl⟩
  · have cm : cd tb n tx = 30 := bI_n c126
    refine mm_aload_n (pc := 129) dX6_readAction_129 rfl (by first | trivial | assumption | exact mm_isr_rf _) ?_
    refine mm_bipush (pc := 130) (v := 30) dX6_readAction_130 (by decide) ?_
    refine mm_callV (pc := 132) (As := [_]) (kd := ?kd_132_2) (fs := ?fs_132_2) dX6_readAction_132 vl_X6_31 (tk_ok hr hn8 hC (by rw [cm]; rfl) (by omega)) ?hc_132_2 ?hk_132_2 rfl rfl (Nat.le_of_ble_eq_true rfl) ?_; (case hc_132_2 => exact cw_cell (f := 6) hC rfl rfl n6); (case hk_132_2 => rfl)
    rintro _ h132 ⟨C2, hC, k_, e_, hr2, rfl⟩
    have sb_ := sb.take k_ hr2 (M' := pw tb n Mx tx) rfl rfl rfl rfl rfl rfl rfl rfl
    have rm_ := hrm.mono (qs_le_of (tb := tb) (n := n) (Nat.le_succ tx)) e_
    have n0_ : a < cN C2 0 := by rw [k_.N (by decide)]; exact n0
    have n1_ : b < cN C2 1 := by rw [k_.N (by decide)]; exact n1
    refine mm_pop2 (pc := 135) dX6_readAction_135 rfl ?_
    refine mm_aload_n (pc := 136) dX6_readAction_136 rfl (by first | trivial | assumption | exact mm_isr_rf _) ?_
    refine mm_aload_n (pc := 137) dX6_readAction_137 rfl (by first | trivial | assumption | exact mm_isr_rf _) ?_
    refine mm_aload_n (pc := 138) dX6_readAction_138 rfl (by first | trivial | assumption | exact mm_isr_rf _) ?_
    refine mm_iload_n (pc := 139) dX6_readAction_139 rfl ?_
    refine mm_iconst (pc := 140) (v := 1) dX6_readAction_140 (by decide) ?_
    refine mm_iadd (pc := 141) dX6_readAction_141 ?_
    rw [show nI deep + 1 = nI (deep + 1) from nI_add deep 1]
    refine mm_callV (pc := 142) (As := [_, _]) (kd := ?kd_142_3) (fs := ?fs_142_3) dX6_readAction_142 vl_X6_91 (rec_ ad1 C2 (pw tb n Mx tx) (tx + 1) b (cN C2 0) B _ hI.w (by have := qs_le_of (tb := tb) (n := n) (show tx ≤ (tx + 1) by omega); omega) sb_ (Nat.le_refl _) rm_ hB1 hB2 hC) ?hc_142_3 ?hk_142_3 rfl rfl (Nat.le_of_ble_eq_true rfl) ?_; (case hc_142_3 => exact cw_cell (f := 6) hC rfl rfl sb_.1.1); (case hk_142_3 => rfl)
    rintro _ h2 ⟨ad2, C2_, hC, fb2, ⟨zne, sb2, rm2, o2, rfl, lk2⟩ | ⟨zeq, p2, rd2, pl2, rm2, o2, rfl⟩⟩
    · rw [← fb2.1 6 0 (by decide), ← fb2.1 1 b (by decide), ← fb2.2.1 a n0_]
      have n0b : a < cN C2_ 0 := Nat.lt_of_lt_of_le n0_ fb2.2.2.2.2.2.2.1
      have hz2 : (pA tb n (pL tb n k q f) k q M t deep) = (nI a, mw_setV (pB tb n (pL tb n k q f) (pw tb n Mx tx) (tx + 1) (deep + 1)).2.1 17 a (pB tb n (pL tb n k q f) (pw tb n Mx tx) (tx + 1) (deep + 1)).1, (pB tb n (pL tb n k q f) (pw tb n Mx tx) (tx + 1) (deep + 1)).2.2) := by
        rw [hz]; unfold pO; rw [if_neg (by rw [hv14]; decide), if_pos cm]; unfold pO1 pT; rw [if_pos cm, if_neg (show ¬ (1 : Int32) = 0 by decide)]; unfold pO2 pE; rw [if_neg zne]; rfl
      refine cw_pr (pc := 145) (x := o2) 0 _ 4 hC (rfl) rfl (n0b) dX6_readAction_145 (pl_X6_136 _) rfl rfl (rfl) (fun h145 hC e145 => ?_)
      refine mm_aload_n (pc := 148) dX6_readAction_148 rfl (by first | trivial | assumption | exact mm_isr_rf _) ?_
      refine mm_aret (pc := 149) dX6_readAction_149 rfl (Or.inl ⟨_, rfl⟩) (by first | trivial | assumption | exact mm_isr_rf _) ?_
      refine ⟨ad2, _, hC, ((fb.six k_).trans fb2 (by rw [k_.N (by decide)]; omega)).sR0 hA, Or.inl ⟨?_, ?_, ?_, some (ad2 0 a), rfl, ?_⟩⟩
      · rw [hz2]; exact nI_ne1 ha4
      · rw [hz2]; exact ⟨sb2.1.same (cw_sR_o (by decide)) (cw_sR_o (by decide)) (fun _ _ => rfl), sb2.2.1.oth a lk2, by rw [cw_sR_N]; exact sb2.2.2.1, by rw [cI_sR]; exact sb2.2.2.2⟩
      · rw [hz2]; exact rm2.mono (Nat.le_refl _) e145
      · rw [hz2]; exact Or.inr ⟨a, by rw [cw_sR_N]; exact n0b, rfl, rfl⟩
    · rw [← fb2.1 6 0 (by decide), ← fb2.1 1 b (by decide), ← fb2.2.1 a n0_]
      have n0b : a < cN C2_ 0 := Nat.lt_of_lt_of_le n0_ fb2.2.2.2.2.2.2.1
      have hz2 : (pA tb n (pL tb n k q f) k q M t deep) = (-1, mw_setV (pB tb n (pL tb n k q f) (pw tb n Mx tx) (tx + 1) (deep + 1)).2.1 17 a (pB tb n (pL tb n k q f) (pw tb n Mx tx) (tx + 1) (deep + 1)).1, (pB tb n (pL tb n k q f) (pw tb n Mx tx) (tx + 1) (deep + 1)).2.2) := by
        rw [hz]; unfold pO; rw [if_neg (by rw [hv14]; decide), if_pos cm]; unfold pO1 pT; rw [if_pos cm, if_neg (show ¬ (1 : Int32) = 0 by decide)]; unfold pO2 pE; rw [if_pos zeq]; rfl
      exact ra_d145 ⟨hC, (fb.six k_).trans fb2 (by rw [k_.N (by decide)]; omega), ⟨p2, rd2, by rw [hz2]; exact pl2⟩, by rw [hz2], rm2, n0b, by rw [fb2.2.2.2.1, k_.N (by decide)]; exact n1⟩ hA

theorem ra_l162 {G : mm_G} {L : Nat × Nat} {h0 : mm_H} {tb : Nat → Nat} {n k q f d deep t b A0 : Nat} {M : mw_S} {ad : Nat → Nat → Nat} {C : cw_C} {B : Nat × Nat} {A : Nat → Prop} {a : Nat} {a0 : Nat} {ad1 : Nat → Nat → Nat} {C1 : cw_C} {h1 : mm_H} {Mx : mw_S} {tx : Nat} (hs : lS h0 A0 ad C b B tb n a0 t a ad1 C1 h1 Mx tx) (hA : A0 ≤ a) (htb : ∀ i, tb i < 256) (rec_ : rB G L h0 tb n a0 k q f (deep + 1) (d + 3)) (hf : n - qs tb n t ≤ f) (hB1 : B.1 ≤ L.1) (hB2 : B.2 ≤ L.2) (hz : (pA tb n (pL tb n k q f) k q M t deep) = pE a (pO tb n (pL tb n k q f) Mx tx a deep)) (hv14 : Mx.2.2.1 14 a = 10) (ha4 : a < 4000) : mm_Run G mX6_readAction A L (d + 4) 162 [(3, .ref (ad1 0 a)), (0, .ref (ad1 6 0)), (1, .ref (ad1 1 b)), (2, .int (nI deep))] [] h1 (aQ h0 A0 ad C b B tb n (-1) (pA tb n (pL tb n k q f) k q M t deep)) := by
  obtain ⟨hC, fb, sb, hrm, n0, hw0, hw4, hI, htx⟩ := hs
  have hr := sb.1
  have n6 := hr.1
  have n1 := sb.2.2.1
  have hn8 : n ≤ 800 := by have := hI.n7; omega
  have hfx : n - qs tb n tx ≤ f := by have := qs_le_of (tb := tb) (n := n) (show t ≤ tx by omega); omega
  refine mm_aload_n (pc := 162) dX6_readAction_162 rfl (by first | trivial | assumption | exact mm_isr_rf _) ?_
  refine mm_bipush (pc := 163) (v := 31) dX6_readAction_163 (by decide) ?_
  refine mm_callV (pc := 165) (As := [_]) (kd := ?kd_165_4) (fs := ?fs_165_4) dX6_readAction_165 vl_X6_31 (tk_any (c := 31) hr hn8 hC (by decide) (by decide)) ?hc_165_4 ?hk_165_4 rfl rfl (Nat.le_of_ble_eq_true rfl) ?_; (case hc_165_4 => exact cw_cell (f := 6) hC rfl rfl n6); (case hk_165_4 => rfl)
  rintro _ h165 ⟨C2, hC, k_, e_, ⟨v_, rfl, -⟩, ⟨cm, hr2⟩ | ⟨cm, hr2⟩⟩
  · have sb_ := sb.take k_ hr2 (M' := pw tb n Mx tx) rfl rfl rfl rfl rfl rfl rfl rfl
    have rm_ := hrm.mono (qs_le_of (tb := tb) (n := n) (Nat.le_succ tx)) e_
    have n0_ : a < cN C2 0 := by rw [k_.N (by decide)]; exact n0
    have n1_ : b < cN C2 1 := by rw [k_.N (by decide)]; exact n1
    refine mm_pop2 (pc := 168) dX6_readAction_168 rfl ?_
    refine mm_aload_n (pc := 169) dX6_readAction_169 rfl (by first | trivial | assumption | exact mm_isr_rf _) ?_
    refine mm_aload_n (pc := 170) dX6_readAction_170 rfl (by first | trivial | assumption | exact mm_isr_rf _) ?_
    refine mm_aload_n (pc := 171) dX6_readAction_171 rfl (by first | trivial | assumption | exact mm_isr_rf _) ?_
    refine mm_iload_n (pc := 172) dX6_readAction_172 rfl ?_
    refine mm_iconst (pc := 173) (v := 1) dX6_readAction_173 (by decide) ?_
    refine mm_iadd (pc := 174) dX6_readAction_174 ?_
    rw [show nI deep + 1 = nI (deep + 1) from nI_add deep 1]
    refine mm_callV (pc := 175) (As := [_, _]) (kd := ?kd_175_5) (fs := ?fs_175_5) dX6_readAction_175 vl_X6_91 (rec_ ad1 C2 (pw tb n Mx tx) (tx + 1) b (cN C2 0) B _ hI.w (by have := qs_le_of (tb := tb) (n := n) (show tx ≤ (tx + 1) by omega); omega) sb_ (Nat.le_refl _) rm_ hB1 hB2 hC) ?hc_175_5 ?hk_175_5 rfl rfl (Nat.le_of_ble_eq_true rfl) ?_; (case hc_175_5 => exact cw_cell (f := 6) hC rfl rfl sb_.1.1); (case hk_175_5 => rfl)
    rintro _ h2 ⟨ad2, C2_, hC, fb2, ⟨zne, sb2, rm2, o2, rfl, lk2⟩ | ⟨zeq, p2, rd2, pl2, rm2, o2, rfl⟩⟩
    · rw [← fb2.1 6 0 (by decide), ← fb2.1 1 b (by decide), ← fb2.2.1 a n0_]
      have n0b : a < cN C2_ 0 := Nat.lt_of_lt_of_le n0_ fb2.2.2.2.2.2.2.1
      have hz2 : (pA tb n (pL tb n k q f) k q M t deep) = (nI a, mw_setV (pB tb n (pL tb n k q f) (pw tb n Mx tx) (tx + 1) (deep + 1)).2.1 17 a (pB tb n (pL tb n k q f) (pw tb n Mx tx) (tx + 1) (deep + 1)).1, (pB tb n (pL tb n k q f) (pw tb n Mx tx) (tx + 1) (deep + 1)).2.2) := by
        rw [hz]; unfold pO; rw [if_pos hv14]; unfold pO1 pT; rw [if_pos cm, if_neg (show ¬ (1 : Int32) = 0 by decide)]; unfold pO2 pE; rw [if_neg zne]; rfl
      refine cw_pr (pc := 178) (x := o2) 0 _ 4 hC (rfl) rfl (n0b) dX6_readAction_178 (pl_X6_136 _) rfl rfl (rfl) (fun h178 hC e178 => ?_)
      refine mm_aload_n (pc := 181) dX6_readAction_181 rfl (by first | trivial | assumption | exact mm_isr_rf _) ?_
      refine mm_aret (pc := 182) dX6_readAction_182 rfl (Or.inl ⟨_, rfl⟩) (by first | trivial | assumption | exact mm_isr_rf _) ?_
      refine ⟨ad2, _, hC, ((fb.six k_).trans fb2 (by rw [k_.N (by decide)]; omega)).sR0 hA, Or.inl ⟨?_, ?_, ?_, some (ad2 0 a), rfl, ?_⟩⟩
      · rw [hz2]; exact nI_ne1 ha4
      · rw [hz2]; exact ⟨sb2.1.same (cw_sR_o (by decide)) (cw_sR_o (by decide)) (fun _ _ => rfl), sb2.2.1.oth a lk2, by rw [cw_sR_N]; exact sb2.2.2.1, by rw [cI_sR]; exact sb2.2.2.2⟩
      · rw [hz2]; exact rm2.mono (Nat.le_refl _) e178
      · rw [hz2]; exact Or.inr ⟨a, by rw [cw_sR_N]; exact n0b, rfl, rfl⟩
    · rw [← fb2.1 6 0 (by decide), ← fb2.1 1 b (by decide), ← fb2.2.1 a n0_]
      have n0b : a < cN C2_ 0 := Nat.lt_of_lt_of_le n0_ fb2.2.2.2.2.2.2.1
      have hz2 : (pA tb n (pL tb n k q f) k q M t deep) = (-1, mw_setV (pB tb n (pL tb n k q f) (pw tb n Mx tx) (tx + 1) (deep + 1)).2.1 17 a (pB tb n (pL tb n k q f) (pw tb n Mx tx) (tx + 1) (deep + 1)).1, (pB tb n (pL tb n k q f) (pw tb n Mx tx) (tx + 1) (deep + 1)).2.2) := by
        rw [hz]; unfold pO; rw [if_pos hv14]; unfold pO1 pT; rw [if_pos cm, if_neg (show ¬ (1 : Int32) = 0 by decide)]; unfold pO2 pE; rw [if_pos zeq]; rfl
      exact ra_d178 ⟨hC, (fb.six k_).trans fb2 (by rw [k_.N (by decide)]; omega), ⟨p2, rd2, by rw [hz2]; exact pl2⟩, by rw [hz2], rm2, n0b, by rw [fb2.2.2.2.1, k_.N (by decide)]; exact n1⟩ hA
  · have hz2 : (pA tb n (pL tb n k q f) k q M t deep) = (-1, pf tb n Mx tx, tx) := by
      rw [hz]; unfold pO; rw [if_pos hv14]; unfold pO1 pT; rw [if_neg cm, if_pos rfl]; rfl
    exact ra_d168 ⟨hC, fb.six k_, ⟨qs tb n tx, hr2, by rw [hz2]; rfl⟩, by rw [hz2], hrm.mono (qs_le tx) e_, by rw [k_.N (by decide)]; exact n0, by rw [k_.N (by decide)]; exact n1⟩ hA

theorem ra_l108 {G : mm_G} {L : Nat × Nat} {h0 : mm_H} {tb : Nat → Nat} {n k q f d deep t b A0 : Nat} {M : mw_S} {ad : Nat → Nat → Nat} {C : cw_C} {B : Nat × Nat} {A : Nat → Prop} {a : Nat} {a0 : Nat} {ad1 : Nat → Nat → Nat} {C1 : cw_C} {h1 : mm_H} {Mx : mw_S} {tx : Nat} (hs : lS h0 A0 ad C b B tb n a0 t a ad1 C1 h1 Mx tx) (hA : A0 ≤ a) (htb : ∀ i, tb i < 256) (rec_ : rB G L h0 tb n a0 k q f (deep + 1) (d + 3)) (hf : n - qs tb n t ≤ f) (hB1 : B.1 ≤ L.1) (hB2 : B.2 ≤ L.2) (hz : (pA tb n (pL tb n k q f) k q M t deep) = pE a (pPt tb n (pL tb n k q f) Mx tx a deep)) (hcd : cd tb n t = 21) (ha4 : a < 4000) : mm_Run G mX6_readAction A L (d + 4) 108 [(3, .ref (ad1 0 a)), (0, .ref (ad1 6 0)), (1, .ref (ad1 1 b)), (2, .int (nI deep))] [] h1 (aQ h0 A0 ad C b B tb n (-1) (pA tb n (pL tb n k q f) k q M t deep)) := by
  obtain ⟨hC, fb, sb, hrm, n0, hw0, hw4, hI, htx⟩ := hs
  have hr := sb.1
  have n6 := hr.1
  have n1 := sb.2.2.1
  have hn8 : n ≤ 800 := by have := hI.n7; omega
  have hfx : n - qs tb n tx ≤ f := by have := qs_le_of (tb := tb) (n := n) (show t ≤ tx by omega); omega
  refine mm_aload_n (pc := 108) dX6_readAction_108 rfl (by first | trivial | assumption | exact mm_isr_rf _) ?_
  refine mm_aload_n (pc := 109) dX6_readAction_109 rfl (by first | trivial | assumption | exact mm_isr_rf _) ?_
  refine mm_aload_n (pc := 110) dX6_readAction_110 rfl (by first | trivial | assumption | exact mm_isr_rf _) ?_
  refine mm_iload_n (pc := 111) dX6_readAction_111 rfl ?_
  refine mm_iconst (pc := 112) (v := 1) dX6_readAction_112 (by decide) ?_
  refine mm_iadd (pc := 113) dX6_readAction_113 ?_
  rw [show nI deep + 1 = nI (deep + 1) from nI_add deep 1]
  refine mm_callV (pc := 114) (As := [_, _]) (kd := ?kd_114_6) (fs := ?fs_114_6) dX6_readAction_114 vl_X6_91 (rec_ ad1 C1 Mx tx b (cN C1 0) B _ hI (by have := qs_le_of (tb := tb) (n := n) (show tx ≤ tx by omega); omega) sb (Nat.le_refl _) hrm hB1 hB2 hC) ?hc_114_6 ?hk_114_6 rfl rfl (Nat.le_of_ble_eq_true rfl) ?_; (case hc_114_6 => exact cw_cell (f := 6) hC rfl rfl n6); (case hk_114_6 => rfl)
  rintro _ h2 ⟨ad2, C2_, hC, fb2, ⟨zne, sb2, rm2, o2, rfl, lk2⟩ | ⟨zeq, p2, rd2, pl2, rm2, o2, rfl⟩⟩
  · rw [← fb2.1 6 0 (by decide), ← fb2.1 1 b (by decide), ← fb2.2.1 a n0]
    have n0b : a < cN C2_ 0 := Nat.lt_of_lt_of_le n0 fb2.2.2.2.2.2.2.1
    have gB := (pB_post (pL_post k q f) hI (by have := qs_le_of (tb := tb) (n := n) (show tx ≤ tx by omega); omega) (deep + 1)).resolve_left zne
    refine cw_pr (pc := 117) (x := o2) 0 _ 3 hC (rfl) rfl (n0b) dX6_readAction_117 (pl_X6_133 _) rfl rfl (rfl) (fun h117 hC e117 => ?_)
    refine ra_l120 (ad1 := ad2) (C1 := cw_sR C2_ 0 a 3 o2) (Mx := mw_setV (pB tb n (pL tb n k q f) Mx tx (deep + 1)).2.1 16 a (pB tb n (pL tb n k q f) Mx tx (deep + 1)).1) (tx := (pB tb n (pL tb n k q f) Mx tx (deep + 1)).2.2) ⟨hC, (fb.trans fb2 (by omega)).sR0 hA, ⟨sb2.1.same (cw_sR_o (by decide)) (cw_sR_o (by decide)) (fun _ _ => rfl), sb2.2.1.inn a lk2, by rw [cw_sR_N]; exact sb2.2.2.1, by rw [cI_sR]; exact sb2.2.2.2⟩, rm2.mono (Nat.le_refl _) e117, by rw [cw_sR_N]; exact n0b, by rw [cI_sR, (fb2.2.2.2.2.2.2.2 a 0 n0).1]; exact hw0, by rw [cR_sR_n (by omega), (fb2.2.2.2.2.2.2.2 a 4 n0).2]; exact hw4, gB.1.sV rfl, by have := gB.2; omega⟩ hA htb rec_ hf hB1 hB2 (by rw [hz]; unfold pPt pPt1; rw [if_neg zne]) ?_ ha4
    show (mw_setV (pB tb n (pL tb n k q f) Mx tx (deep + 1)).2.1 16 a (pB tb n (pL tb n k q f) Mx tx (deep + 1)).1).2.2.1 14 a = _
    have q1_ := (sb2.2.1.2.2 a n0b).1
    rw [(fb2.2.2.2.2.2.2.2 a 0 n0).1, hw0, hcd] at q1_
    rw [V_o (by decide), i32_12 q1_]
    rfl
  · rw [← fb2.1 6 0 (by decide), ← fb2.1 1 b (by decide), ← fb2.2.1 a n0]
    have n0b : a < cN C2_ 0 := Nat.lt_of_lt_of_le n0 fb2.2.2.2.2.2.2.1
    have hz2 : (pA tb n (pL tb n k q f) k q M t deep) = (-1, mw_setV (pB tb n (pL tb n k q f) Mx tx (deep + 1)).2.1 16 a (pB tb n (pL tb n k q f) Mx tx (deep + 1)).1, (pB tb n (pL tb n k q f) Mx tx (deep + 1)).2.2) := by
      rw [hz]; unfold pPt pPt1; rw [if_pos zeq]; rfl
    exact ra_d117 ⟨hC, fb.trans fb2 (by omega), ⟨p2, rd2, by rw [hz2]; exact pl2⟩, by rw [hz2], rm2, n0b, by rw [fb2.2.2.2.1]; exact n1⟩ hA

theorem ra_l150 {G : mm_G} {L : Nat × Nat} {h0 : mm_H} {tb : Nat → Nat} {n k q f d deep t b A0 : Nat} {M : mw_S} {ad : Nat → Nat → Nat} {C : cw_C} {B : Nat × Nat} {A : Nat → Prop} {a : Nat} {a0 : Nat} {ad1 : Nat → Nat → Nat} {C1 : cw_C} {h1 : mm_H} {Mx : mw_S} {tx : Nat} (hs : lS h0 A0 ad C b B tb n a0 t a ad1 C1 h1 Mx tx) (hA : A0 ≤ a) (htb : ∀ i, tb i < 256) (rec_ : rB G L h0 tb n a0 k q f (deep + 1) (d + 3)) (hf : n - qs tb n t ≤ f) (hB1 : B.1 ≤ L.1) (hB2 : B.2 ≤ L.2) (hz : (pA tb n (pL tb n k q f) k q M t deep) = pE a (pPt tb n (pL tb n k q f) Mx tx a deep)) (hcd : cd tb n t = 22) (ha4 : a < 4000) : mm_Run G mX6_readAction A L (d + 4) 150 [(3, .ref (ad1 0 a)), (0, .ref (ad1 6 0)), (1, .ref (ad1 1 b)), (2, .int (nI deep))] [] h1 (aQ h0 A0 ad C b B tb n (-1) (pA tb n (pL tb n k q f) k q M t deep)) := by
  obtain ⟨hC, fb, sb, hrm, n0, hw0, hw4, hI, htx⟩ := hs
  have hr := sb.1
  have n6 := hr.1
  have n1 := sb.2.2.1
  have hn8 : n ≤ 800 := by have := hI.n7; omega
  have hfx : n - qs tb n tx ≤ f := by have := qs_le_of (tb := tb) (n := n) (show t ≤ tx by omega); omega
  refine mm_aload_n (pc := 150) dX6_readAction_150 rfl (by first | trivial | assumption | exact mm_isr_rf _) ?_
  refine mm_aload_n (pc := 151) dX6_readAction_151 rfl (by first | trivial | assumption | exact mm_isr_rf _) ?_
  refine mm_aload_n (pc := 152) dX6_readAction_152 rfl (by first | trivial | assumption | exact mm_isr_rf _) ?_
  refine mm_iload_n (pc := 153) dX6_readAction_153 rfl ?_
  refine mm_iconst (pc := 154) (v := 1) dX6_readAction_154 (by decide) ?_
  refine mm_iadd (pc := 155) dX6_readAction_155 ?_
  rw [show nI deep + 1 = nI (deep + 1) from nI_add deep 1]
  refine mm_callV (pc := 156) (As := [_, _]) (kd := ?kd_156_7) (fs := ?fs_156_7) dX6_readAction_156 vl_X6_91 (rec_ ad1 C1 Mx tx b (cN C1 0) B _ hI (by have := qs_le_of (tb := tb) (n := n) (show tx ≤ tx by omega); omega) sb (Nat.le_refl _) hrm hB1 hB2 hC) ?hc_156_7 ?hk_156_7 rfl rfl (Nat.le_of_ble_eq_true rfl) ?_; (case hc_156_7 => exact cw_cell (f := 6) hC rfl rfl n6); (case hk_156_7 => rfl)
  rintro _ h2 ⟨ad2, C2_, hC, fb2, ⟨zne, sb2, rm2, o2, rfl, lk2⟩ | ⟨zeq, p2, rd2, pl2, rm2, o2, rfl⟩⟩
  · rw [← fb2.1 6 0 (by decide), ← fb2.1 1 b (by decide), ← fb2.2.1 a n0]
    have n0b : a < cN C2_ 0 := Nat.lt_of_lt_of_le n0 fb2.2.2.2.2.2.2.1
    have gB := (pB_post (pL_post k q f) hI (by have := qs_le_of (tb := tb) (n := n) (show tx ≤ tx by omega); omega) (deep + 1)).resolve_left zne
    refine cw_pr (pc := 159) (x := o2) 0 _ 3 hC (rfl) rfl (n0b) dX6_readAction_159 (pl_X6_133 _) rfl rfl (rfl) (fun h159 hC e159 => ?_)
    refine ra_l162 (ad1 := ad2) (C1 := cw_sR C2_ 0 a 3 o2) (Mx := mw_setV (pB tb n (pL tb n k q f) Mx tx (deep + 1)).2.1 16 a (pB tb n (pL tb n k q f) Mx tx (deep + 1)).1) (tx := (pB tb n (pL tb n k q f) Mx tx (deep + 1)).2.2) ⟨hC, (fb.trans fb2 (by omega)).sR0 hA, ⟨sb2.1.same (cw_sR_o (by decide)) (cw_sR_o (by decide)) (fun _ _ => rfl), sb2.2.1.inn a lk2, by rw [cw_sR_N]; exact sb2.2.2.1, by rw [cI_sR]; exact sb2.2.2.2⟩, rm2.mono (Nat.le_refl _) e159, by rw [cw_sR_N]; exact n0b, by rw [cI_sR, (fb2.2.2.2.2.2.2.2 a 0 n0).1]; exact hw0, by rw [cR_sR_n (by omega), (fb2.2.2.2.2.2.2.2 a 4 n0).2]; exact hw4, gB.1.sV rfl, by have := gB.2; omega⟩ hA htb rec_ hf hB1 hB2 (by rw [hz]; unfold pPt pPt1; rw [if_neg zne]) ?_ ha4
    show (mw_setV (pB tb n (pL tb n k q f) Mx tx (deep + 1)).2.1 16 a (pB tb n (pL tb n k q f) Mx tx (deep + 1)).1).2.2.1 14 a = _
    have q1_ := (sb2.2.1.2.2 a n0b).1
    rw [(fb2.2.2.2.2.2.2.2 a 0 n0).1, hw0, hcd] at q1_
    rw [V_o (by decide), i32_12 q1_]
    rfl
  · rw [← fb2.1 6 0 (by decide), ← fb2.1 1 b (by decide), ← fb2.2.1 a n0]
    have n0b : a < cN C2_ 0 := Nat.lt_of_lt_of_le n0 fb2.2.2.2.2.2.2.1
    have hz2 : (pA tb n (pL tb n k q f) k q M t deep) = (-1, mw_setV (pB tb n (pL tb n k q f) Mx tx (deep + 1)).2.1 16 a (pB tb n (pL tb n k q f) Mx tx (deep + 1)).1, (pB tb n (pL tb n k q f) Mx tx (deep + 1)).2.2) := by
      rw [hz]; unfold pPt pPt1; rw [if_pos zeq]; rfl
    exact ra_d159 ⟨hC, fb.trans fb2 (by omega), ⟨p2, rd2, by rw [hz2]; exact pl2⟩, by rw [hz2], rm2, n0b, by rw [fb2.2.2.2.1]; exact n1⟩ hA

theorem ra_l100 {G : mm_G} {L : Nat × Nat} {h0 : mm_H} {tb : Nat → Nat} {n k q f d deep t b A0 : Nat} {M : mw_S} {ad : Nat → Nat → Nat} {C : cw_C} {B : Nat × Nat} {A : Nat → Prop} {a : Nat} {a0 : Nat} {ad1 : Nat → Nat → Nat} {C1 : cw_C} {h1 : mm_H} {Mx : mw_S} {tx : Nat} (hs : lS h0 A0 ad C b B tb n a0 t a ad1 C1 h1 Mx tx) (hA : A0 ≤ a) (htb : ∀ i, tb i < 256) (rec_ : rB G L h0 tb n a0 k q f (deep + 1) (d + 3)) (hf : n - qs tb n t ≤ f) (hB1 : B.1 ≤ L.1) (hB2 : B.2 ≤ L.2) (hz : (pA tb n (pL tb n k q f) k q M t deep) = pA2 tb n (pL tb n k q f) 9 a deep (pNum tb n Mx tx a)) (hcd : cd tb n t = 21) (ha4 : a < 4000) : mm_Run G mX6_readAction A L (d + 4) 100 [(3, .ref (ad1 0 a)), (0, .ref (ad1 6 0)), (1, .ref (ad1 1 b)), (2, .int (nI deep))] [] h1 (aQ h0 A0 ad C b B tb n (-1) (pA tb n (pL tb n k q f) k q M t deep)) := by
  obtain ⟨hC, fb, sb, hrm, n0, hw0, hw4, hI, htx⟩ := hs
  have hr := sb.1
  have n6 := hr.1
  have n1 := sb.2.2.1
  have hn8 : n ≤ 800 := by have := hI.n7; omega
  have hfx : n - qs tb n tx ≤ f := by have := qs_le_of (tb := tb) (n := n) (show t ≤ tx by omega); omega
  refine mm_aload_n (pc := 100) dX6_readAction_100 rfl (by first | trivial | assumption | exact mm_isr_rf _) ?_
  refine mm_aload_n (pc := 101) dX6_readAction_101 rfl (by first | trivial | assumption | exact mm_isr_rf _) ?_
  refine mm_callV (pc := 102) (As := []) (kd := ?kd_102_8) (fs := ?fs_102_8) dX6_readAction_102 vl_X6_127 (tn_any htb hr hn8 hC) ?hc_102_8 ?hk_102_8 rfl rfl (Nat.le_of_ble_eq_true rfl) ?_; (case hc_102_8 => exact cw_cell (f := 6) hC rfl rfl n6); (case hk_102_8 => rfl)
  rintro _ h102 ⟨C2, hC, k_, e_, x_, rfl, ⟨hr2, hx_⟩ | ⟨c32, c3, hr2⟩⟩
  · have hnum : pNum tb n Mx tx a = (1, pw tb n (mw_setV Mx 15 a x_) tx, tx + 1) := by
      unfold pNum
      rcases hx_ with ⟨z1, z2⟩ | ⟨z1, z2⟩
      · rw [if_pos z1, z2]
      · rw [if_neg (by omega), if_pos z1, z2]
    refine cw_pi (pc := 105) 0 _ 2 hC (rfl) rfl ((by rw [k_.N (by decide)]; exact n0)) dX6_readAction_105 (pl_X6_130 _) rfl rfl (rfl) (rfl) (fun h105 hC e105 => ?_)
    refine ra_l108 (Mx := pw tb n (mw_setV Mx 15 a x_) tx) (tx := tx + 1) ⟨hC, (fb.six k_).sI0 hA, ⟨hr2.same (cw_sI_o (by decide)) (cw_sI_o (by decide)) (fun _ _ => rfl), ((sb.2.1.same ((k_ 0).1 (by decide)) (fun _ _ => rfl) rfl rfl rfl rfl rfl rfl rfl).num a x_).same rfl (fun _ _ => rfl) rfl rfl rfl rfl rfl rfl rfl, by rw [cw_sI_N, k_.N (by decide)]; exact n1, by rw [cI_sI_n (by omega), cI_o ((k_ 1).1 (by decide))]; exact sb.2.2.2⟩, hrm.mono (qs_le_of (Nat.le_succ tx)) (by rw [e105, e_]), by rw [cw_sI_N, k_.N (by decide)]; exact n0, by rw [cI_sI_n (by omega), cI_o ((k_ 0).1 (by decide))]; exact hw0, by rw [cR_sI, cR_o ((k_ 0).1 (by decide))]; exact hw4, (hI.sV rfl).w, by omega⟩ hA htb rec_ hf hB1 hB2 (by rw [hz, hnum]; unfold pA2; rw [if_neg (show ¬ (1 : Int32) = 0 by decide), if_pos rfl]) hcd ha4
  · have hnum : pNum tb n Mx tx a = (0, pf tb n Mx tx, tx) := by unfold pNum; rw [if_neg c32, if_neg c3]
    exact ra_d105 ⟨hC, fb.six k_, ⟨qs tb n tx, hr2, by rw [hz, hnum]; rfl⟩, by rw [hz, hnum]; rfl, hrm.mono (qs_le tx) e_, by rw [k_.N (by decide)]; exact n0, by rw [k_.N (by decide)]; exact n1⟩ hA

