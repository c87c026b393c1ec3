theorem ok_readAction {G : mm_G} {L : Nat × Nat} {h0 : mm_H} {m : Nat} {ad : Nat → Nat} {tb : Nat → Nat} {n a0 k q : Nat} {f d deep t : Nat} {M : mw_S} {h : mm_H} (rec_ : ∀ j, rk_B G L m ad h0 tb n a0 k q f (deep + 1) (d + 7 + j)) (hI : pI tb n a0 M t) (hf : n - qs tb n t ≤ f) (hL : LT G m ad h0) (hW : mw_W m ad h0 M h) : mm_Ok G mX12_readAction L (d + 9) [.ref m, .int (nI k), .int (nI q), .int (nI deep)] h (fun r h1 => mw_W m ad h0 (pA tb n (pL tb n k q f) k q M t deep).2.1 h1 ∧ h1.2 = h.2 ∧ r = some (.int (pA tb n (pL tb n k q f) k q M t deep).1)) := by
  refine mm_Ok.of [(0, .ref m), (1, .int (nI k)), (2, .int (nI q)), (3, .int (nI deep))] rfl kX12_readAction.2.2.2.2.2 rfl (fun A => ?_)
  obtain ⟨o, ho⟩ : ∃ o, o = opI (cd tb n t) := ⟨_, rfl⟩
  have hA : M.1 13 = nI (M.1 13).toNatClampNeg := by obtain ⟨a, q1, q2, -⟩ := hI.a; rw [q2]; exact q1
  have hA4 : (M.1 13).toNatClampNeg < 4000 := by obtain ⟨a, q1, q2, q3, q4, q5⟩ := hI.a; rw [q2]; exact q5
  have hu1 : M.1 41 = nI (M.1 41).toNatClampNeg := by obtain ⟨u, q1, q2, -⟩ := hI.u; rw [q2]; exact q1
  have hu2 : (M.1 41).toNatClampNeg ≤ qs tb n t := by obtain ⟨u, q1, q2, q3, -⟩ := hI.u; rw [q2]; exact q3
  have hP0 : pP tb n (pA0 tb n k q deep t o M) t := by
    unfold pA0
    have hV : (rm_gh (rm_action (mw_setS M 47 (M.1 47 + 1)) (M.1 13).toNatClampNeg o 0) (M.1 13).toNatClampNeg deep k q (qs tb n t)).2.2.1 0 = M.2.2.1 0 := by
      unfold rm_gh rm_action
      exact (V0 rfl).trans ((V0 rfl).trans ((V0 rfl).trans ((V0 rfl).trans ((V0 rfl).trans ((V0 rfl).trans ((V0 rfl).trans ((V0 rfl).trans (V0 rfl))))))))
    by_cases z : o = 1 ∨ o = 8
    · rw [if_pos z]
      exact hI.1.same rfl rfl rfl rfl rfl (rm_useG_0.trans hV)
    · rw [if_neg z]
      exact hI.1.same rfl rfl rfl rfl rfl hV
  have lp_ : ¬ o = 0 → ¬ M.1 47 = 60 → 13 ≤ cd tb n t → cd tb n t ≤ 22 → ∀ (h1 : mm_H), mw_W m ad h0 (pA0 tb n k q deep t o M) h1 → h1.2 = h.2 → mm_Run G mX12_readAction A L (d + 9) 72 [(4, .int o), (5, .int (nI (M.1 13).toNatClampNeg)), (0, .ref m), (1, .int (nI k)), (2, .int (nI q)), (3, .int (nI deep))] [] h1 (fun r h1 => mw_W m ad h0 (pA tb n (pL tb n k q f) k q M t deep).2.1 h1 ∧ h1.2 = h.2 ∧ r = some (.int (pA tb n (pL tb n k q f) k q M t deep).1)) := by
    intro c0 c60 h13 h22 h1 hW eh
    refine mm_aload_n (pc := 72) dX12_readAction_72 rfl (by first | trivial | assumption | exact mm_isr_rf _) ?_
    refine mm_callV (pc := 73) (As := []) (kd := ?kd_73_1) (fs := ?fs_73_1) dX12_readAction_73 vl_X12_284 (ok_wordC (M := pA0 tb n k q deep t o M) hP0 hW) ?hc_73_1 ?hk_73_1 rfl rfl (Nat.le_of_ble_eq_true rfl) ?_; (case hc_73_1 => exact hW.1); (case hk_73_1 => rfl)
    rintro _ h73 ⟨hW, e73, rfl⟩
    have g := pA0_S (k := k) (q := q) (deep := deep) (o := o) hI h13 h22 c60
    have hqt := (qs_lt (tb := tb) (n := n) (t := t) (by omega)).2.1
    refine mm_iconst (pc := 76) (v := 1) dX12_readAction_76 (by decide) ?_
    refine mm_istore (pc := 77) dX12_readAction_77 rfl (Nat.le_of_ble_eq_true rfl) ?_
    refine mm_iload (pc := 79) dX12_readAction_79 rfl ?_
    refine mm_iconst (pc := 81) (v := 2) dX12_readAction_81 (by decide) ?_
    refine mm_icmp_ne (pc := 82) (tgt := 139) dX12_readAction_82 (by decide) (fun c82 => ?_) (fun c82 => ?_)
    · refine mm_iload (pc := 139) dX12_readAction_139 rfl ?_
      refine mm_iconst (pc := 141) (v := 1) dX12_readAction_141 (by decide) ?_
      refine mm_icmp_eq (pc := 142) (tgt := 160) dX12_readAction_142 (by decide) (fun c142 => ?_) (fun c142 => ?_)
      · refine mm_iload (pc := 160) dX12_readAction_160 rfl ?_
        refine mm_if_ne (pc := 162) (tgt := 167) dX12_readAction_162 (by decide) (fun c162 => ?_) (fun c162 => absurd c162 (by decide))
        refine mm_iload (pc := 167) dX12_readAction_167 rfl ?_
        refine mm_bipush (pc := 169) (v := 9) dX12_readAction_169 (by decide) ?_
        refine mm_icmp_eq (pc := 171) (tgt := 181) dX12_readAction_171 (by decide) (fun c171 => absurd c171 (by rw [c142]; decide)) (fun c171 => ?_)
        refine mm_iload (pc := 174) dX12_readAction_174 rfl ?_
        refine mm_bipush (pc := 176) (v := 10) dX12_readAction_176 (by decide) ?_
        refine mm_icmp_ne (pc := 178) (tgt := 200) dX12_readAction_178 (by decide) (fun c178 => ?_) (fun c178 => absurd c178 (by rw [c142]; decide))
        refine mm_aload_n (pc := 200) dX12_readAction_200 rfl (by first | trivial | assumption | exact mm_isr_rf _) ?_
        refine mm_ldcSw (pc := 201) (i := 41) dX12_readAction_201 rfl ?_
        refine mm_callV (pc := 204) (As := [_]) (kd := ?kd_204_2) (fs := ?fs_204_2) dX12_readAction_204 vl_X12_302 (ok_takeC (M := (pw tb n (pA0 tb n k q deep t o M) t)) (t := t + 1) g.1 g.2.1 hL 41 6 (w := [59]) (by decide +kernel) (by decide +kernel) hW) ?hc_204_2 ?hk_204_2 rfl rfl (Nat.le_of_ble_eq_true rfl) ?_; (case hc_204_2 => exact hW.1); (case hk_204_2 => rfl)
        rintro _ h204 ⟨hW, e204, rfl⟩
        refine mm_if_eq (pc := 207) (tgt := 215) dX12_readAction_207 (by decide) (fun c207 => ?_) (fun c207 => ?_)
        · refine mm_iconst (pc := 215) (v := (-1)) dX12_readAction_215 (by decide) ?_
          refine mm_iret (pc := 216) dX12_readAction_216 rfl ?_
          unfold pA
          rw [← ho, if_neg c0, if_neg c60]
          unfold pA1
          rw [if_neg c82, if_pos c142]
          unfold pE
          rw [if_pos c207]
          exact ⟨hW, by rw [e204, e73, eh], rfl⟩
        · refine mm_iload (pc := 210) dX12_readAction_210 rfl ?_
          refine mm_goto (pc := 212) (tgt := 216) dX12_readAction_212 (by decide) ?_
          refine mm_iret (pc := 216) dX12_readAction_216 rfl ?_
          unfold pA
          rw [← ho, if_neg c0, if_neg c60]
          unfold pA1
          rw [if_neg c82, if_pos c142]
          unfold pE
          rw [if_neg c207]
          exact ⟨hW, by rw [e204, e73, eh], rfl⟩
      · refine mm_iload (pc := 145) dX12_readAction_145 rfl ?_
        refine mm_bipush (pc := 147) (v := 10) dX12_readAction_147 (by decide) ?_
        refine mm_icmp_eq (pc := 149) (tgt := 160) dX12_readAction_149 (by decide) (fun c149 => ?_) (fun c149 => ?_)
        · refine mm_iload (pc := 160) dX12_readAction_160 rfl ?_
          refine mm_if_ne (pc := 162) (tgt := 167) dX12_readAction_162 (by decide) (fun c162 => ?_) (fun c162 => absurd c162 (by decide))
          refine mm_iload (pc := 167) dX12_readAction_167 rfl ?_
          refine mm_bipush (pc := 169) (v := 9) dX12_readAction_169 (by decide) ?_
          refine mm_icmp_eq (pc := 171) (tgt := 181) dX12_readAction_171 (by decide) (fun c171 => absurd c171 (by rw [c149]; decide)) (fun c171 => ?_)
          refine mm_iload (pc := 174) dX12_readAction_174 rfl ?_
          refine mm_bipush (pc := 176) (v := 10) dX12_readAction_176 (by decide) ?_
          refine mm_icmp_ne (pc := 178) (tgt := 200) dX12_readAction_178 (by decide) (fun c178 => absurd c149 c178) (fun c178 => ?_)
          refine mm_aload_n (pc := 181) dX12_readAction_181 rfl (by first | trivial | assumption | exact mm_isr_rf _) ?_
          refine mm_iload (pc := 182) dX12_readAction_182 rfl ?_
          refine mm_iload_n (pc := 184) dX12_readAction_184 rfl ?_
          refine mm_iload_n (pc := 185) dX12_readAction_185 rfl ?_
          refine mm_iload_n (pc := 186) dX12_readAction_186 rfl ?_
          refine mm_callV (pc := 187) (As := [_, _, _, _]) (kd := ?kd_187_3) (fs := ?fs_187_3) dX12_readAction_187 vl_X12_403 (ok_readParts (M := (pw tb n (pA0 tb n k q deep t o M) t)) (t := t + 1) (x := (M.1 13).toNatClampNeg) (deep := deep) rec_ g (by omega) hA4 hL hW) ?hc_187_3 ?hk_187_3 rfl rfl (Nat.le_of_ble_eq_true rfl) ?_; (case hc_187_3 => exact hW.1); (case hk_187_3 => rfl)
          rintro _ h187 ⟨hW, e187, rfl⟩
          refine mm_if_eq (pc := 190) (tgt := 198) dX12_readAction_190 (by decide) (fun c190 => ?_) (fun c190 => ?_)
          · refine mm_iconst (pc := 198) (v := (-1)) dX12_readAction_198 (by decide) ?_
            refine mm_iret (pc := 199) dX12_readAction_199 rfl ?_
            unfold pA
            rw [← ho, if_neg c0, if_neg c60]
            unfold pA1
            rw [if_neg c82, if_neg c142, if_pos c149]
            unfold pE
            rw [if_pos c190]
            exact ⟨hW, by rw [e187, e73, eh], rfl⟩
          · refine mm_iload (pc := 193) dX12_readAction_193 rfl ?_
            refine mm_goto (pc := 195) (tgt := 199) dX12_readAction_195 (by decide) ?_
            refine mm_iret (pc := 199) dX12_readAction_199 rfl ?_
            unfold pA
            rw [← ho, if_neg c0, if_neg c60]
            unfold pA1
            rw [if_neg c82, if_neg c142, if_pos c149]
            unfold pE
            rw [if_neg c190]
            exact ⟨hW, by rw [e187, e73, eh], rfl⟩
        · refine mm_aload_n (pc := 152) dX12_readAction_152 rfl (by first | trivial | assumption | exact mm_isr_rf _) ?_
          refine mm_iload (pc := 153) dX12_readAction_153 rfl ?_
          refine mm_callV (pc := 155) (As := [_]) (kd := ?kd_155_4) (fs := ?fs_155_4) dX12_readAction_155 vl_X12_400 (ok_readNumber (M := (pw tb n (pA0 tb n k q deep t o M) t)) (t := t + 1) (x := (M.1 13).toNatClampNeg) g.1 g.2.1 hA4 hL hW) ?hc_155_4 ?hk_155_4 rfl rfl (Nat.le_of_ble_eq_true rfl) ?_; (case hc_155_4 => exact hW.1); (case hk_155_4 => rfl)
          rintro _ h155 ⟨hW, e155, rfl⟩
          refine mm_istore (pc := 158) dX12_readAction_158 rfl (Nat.le_of_ble_eq_true rfl) ?_
          refine mm_iload (pc := 160) dX12_readAction_160 rfl ?_
          refine mm_if_ne (pc := 162) (tgt := 167) dX12_readAction_162 (by decide) (fun c162 => ?_) (fun c162 => ?_)
          · obtain ⟨-, g, gt⟩ := (pNum_post g (M.1 13).toNatClampNeg).resolve_left c162
            have hq3 := qs_le_of (tb := tb) (n := n) gt
            have hq4 := qs_le_of (tb := tb) (n := n) (show t + 1 ≤ t + 1 + 1 by omega)
            refine mm_iload (pc := 167) dX12_readAction_167 rfl ?_
            refine mm_bipush (pc := 169) (v := 9) dX12_readAction_169 (by decide) ?_
            refine mm_icmp_eq (pc := 171) (tgt := 181) dX12_readAction_171 (by decide) (fun c171 => ?_) (fun c171 => ?_)
            · refine mm_aload_n (pc := 181) dX12_readAction_181 rfl (by first | trivial | assumption | exact mm_isr_rf _) ?_
              refine mm_iload (pc := 182) dX12_readAction_182 rfl ?_
              refine mm_iload_n (pc := 184) dX12_readAction_184 rfl ?_
              refine mm_iload_n (pc := 185) dX12_readAction_185 rfl ?_
              refine mm_iload_n (pc := 186) dX12_readAction_186 rfl ?_
              refine mm_callV (pc := 187) (As := [_, _, _, _]) (kd := ?kd_187_5) (fs := ?fs_187_5) dX12_readAction_187 vl_X12_403 (ok_readParts (M := (pNum tb n (pw tb n (pA0 tb n k q deep t o M) t) (t + 1) (M.1 13).toNatClampNeg).2.1) (t := (pNum tb n (pw tb n (pA0 tb n k q deep t o M) t) (t + 1) (M.1 13).toNatClampNeg).2.2) (x := (M.1 13).toNatClampNeg) (deep := deep) rec_ g (by omega) hA4 hL hW) ?hc_187_5 ?hk_187_5 rfl rfl (Nat.le_of_ble_eq_true rfl) ?_; (case hc_187_5 => exact hW.1); (case hk_187_5 => rfl)
              rintro _ h187 ⟨hW, e187, rfl⟩
              refine mm_if_eq (pc := 190) (tgt := 198) dX12_readAction_190 (by decide) (fun c190 => ?_) (fun c190 => ?_)
              · refine mm_iconst (pc := 198) (v := (-1)) dX12_readAction_198 (by decide) ?_
                refine mm_iret (pc := 199) dX12_readAction_199 rfl ?_
                unfold pA
                rw [← ho, if_neg c0, if_neg c60]
                unfold pA1
                rw [if_neg c82, if_neg c142, if_neg c149]
                unfold pA2
                rw [if_neg c162, if_pos c171]
                unfold pE
                rw [if_pos c190]
                exact ⟨hW, by rw [e187, e155, e73, eh], rfl⟩
              · refine mm_iload (pc := 193) dX12_readAction_193 rfl ?_
                refine mm_goto (pc := 195) (tgt := 199) dX12_readAction_195 (by decide) ?_
                refine mm_iret (pc := 199) dX12_readAction_199 rfl ?_
                unfold pA
                rw [← ho, if_neg c0, if_neg c60]
                unfold pA1
                rw [if_neg c82, if_neg c142, if_neg c149]
                unfold pA2
                rw [if_neg c162, if_pos c171]
                unfold pE
                rw [if_neg c190]
                exact ⟨hW, by rw [e187, e155, e73, eh], rfl⟩
            · refine mm_iload (pc := 174) dX12_readAction_174 rfl ?_
              refine mm_bipush (pc := 176) (v := 10) dX12_readAction_176 (by decide) ?_
              refine mm_icmp_ne (pc := 178) (tgt := 200) dX12_readAction_178 (by decide) (fun c178 => ?_) (fun c178 => absurd c178 c149)
              refine mm_aload_n (pc := 200) dX12_readAction_200 rfl (by first | trivial | assumption | exact mm_isr_rf _) ?_
              refine mm_ldcSw (pc := 201) (i := 41) dX12_readAction_201 rfl ?_
              refine mm_callV (pc := 204) (As := [_]) (kd := ?kd_204_6) (fs := ?fs_204_6) dX12_readAction_204 vl_X12_302 (ok_takeC (M := (pNum tb n (pw tb n (pA0 tb n k q deep t o M) t) (t + 1) (M.1 13).toNatClampNeg).2.1) (t := (pNum tb n (pw tb n (pA0 tb n k q deep t o M) t) (t + 1) (M.1 13).toNatClampNeg).2.2) g.1 g.2.1 hL 41 6 (w := [59]) (by decide +kernel) (by decide +kernel) hW) ?hc_204_6 ?hk_204_6 rfl rfl (Nat.le_of_ble_eq_true rfl) ?_; (case hc_204_6 => exact hW.1); (case hk_204_6 => rfl)
              rintro _ h204 ⟨hW, e204, rfl⟩
              refine mm_if_eq (pc := 207) (tgt := 215) dX12_readAction_207 (by decide) (fun c207 => ?_) (fun c207 => ?_)
              · refine mm_iconst (pc := 215) (v := (-1)) dX12_readAction_215 (by decide) ?_
                refine mm_iret (pc := 216) dX12_readAction_216 rfl ?_
                unfold pA
                rw [← ho, if_neg c0, if_neg c60]
                unfold pA1
                rw [if_neg c82, if_neg c142, if_neg c149]
                unfold pA2
                rw [if_neg c162, if_neg c171]
                unfold pE
                rw [if_pos c207]
                exact ⟨hW, by rw [e204, e155, e73, eh], rfl⟩
              · refine mm_iload (pc := 210) dX12_readAction_210 rfl ?_
                refine mm_goto (pc := 212) (tgt := 216) dX12_readAction_212 (by decide) ?_
                refine mm_iret (pc := 216) dX12_readAction_216 rfl ?_
                unfold pA
                rw [← ho, if_neg c0, if_neg c60]
                unfold pA1
                rw [if_neg c82, if_neg c142, if_neg c149]
                unfold pA2
                rw [if_neg c162, if_neg c171]
                unfold pE
                rw [if_neg c207]
                exact ⟨hW, by rw [e204, e155, e73, eh], rfl⟩
          · refine mm_iconst (pc := 165) (v := (-1)) dX12_readAction_165 (by decide) ?_
            refine mm_iret (pc := 166) dX12_readAction_166 rfl ?_
            unfold pA
            rw [← ho, if_neg c0, if_neg c60]
            unfold pA1
            rw [if_neg c82, if_neg c142, if_neg c149]
            unfold pA2
            rw [if_pos c162]
            exact ⟨hW, by rw [e155, e73, eh], rfl⟩
    · refine mm_aload_n (pc := 85) dX12_readAction_85 rfl (by first | trivial | assumption | exact mm_isr_rf _) ?_
      refine mw_geta (pc := 86) 15 hW dX12_readAction_86 fl_X12_51 rfl rfl ?_
      refine mm_iload (pc := 89) dX12_readAction_89 rfl ?_
      refine mm_aload_n (pc := 91) dX12_readAction_91 rfl (by first | trivial | assumption | exact mm_isr_rf _) ?_
      refine mm_callV (pc := 92) (As := []) (kd := ?kd_92_7) (fs := ?fs_92_7) dX12_readAction_92 vl_X12_356 (ok_hookC (M := (pw tb n (pA0 tb n k q deep t o M) t)) g.1 hL hW) ?hc_92_7 ?hk_92_7 rfl rfl (Nat.le_of_ble_eq_true rfl) ?_; (case hc_92_7 => exact hW.1); (case hk_92_7 => rfl)
      rintro _ _ ⟨rfl, rfl⟩
      refine mw_iast (pc := 95) 15 (M.1 13).toNatClampNeg hW dX12_readAction_95 rfl rfl (by first | with_reducible rfl | assumption | rfl) (by show _ < 4000; omega) (by omega) (fun h95 hW e95 => ?_)
      refine mm_aload_n (pc := 96) dX12_readAction_96 rfl (by first | trivial | assumption | exact mm_isr_rf _) ?_
      refine mw_geta (pc := 97) 15 hW dX12_readAction_97 fl_X12_51 rfl rfl ?_
      refine mm_iload (pc := 100) dX12_readAction_100 rfl ?_
      refine mw_iald (pc := 102) 15 (M.1 13).toNatClampNeg hW dX12_readAction_102 rfl rfl (by first | with_reducible rfl | assumption | rfl) (by show _ < 4000; omega) (by omega) ?_
      refine mm_topi (hkI (cd tb n (t + 1))) (mw_u2_eq _ _ _ _) ?_
      refine mm_if_ge (pc := 103) (tgt := 117) dX12_readAction_103 (by decide) (fun c103 => ?_) (fun c103 => ?_)
      · have h7 : 7 ≤ cd tb n (t + 1) := by
          unfold hkI at c103
          by_cases z : 7 ≤ cd tb n (t + 1) ∧ cd tb n (t + 1) ≤ 12
          · exact z.1
          · rw [if_neg z] at c103; exact absurd c103 (by decide)
        refine mm_aload_n (pc := 117) dX12_readAction_117 rfl (by first | trivial | assumption | exact mm_isr_rf _) ?_
        refine mm_iload_n (pc := 118) dX12_readAction_118 rfl ?_
        refine mm_iload_n (pc := 119) dX12_readAction_119 rfl ?_
        refine mm_iload (pc := 120) dX12_readAction_120 rfl ?_
        refine mm_aload_n (pc := 122) dX12_readAction_122 rfl (by first | trivial | assumption | exact mm_isr_rf _) ?_
        refine mw_geta (pc := 123) 15 hW dX12_readAction_123 fl_X12_51 rfl rfl ?_
        refine mm_iload (pc := 126) dX12_readAction_126 rfl ?_
        refine mw_iald (pc := 128) 15 (M.1 13).toNatClampNeg hW dX12_readAction_128 rfl rfl (by first | with_reducible rfl | assumption | rfl) (by show _ < 4000; omega) (by omega) ?_
        refine mm_topi (hkI (cd tb n (t + 1))) (mw_u2_eq _ _ _ _) ?_
        have hW := hW.gh (j := 83) (i := (M.1 13).toNatClampNeg) (x := nI (qs tb n (t + 1))) rfl
        subst c82
        obtain ⟨u_, w1_, w2_, w3_, -⟩ := g.u
        have hq9 := (qs_lt (tb := tb) (n := n) (t := t + 1) (by omega)).2.2
        have hn79 := g.n7
        have hu5 : (mw_setV (mw_setV (pw tb n (pA0 tb n k q deep t 2 M) t) 15 (M.1 13).toNatClampNeg (hkI (cd tb n (t + 1)))) 83 (M.1 13).toNatClampNeg (nI (qs tb n (t + 1)))).1 41 = nI ((mw_setV (mw_setV (pw tb n (pA0 tb n k q deep t 2 M) t) 15 (M.1 13).toNatClampNeg (hkI (cd tb n (t + 1)))) 83 (M.1 13).toNatClampNeg (nI (qs tb n (t + 1)))).1 41).toNatClampNeg := by show (pw tb n (pA0 tb n k q deep t 2 M) t).1 41 = nI ((pw tb n (pA0 tb n k q deep t 2 M) t).1 41).toNatClampNeg; rw [w2_]; exact w1_
        have hu6 : ((mw_setV (mw_setV (pw tb n (pA0 tb n k q deep t 2 M) t) 15 (M.1 13).toNatClampNeg (hkI (cd tb n (t + 1)))) 83 (M.1 13).toNatClampNeg (nI (qs tb n (t + 1)))).1 41).toNatClampNeg < 700 := by show ((pw tb n (pA0 tb n k q deep t 2 M) t).1 41).toNatClampNeg < 700; omega
        refine mm_callV (pc := 129) (As := [_, _, _, _]) (kd := ?kd_129_8) (fs := ?fs_129_8) dX12_readAction_129 vl_X12_396 (ok_X12_use (M := (mw_setV (mw_setV (pw tb n (pA0 tb n k q deep t 2 M) t) 15 (M.1 13).toNatClampNeg (hkI (cd tb n (t + 1)))) 83 (M.1 13).toNatClampNeg (nI (qs tb n (t + 1))))) (n := ((mw_setV (mw_setV (pw tb n (pA0 tb n k q deep t 2 M) t) 15 (M.1 13).toNatClampNeg (hkI (cd tb n (t + 1)))) 83 (M.1 13).toNatClampNeg (nI (qs tb n (t + 1)))).1 41).toNatClampNeg) hu5 hu6 hW) ?hc_129_8 ?hk_129_8 rfl rfl (Nat.le_of_ble_eq_true rfl) ?_; (case hc_129_8 => exact hW.1); (case hk_129_8 => rfl)
        rintro _ h129 ⟨hW, e129, rfl⟩
        have hW := hW.gh (j := 84) (i := ((mw_setV (mw_setV (pw tb n (pA0 tb n k q deep t 2 M) t) 15 (M.1 13).toNatClampNeg (hkI (cd tb n (t + 1)))) 83 (M.1 13).toNatClampNeg (nI (qs tb n (t + 1)))).1 41).toNatClampNeg) (x := nI (M.1 13).toNatClampNeg) rfl
        have g4 : pI tb n a0 (mw_setV (mw_setV (pw tb n (pA0 tb n k q deep t 2 M) t) 15 (M.1 13).toNatClampNeg (hkI (cd tb n (t + 1)))) 83 (M.1 13).toNatClampNeg (nI (qs tb n (t + 1)))) (t + 1) := ((g.sV rfl).sV rfl)
        refine mm_aload_n (pc := 132) dX12_readAction_132 rfl (by first | trivial | assumption | exact mm_isr_rf _) ?_
        refine mm_callV (pc := 133) (As := []) (kd := ?kd_133_9) (fs := ?fs_133_9) dX12_readAction_133 vl_X12_284 (ok_wordC (M := rm_useG (mw_setV (mw_setV (pw tb n (pA0 tb n k q deep t 2 M) t) 15 (M.1 13).toNatClampNeg (hkI (cd tb n (t + 1)))) 83 (M.1 13).toNatClampNeg (nI (qs tb n (t + 1)))) (M.1 13).toNatClampNeg (nI k) (nI q) 2 (hkI (cd tb n (t + 1)))) (t := t + 1) (g4.1.same rfl rfl rfl rfl rfl rm_useG_0) hW) ?hc_133_9 ?hk_133_9 rfl rfl (Nat.le_of_ble_eq_true rfl) ?_; (case hc_133_9 => exact hW.1); (case hk_133_9 => rfl)
        rintro _ h133 ⟨hW, e133, rfl⟩
        have g := g4.use (a := (M.1 13).toNatClampNeg) (k := nI k) (q := nI q) (o := 2) (c := hkI (cd tb n (t + 1))) (by omega)
        refine mm_goto (pc := 136) (tgt := 160) dX12_readAction_136 (by decide) ?_
        refine mm_iload (pc := 160) dX12_readAction_160 rfl ?_
        refine mm_if_ne (pc := 162) (tgt := 167) dX12_readAction_162 (by decide) (fun c162 => ?_) (fun c162 => absurd c162 (by decide))
        refine mm_iload (pc := 167) dX12_readAction_167 rfl ?_
        refine mm_bipush (pc := 169) (v := 9) dX12_readAction_169 (by decide) ?_
        refine mm_icmp_eq (pc := 171) (tgt := 181) dX12_readAction_171 (by decide) (fun c171 => absurd c171 (by decide)) (fun c171 => ?_)
        refine mm_iload (pc := 174) dX12_readAction_174 rfl ?_
        refine mm_bipush (pc := 176) (v := 10) dX12_readAction_176 (by decide) ?_
        refine mm_icmp_ne (pc := 178) (tgt := 200) dX12_readAction_178 (by decide) (fun c178 => ?_) (fun c178 => absurd c178 (by decide))
        refine mm_aload_n (pc := 200) dX12_readAction_200 rfl (by first | trivial | assumption | exact mm_isr_rf _) ?_
        refine mm_ldcSw (pc := 201) (i := 41) dX12_readAction_201 rfl ?_
        refine mm_callV (pc := 204) (As := [_]) (kd := ?kd_204_10) (fs := ?fs_204_10) dX12_readAction_204 vl_X12_302 (ok_takeC (M := (pw tb n (rm_useG (mw_setV (mw_setV (pw tb n (pA0 tb n k q deep t 2 M) t) 15 (M.1 13).toNatClampNeg (hkI (cd tb n (t + 1)))) 83 (M.1 13).toNatClampNeg (nI (qs tb n (t + 1)))) (M.1 13).toNatClampNeg (nI k) (nI q) 2 (hkI (cd tb n (t + 1)))) (t + 1))) (t := t + 1 + 1) g.1 g.2.1 hL 41 6 (w := [59]) (by decide +kernel) (by decide +kernel) hW) ?hc_204_10 ?hk_204_10 rfl rfl (Nat.le_of_ble_eq_true rfl) ?_; (case hc_204_10 => exact hW.1); (case hk_204_10 => rfl)
        rintro _ h204 ⟨hW, e204, rfl⟩
        refine mm_if_eq (pc := 207) (tgt := 215) dX12_readAction_207 (by decide) (fun c207 => ?_) (fun c207 => ?_)
        · refine mm_iconst (pc := 215) (v := (-1)) dX12_readAction_215 (by decide) ?_
          refine mm_iret (pc := 216) dX12_readAction_216 rfl ?_
          unfold pA
          rw [← ho, if_neg c0, if_neg c60]
          unfold pA1
          rw [if_pos rfl]
          unfold pC
          rw [if_neg (Int32.not_lt.mpr c103)]
          unfold pE
          rw [if_pos c207]
          exact ⟨hW, by rw [e204, e133, e129, e95, e73, eh], rfl⟩
        · refine mm_iload (pc := 210) dX12_readAction_210 rfl ?_
          refine mm_goto (pc := 212) (tgt := 216) dX12_readAction_212 (by decide) ?_
          refine mm_iret (pc := 216) dX12_readAction_216 rfl ?_
          unfold pA
          rw [← ho, if_neg c0, if_neg c60]
          unfold pA1
          rw [if_pos rfl]
          unfold pC
          rw [if_neg (Int32.not_lt.mpr c103)]
          unfold pE
          rw [if_neg c207]
          exact ⟨hW, by rw [e204, e133, e129, e95, e73, eh], rfl⟩
      · refine mm_aload_n (pc := 106) dX12_readAction_106 rfl (by first | trivial | assumption | exact mm_isr_rf _) ?_
        refine mm_aload_n (pc := 107) dX12_readAction_107 rfl (by first | trivial | assumption | exact mm_isr_rf _) ?_
        refine mw_gets (pc := 108) 27 hW dX12_readAction_108 fl_X12_212 rfl rfl ?_
        refine mm_callV (pc := 111) (As := [_]) (kd := ?kd_111_11) (fs := ?fs_111_11) dX12_readAction_111 vl_X12_281 (ok_failC (M := (mw_setV (pw tb n (pA0 tb n k q deep t o M) t) 15 (M.1 13).toNatClampNeg (hkI (cd tb n (t + 1))))) (t := t + 1) (g.sV rfl).1 (g.sV (j := 15) rfl).2.1 hW) ?hc_111_11 ?hk_111_11 rfl rfl (Nat.le_of_ble_eq_true rfl) ?_; (case hc_111_11 => exact hW.1); (case hk_111_11 => rfl)
        rintro _ h111 ⟨hW, e111, rfl⟩
        refine mm_pop (pc := 114) dX12_readAction_114 rfl ?_
        refine mm_iconst (pc := 115) (v := (-1)) dX12_readAction_115 (by decide) ?_
        refine mm_iret (pc := 116) dX12_readAction_116 rfl ?_
        unfold pA
        rw [← ho, if_neg c0, if_neg c60]
        unfold pA1
        rw [if_pos c82]
        unfold pC
        rw [if_pos (Int32.not_le.mp c103)]
        exact ⟨hW, by rw [e111, e95, e73, eh], rfl⟩
  refine mm_aload_n (pc := 0) dX12_readAction_0 rfl (by first | trivial | assumption | exact mm_isr_rf _) ?_
  refine mm_callV (pc := 1) (As := []) (kd := ?kd_1_12) (fs := ?fs_1_12) dX12_readAction_1 vl_X12_393 (ok_opC hI.1 hL hW) ?hc_1_12 ?hk_1_12 rfl rfl (Nat.le_of_ble_eq_true rfl) ?_; (case hc_1_12 => exact hW.1); (case hk_1_12 => rfl)
  rintro _ _ ⟨rfl, rfl⟩
  refine mm_topi o ho.symm ?_
  refine mm_istore (pc := 4) dX12_readAction_4 rfl (Nat.le_of_ble_eq_true rfl) ?_
  refine mm_iload (pc := 6) dX12_readAction_6 rfl ?_
  refine mm_if_eq (pc := 8) (tgt := 20) dX12_readAction_8 (by decide) (fun c8 => ?_) (fun c8 => ?_)
  · refine mm_aload_n (pc := 20) dX12_readAction_20 rfl (by first | trivial | assumption | exact mm_isr_rf _) ?_
    refine mm_aload_n (pc := 21) dX12_readAction_21 rfl (by first | trivial | assumption | exact mm_isr_rf _) ?_
    refine mw_gets (pc := 22) 27 hW dX12_readAction_22 fl_X12_212 rfl rfl ?_
    refine mm_callV (pc := 25) (As := [_]) (kd := ?kd_25_13) (fs := ?fs_25_13) dX12_readAction_25 vl_X12_281 (ok_failC hI.1 hI.2.1 hW) ?hc_25_13 ?hk_25_13 rfl rfl (Nat.le_of_ble_eq_true rfl) ?_; (case hc_25_13 => exact hW.1); (case hk_25_13 => rfl)
    rintro _ h25 ⟨hW, e25, rfl⟩
    refine mm_pop (pc := 28) dX12_readAction_28 rfl ?_
    refine mm_iconst (pc := 29) (v := (-1)) dX12_readAction_29 (by decide) ?_
    refine mm_iret (pc := 30) dX12_readAction_30 rfl ?_
    unfold pA
    rw [← ho, if_pos c8]
    exact ⟨hW, e25, rfl⟩
  · have c0 := c8
    refine mm_aload_n (pc := 11) dX12_readAction_11 rfl (by first | trivial | assumption | exact mm_isr_rf _) ?_
    refine mw_gets (pc := 12) 47 hW dX12_readAction_12 fl_X12_362 rfl rfl ?_
    refine mm_bipush (pc := 15) (v := 60) dX12_readAction_15 (by decide) ?_
    refine mm_icmp_ne (pc := 17) (tgt := 31) dX12_readAction_17 (by decide) (fun c17 => ?_) (fun c17 => ?_)
    · have c60 := c17
      have h1322 := opI_n (by rw [← ho]; exact c0)
      obtain ⟨h13, h22⟩ := h1322
      have hqn := (qs_lt (tb := tb) (n := n) (t := t) (by omega)).2.2
      have hn7 := hI.n7
      have hu3 : (rm_gh (rm_action (mw_setS M 47 (M.1 47 + 1)) (M.1 13).toNatClampNeg o 0) (M.1 13).toNatClampNeg deep k q (qs tb n t)).1 41 = nI ((rm_gh (rm_action (mw_setS M 47 (M.1 47 + 1)) (M.1 13).toNatClampNeg o 0) (M.1 13).toNatClampNeg deep k q (qs tb n t)).1 41).toNatClampNeg := hu1
      have hu4 : ((rm_gh (rm_action (mw_setS M 47 (M.1 47 + 1)) (M.1 13).toNatClampNeg o 0) (M.1 13).toNatClampNeg deep k q (qs tb n t)).1 41).toNatClampNeg < 700 := by show (M.1 41).toNatClampNeg < 700; omega
      refine mm_aload_n (pc := 31) dX12_readAction_31 rfl (by first | trivial | assumption | exact mm_isr_rf _) ?_
      refine mm_dup (pc := 32) dX12_readAction_32 rfl ?_
      refine mw_gets (pc := 33) 47 hW dX12_readAction_33 fl_X12_362 rfl rfl ?_
      refine mm_iconst (pc := 36) (v := 1) dX12_readAction_36 (by decide) ?_
      refine mm_iadd (pc := 37) dX12_readAction_37 ?_
      refine mw_put (pc := 38) 47 hW dX12_readAction_38 (pl_X12_362 _) rfl (fun h38 hW e38 => ?_)
      refine mm_aload_n (pc := 41) dX12_readAction_41 rfl (by first | trivial | assumption | exact mm_isr_rf _) ?_
      refine mm_iload (pc := 42) dX12_readAction_42 rfl ?_
      refine mm_iconst (pc := 44) (v := 0) dX12_readAction_44 (by decide) ?_
      refine mm_callV (pc := 45) (As := [_, _]) (kd := ?kd_45_14) (fs := ?fs_45_14) dX12_readAction_45 vl_X12_171 (ok_X12_action (M := (mw_setS M 47 (M.1 47 + 1))) (a := (M.1 13).toNatClampNeg) hA hA4 hW) ?hc_45_14 ?hk_45_14 rfl rfl (Nat.le_of_ble_eq_true rfl) ?_; (case hc_45_14 => exact hW.1); (case hk_45_14 => rfl)
      rintro _ h45 ⟨hW, e45, rfl⟩
      have hW := hW.gh4 (a := (M.1 13).toNatClampNeg) (deep := deep) (k := k) (q := q) (p := qs tb n t)
      refine mm_istore (pc := 48) dX12_readAction_48 rfl (Nat.le_of_ble_eq_true rfl) ?_
      refine mm_iload (pc := 50) dX12_readAction_50 rfl ?_
      refine mm_iconst (pc := 52) (v := 1) dX12_readAction_52 (by decide) ?_
      refine mm_icmp_eq (pc := 53) (tgt := 63) dX12_readAction_53 (by decide) (fun c53 => ?_) (fun c53 => ?_)
      · refine mm_aload_n (pc := 63) dX12_readAction_63 rfl (by first | trivial | assumption | exact mm_isr_rf _) ?_
        refine mm_iload_n (pc := 64) dX12_readAction_64 rfl ?_
        refine mm_iload_n (pc := 65) dX12_readAction_65 rfl ?_
        refine mm_iload (pc := 66) dX12_readAction_66 rfl ?_
        refine mm_iload_n (pc := 68) dX12_readAction_68 rfl ?_
        refine mm_callV (pc := 69) (As := [_, _, _, _]) (kd := ?kd_69_15) (fs := ?fs_69_15) dX12_readAction_69 vl_X12_396 (ok_X12_use (M := (rm_gh (rm_action (mw_setS M 47 (M.1 47 + 1)) (M.1 13).toNatClampNeg o 0) (M.1 13).toNatClampNeg deep k q (qs tb n t))) (n := ((rm_gh (rm_action (mw_setS M 47 (M.1 47 + 1)) (M.1 13).toNatClampNeg o 0) (M.1 13).toNatClampNeg deep k q (qs tb n t)).1 41).toNatClampNeg) hu3 hu4 hW) ?hc_69_15 ?hk_69_15 rfl rfl (Nat.le_of_ble_eq_true rfl) ?_; (case hc_69_15 => exact hW.1); (case hk_69_15 => rfl)
        rintro _ h69 ⟨hW, e69, rfl⟩
        have hW := hW.gh (j := 84) (i := ((rm_gh (rm_action (mw_setS M 47 (M.1 47 + 1)) (M.1 13).toNatClampNeg o 0) (M.1 13).toNatClampNeg deep k q (qs tb n t)).1 41).toNatClampNeg) (x := nI (M.1 13).toNatClampNeg) rfl
        exact mm_weakK (lp_ c0 c60 h13 h22 h69 (by unfold pA0; rw [if_pos (Or.inl c53)]; exact hW) (by rw [e69, e45, e38])) (And.intro rfl (And.intro rfl (And.intro rfl (And.intro rfl (And.intro rfl (And.intro rfl trivial))))))
      · refine mm_iload (pc := 56) dX12_readAction_56 rfl ?_
        refine mm_bipush (pc := 58) (v := 8) dX12_readAction_58 (by decide) ?_
        refine mm_icmp_ne (pc := 60) (tgt := 72) dX12_readAction_60 (by decide) (fun c60_ => ?_) (fun c60_ => ?_)
        · exact mm_weakK (lp_ c0 c60 h13 h22 h45 (by unfold pA0; rw [if_neg (fun z => z.elim c53 c60_)]; exact hW) (by rw [e45, e38])) (And.intro rfl (And.intro rfl (And.intro rfl (And.intro rfl (And.intro rfl (And.intro rfl trivial))))))
        · refine mm_aload_n (pc := 63) dX12_readAction_63 rfl (by first | trivial | assumption | exact mm_isr_rf _) ?_
          refine mm_iload_n (pc := 64) dX12_readAction_64 rfl ?_
          refine mm_iload_n (pc := 65) dX12_readAction_65 rfl ?_
          refine mm_iload (pc := 66) dX12_readAction_66 rfl ?_
          refine mm_iload_n (pc := 68) dX12_readAction_68 rfl ?_
          refine mm_callV (pc := 69) (As := [_, _, _, _]) (kd := ?kd_69_16) (fs := ?fs_69_16) dX12_readAction_69 vl_X12_396 (ok_X12_use (M := (rm_gh (rm_action (mw_setS M 47 (M.1 47 + 1)) (M.1 13).toNatClampNeg o 0) (M.1 13).toNatClampNeg deep k q (qs tb n t))) (n := ((rm_gh (rm_action (mw_setS M 47 (M.1 47 + 1)) (M.1 13).toNatClampNeg o 0) (M.1 13).toNatClampNeg deep k q (qs tb n t)).1 41).toNatClampNeg) hu3 hu4 hW) ?hc_69_16 ?hk_69_16 rfl rfl (Nat.le_of_ble_eq_true rfl) ?_; (case hc_69_16 => exact hW.1); (case hk_69_16 => rfl)
          rintro _ h69 ⟨hW, e69, rfl⟩
          have hW := hW.gh (j := 84) (i := ((rm_gh (rm_action (mw_setS M 47 (M.1 47 + 1)) (M.1 13).toNatClampNeg o 0) (M.1 13).toNatClampNeg deep k q (qs tb n t)).1 41).toNatClampNeg) (x := nI (M.1 13).toNatClampNeg) rfl
          exact mm_weakK (lp_ c0 c60 h13 h22 h69 (by unfold pA0; rw [if_pos (Or.inr c60_)]; exact hW) (by rw [e69, e45, e38])) (And.intro rfl (And.intro rfl (And.intro rfl (And.intro rfl (And.intro rfl (And.intro rfl trivial))))))
    · refine mm_aload_n (pc := 20) dX12_readAction_20 rfl (by first | trivial | assumption | exact mm_isr_rf _) ?_
      refine mm_aload_n (pc := 21) dX12_readAction_21 rfl (by first | trivial | assumption | exact mm_isr_rf _) ?_
      refine mw_gets (pc := 22) 27 hW dX12_readAction_22 fl_X12_212 rfl rfl ?_
      refine mm_callV (pc := 25) (As := [_]) (kd := ?kd_25_17) (fs := ?fs_25_17) dX12_readAction_25 vl_X12_281 (ok_failC hI.1 hI.2.1 hW) ?hc_25_17 ?hk_25_17 rfl rfl (Nat.le_of_ble_eq_true rfl) ?_; (case hc_25_17 => exact hW.1); (case hk_25_17 => rfl)
      rintro _ h25 ⟨hW, e25, rfl⟩
      refine mm_pop (pc := 28) dX12_readAction_28 rfl ?_
      refine mm_iconst (pc := 29) (v := (-1)) dX12_readAction_29 (by decide) ?_
      refine mm_iret (pc := 30) dX12_readAction_30 rfl ?_
      unfold pA
      rw [← ho, if_neg c0, if_pos c17]
      exact ⟨hW, e25, rfl⟩

