/-! the law's loop -/
abbrev mL_law : mm_M := (yL_law, cL_law, 4, ret)
def scO (N : Nat) (xs : Nat → Int32) : List Value := (List.range N).map (fun j => Value.int (xs j))
theorem scO_at {N j : Nat} {xs : Nat → Int32} {x : Int32} (hx : x = nI j) (hj : j < N) (hN : N ≤ 2048) : ¬ x < 0 ∧ (scO N xs)[x.toNatClampNeg]? = some (.int (xs j)) := by
  subst hx
  refine ⟨nI_pos (by omega), ?_⟩
  rw [nI_clamp (by omega)]
  unfold scO
  rw [List.getElem?_map, List.getElem?_range hj]; rfl
theorem scO_len {N : Nat} {xs : Nat → Int32} : (scO N xs).length = N := by unfold scO; rw [List.length_map, List.length_range]
theorem law_cmp {N k : Nat} (hN : N ≤ 2048) (hk : 4 * k ≤ N) : nI N - 4 < nI (4 * k) ↔ N < 4 * k + 4 := by
  rw [Int32.lt_iff_toInt_lt, show (nI N - 4 : Int32) = nI N - nI 4 from rfl, Int32.toInt_sub, nI_toInt (show N < 2 ^ 31 by omega), nI_toInt (show 4 < 2 ^ 31 by decide), nI_toInt (show 4 * k < 2 ^ 31 by omega), Int.bmod_def]
  omega
theorem nI_a {j c : Nat} : nI j + nI c = nI (j + c) := by
  exact nI_add j c

theorem nI_a4 {k : Nat} : nI (4 * k) + 4 = nI (4 * (k + 1)) := nI_a (j := 4 * k) (c := 4)
theorem lg_self {x : Int64} : lg_cmp x x = 0 := by unfold lg_cmp; simp
theorem INV.k1 {G : mm_G} {m b xa k : Nat} {am : Nat → Nat} {scr : List Value} {B : Nat × Nat} {h : mm_H} (I : INV G m am b scr xa B k h) : INV G m am b scr xa B (k + 1) h := by
  obtain ⟨M, ab, nk, np, hM, hPX, n, hn, hn8, hb1, hb2⟩ := I
  exact ⟨M, ab, nk, np, hM, hPX.k1, n, hn, hn8, by omega, by omega⟩
theorem law_loop {G : mm_G} {L B : Nat × Nat} {m b xa N : Nat} {am : Nat → Nat} {xs : Nat → Int32} {A : Nat → Prop} {Q : Option Value → mm_H → Prop} (hN : N ≤ 2048) (hL1 : B.1 + 330 * 512 + 400 ≤ L.1) (hL2 : B.2 + 2460 * 512 + 3000 ≤ L.2) (hQ : ∀ k h, k ≤ 512 → INV G m am b (scO N xs) xa B k h → Q (some (.int 1)) h) : ∀ (f k : Nat) (h : mm_H), N + 4 ≤ 4 * k + 4 * f + 7 → 4 * k ≤ N → INV G m am b (scO N xs) xa B k h → mm_Run G mL_law A L 1211 18 [(0, .ref b), (1, .ref xa), (2, .ref m), (3, .int (nI (4 * k)))] [] h Q := by
  intro f
  induction f with
  | zero =>
    intro k h hf hk I
    have hk0 : k ≤ 512 := by omega
    obtain ⟨hb0, fs0, hx0⟩ := I.sc
    refine mm_iload_n (pc := 18) dL_law_18 rfl ?_
    refine mm_aload_n (pc := 19) dL_law_19 rfl (by first | trivial | assumption | exact mm_isr_rf _) ?_
    refine mm_alen2 (pc := 20) (kd := ?kd_20_130) (vs := ?vs_20_130) dL_law_20 ?hc_20_130 ?hk_20_130 ?ht_20_130 ?_; (case hc_20_130 => exact hb0); (case hk_20_130 => rfl); (case ht_20_130 => rfl)
    refine mm_iconst (pc := 21) (v := 4) dL_law_21 (by decide) ?_
    refine mm_isub (pc := 22) dL_law_22 ?_
    refine mm_icmp_gt (pc := 23) (tgt := 855) dL_law_23 (by decide) (fun c23 => ?_) (fun c23 => absurd (by rw [scO_len, law_cmp hN (by omega)]; omega) c23)
    refine mm_iconst (pc := 855) (v := 1) dL_law_855 (by decide) ?_
    refine mm_zret (pc := 856) dL_law_856 rfl (by first | rfl | decide) ?_
    exact hQ _ _ hk0 I
  | succ f ih =>
    intro k h hf hk I
    have hk0 : k ≤ 512 := by omega
    obtain ⟨hb0, fs0, hx0⟩ := I.sc
    by_cases hk4 : N < 4 * k + 4
    · 
      refine mm_iload_n (pc := 18) dL_law_18 rfl ?_
      refine mm_aload_n (pc := 19) dL_law_19 rfl (by first | trivial | assumption | exact mm_isr_rf _) ?_
      refine mm_alen2 (pc := 20) (kd := ?kd_20_130) (vs := ?vs_20_130) dL_law_20 ?hc_20_130 ?hk_20_130 ?ht_20_130 ?_; (case hc_20_130 => exact hb0); (case hk_20_130 => rfl); (case ht_20_130 => rfl)
      refine mm_iconst (pc := 21) (v := 4) dL_law_21 (by decide) ?_
      refine mm_isub (pc := 22) dL_law_22 ?_
      refine mm_icmp_gt (pc := 23) (tgt := 855) dL_law_23 (by decide) (fun c23 => ?_) (fun c23 => absurd (by rw [scO_len, law_cmp hN (by omega)]; omega) c23)
      refine mm_iconst (pc := 855) (v := 1) dL_law_855 (by decide) ?_
      refine mm_zret (pc := 856) dL_law_856 rfl (by first | rfl | decide) ?_
      exact hQ _ _ hk0 I
    have hk5 : k < 512 := by omega
    have hl1 : B.1 + 330 * k + 400 ≤ L.1 := by omega
    have hl2 : B.2 + 2460 * k + 3000 ≤ L.2 := by omega
    obtain ⟨p0, q0⟩ := scO_at (N := N) (xs := xs) (x := nI (4 * k)) (j := 4 * k) rfl (by omega) hN
    obtain ⟨p1, q1⟩ := scO_at (N := N) (xs := xs) (x := nI (4 * k) + 1) (j := 4 * k + 1) (nI_a (c := 1)) (by omega) hN
    obtain ⟨p2, q2⟩ := scO_at (N := N) (xs := xs) (x := nI (4 * k) + 2) (j := 4 * k + 2) (nI_a (c := 2)) (by omega) hN
    obtain ⟨p3, q3⟩ := scO_at (N := N) (xs := xs) (x := nI (4 * k) + 3) (j := 4 * k + 3) (nI_a (c := 3)) (by omega) hN
    refine mm_iload_n (pc := 18) dL_law_18 rfl ?_
    refine mm_aload_n (pc := 19) dL_law_19 rfl (by first | trivial | assumption | exact mm_isr_rf _) ?_
    refine mm_alen2 (pc := 20) (kd := ?kd_20_1) (vs := ?vs_20_1) dL_law_20 ?hc_20_1 ?hk_20_1 ?ht_20_1 ?_; (case hc_20_1 => exact hb0); (case hk_20_1 => rfl); (case ht_20_1 => rfl)
    refine mm_iconst (pc := 21) (v := 4) dL_law_21 (by decide) ?_
    refine mm_isub (pc := 22) dL_law_22 ?_
    refine mm_icmp_gt (pc := 23) (tgt := 855) dL_law_23 (by decide) (fun c23 => absurd c23 (by rw [scO_len, law_cmp hN (by omega)]; omega)) (fun c23 => ?_)
    refine mm_aload_n (pc := 26) dL_law_26 rfl (by first | trivial | assumption | exact mm_isr_rf _) ?_
    refine mm_iload_n (pc := 27) dL_law_27 rfl ?_
    refine mm_iald (pc := 28) (kd := ?kd_28_2) (vs := ?vs_28_2) (v := ?v_28_2) dL_law_28 ?hc_28_2 ?hk_28_2 ?h0_28_2 ?hv_28_2 ?_; (case hc_28_2 => exact hb0); (case hk_28_2 => rfl); (case h0_28_2 => exact p0); (case hv_28_2 => exact q0)
    refine mm_bipush (pc := 29) (v := 31) dL_law_29 (by decide) ?_
    refine mm_iand (pc := 31) dL_law_31 ?_
    refine mm_sw (pc := 32) [136, 199, 212, 225, 248, 281, 324, 367, 410, 469, 492, 525, 568, 611, 644, 667, 700, 723, 756, 780, 813, 826] 849 dL_law_32 (by decide) (by decide) (by decide) (fun i_ t_ ht_ hx_ => ?_) (fun c32 => ?_)
    · match i_, ht_ with
      | 0, ht_ =>
        cases ht_
        have c32 := mm_swe (v := 0) hx_ (by decide)
        refine mm_aload_n (pc := 136) dL_law_136 rfl (by first | trivial | assumption | exact mm_isr_rf _) ?_
        refine mm_aload_n (pc := 137) dL_law_137 rfl (by first | trivial | assumption | exact mm_isr_rf _) ?_
        refine mm_iload_n (pc := 138) dL_law_138 rfl ?_
        refine mm_iconst (pc := 139) (v := 1) dL_law_139 (by decide) ?_
        refine mm_iadd (pc := 140) dL_law_140 ?_
        refine mm_iald (pc := 141) (kd := ?kd_141_3) (vs := ?vs_141_3) (v := ?v_141_3) dL_law_141 ?hc_141_3 ?hk_141_3 ?h0_141_3 ?hv_141_3 ?_; (case hc_141_3 => exact hb0); (case hk_141_3 => rfl); (case h0_141_3 => exact p1); (case hv_141_3 => exact q1)
        refine mm_i2l (pc := 142) dL_law_142 ?_
        refine mm_bipush (pc := 143) (v := 32) dL_law_143 (by decide) ?_
        refine mm_lshl (pc := 145) dL_law_145 ?_
        refine mm_aload_n (pc := 146) dL_law_146 rfl (by first | trivial | assumption | exact mm_isr_rf _) ?_
        refine mm_iload_n (pc := 147) dL_law_147 rfl ?_
        refine mm_iconst (pc := 148) (v := 2) dL_law_148 (by decide) ?_
        refine mm_iadd (pc := 149) dL_law_149 ?_
        refine mm_iald (pc := 150) (kd := ?kd_150_4) (vs := ?vs_150_4) (v := ?v_150_4) dL_law_150 ?hc_150_4 ?hk_150_4 ?h0_150_4 ?hv_150_4 ?_; (case hc_150_4 => exact hb0); (case hk_150_4 => rfl); (case h0_150_4 => exact p2); (case hv_150_4 => exact q2)
        refine mm_i2l (pc := 151) dL_law_151 ?_
        refine mm_ldc2 (pc := 152) dL_law_152 cn_L_13 ?_
        refine mm_land (pc := 155) dL_law_155 ?_
        refine mm_lor (pc := 156) dL_law_156 ?_
        refine mm_aload_n (pc := 157) dL_law_157 rfl (by first | trivial | assumption | exact mm_isr_rf _) ?_
        refine mm_iload_n (pc := 158) dL_law_158 rfl ?_
        refine mm_iconst (pc := 159) (v := 3) dL_law_159 (by decide) ?_
        refine mm_iadd (pc := 160) dL_law_160 ?_
        refine mm_iald (pc := 161) (kd := ?kd_161_5) (vs := ?vs_161_5) (v := ?v_161_5) dL_law_161 ?hc_161_5 ?hk_161_5 ?h0_161_5 ?hv_161_5 ?_; (case hc_161_5 => exact hb0); (case hk_161_5 => rfl); (case h0_161_5 => exact p3); (case hv_161_5 => exact q3)
        refine mm_callV (pc := 162) (As := [_, _]) (kd := ?kd_162_6) (fs := ?fs_162_6) dL_law_162 vl_L_15 (T_feed I hk5 hl1 hl2) ?hc_162_6 ?hk_162_6 rfl rfl (Nat.le_of_ble_eq_true rfl) ?_; (case hc_162_6 => exact hx0); (case hk_162_6 => rfl)
        rintro _ h1 ⟨v, rfl, hv, ⟨hb1, fs1, hm1⟩, hok⟩
        obtain ⟨x, rfl⟩ : ∃ x, v = Value.int x := hv
        refine mm_aload_n (pc := 165) dL_law_165 rfl (by first | trivial | assumption | exact mm_isr_rf _) ?_
        refine mm_aload_n (pc := 166) dL_law_166 rfl (by first | trivial | assumption | exact mm_isr_rf _) ?_
        refine mm_iload_n (pc := 167) dL_law_167 rfl ?_
        refine mm_iconst (pc := 168) (v := 1) dL_law_168 (by decide) ?_
        refine mm_iadd (pc := 169) dL_law_169 ?_
        refine mm_iald (pc := 170) (kd := ?kd_170_7) (vs := ?vs_170_7) (v := ?v_170_7) dL_law_170 ?hc_170_7 ?hk_170_7 ?h0_170_7 ?hv_170_7 ?_; (case hc_170_7 => exact hb1); (case hk_170_7 => rfl); (case h0_170_7 => exact p1); (case hv_170_7 => exact q1)
        refine mm_i2l (pc := 171) dL_law_171 ?_
        refine mm_bipush (pc := 172) (v := 32) dL_law_172 (by decide) ?_
        refine mm_lshl (pc := 174) dL_law_174 ?_
        refine mm_aload_n (pc := 175) dL_law_175 rfl (by first | trivial | assumption | exact mm_isr_rf _) ?_
        refine mm_iload_n (pc := 176) dL_law_176 rfl ?_
        refine mm_iconst (pc := 177) (v := 2) dL_law_177 (by decide) ?_
        refine mm_iadd (pc := 178) dL_law_178 ?_
        refine mm_iald (pc := 179) (kd := ?kd_179_8) (vs := ?vs_179_8) (v := ?v_179_8) dL_law_179 ?hc_179_8 ?hk_179_8 ?h0_179_8 ?hv_179_8 ?_; (case hc_179_8 => exact hb1); (case hk_179_8 => rfl); (case h0_179_8 => exact p2); (case hv_179_8 => exact q2)
        refine mm_i2l (pc := 180) dL_law_180 ?_
        refine mm_ldc2 (pc := 181) dL_law_181 cn_L_13 ?_
        refine mm_land (pc := 184) dL_law_184 ?_
        refine mm_lor (pc := 185) dL_law_185 ?_
        refine mm_aload_n (pc := 186) dL_law_186 rfl (by first | trivial | assumption | exact mm_isr_rf _) ?_
        refine mm_iload_n (pc := 187) dL_law_187 rfl ?_
        refine mm_iconst (pc := 188) (v := 3) dL_law_188 (by decide) ?_
        refine mm_iadd (pc := 189) dL_law_189 ?_
        refine mm_iald (pc := 190) (kd := ?kd_190_9) (vs := ?vs_190_9) (v := ?v_190_9) dL_law_190 ?hc_190_9 ?hk_190_9 ?h0_190_9 ?hv_190_9 ?_; (case hc_190_9 => exact hb1); (case hk_190_9 => rfl); (case h0_190_9 => exact p3); (case hv_190_9 => exact q3)
        refine mm_callV (pc := 191) (As := [_, _]) (kd := ?kd_191_10) (fs := ?fs_191_10) dL_law_191 vl_L_19 (hok) ?hc_191_10 ?hk_191_10 rfl rfl (Nat.le_of_ble_eq_true rfl) ?_; (case hc_191_10 => exact hm1); (case hk_191_10 => rfl)
        rintro _ h2 ⟨rfl, I2⟩
        refine mm_icmp_eq (pc := 194) (tgt := 849) dL_law_194 (by decide) (fun c194 => ?_) (fun c194 => absurd rfl c194)
        refine mm_iinc (pc := 849) dL_law_849 rfl rfl rfl (Nat.le_of_ble_eq_true rfl) ?_
        refine mm_goto (pc := 852) (tgt := 18) dL_law_852 (by decide) ?_
        exact mm_weakK (ih (k + 1) h2 (by omega) (by omega) I2) (And.intro rfl (And.intro rfl (And.intro rfl (And.intro (congrArg some (congrArg Value.int nI_a4)) trivial))))
      | 1, ht_ =>
        cases ht_
        have c32 := mm_swe (v := 1) hx_ (by decide)
        refine mm_aload_n (pc := 199) dL_law_199 rfl (by first | trivial | assumption | exact mm_isr_rf _) ?_
        refine mm_callV (pc := 200) (As := []) (kd := ?kd_200_11) (fs := ?fs_200_11) dL_law_200 vl_L_20 (T_pack I hk5 hl1 hl2) ?hc_200_11 ?hk_200_11 rfl rfl (Nat.le_of_ble_eq_true rfl) ?_; (case hc_200_11 => exact hx0); (case hk_200_11 => rfl)
        rintro _ h1 ⟨v, rfl, hv, ⟨hb1, fs1, hm1⟩, hok⟩
        obtain ⟨x, rfl⟩ : ∃ x, v = Value.int x := hv
        refine mm_aload_n (pc := 203) dL_law_203 rfl (by first | trivial | assumption | exact mm_isr_rf _) ?_
        refine mm_callV (pc := 204) (As := []) (kd := ?kd_204_12) (fs := ?fs_204_12) dL_law_204 vl_L_24 (hok) ?hc_204_12 ?hk_204_12 rfl rfl (Nat.le_of_ble_eq_true rfl) ?_; (case hc_204_12 => exact hm1); (case hk_204_12 => rfl)
        rintro _ h2 ⟨rfl, I2⟩
        refine mm_icmp_eq (pc := 207) (tgt := 849) dL_law_207 (by decide) (fun c207 => ?_) (fun c207 => absurd rfl c207)
        refine mm_iinc (pc := 849) dL_law_849 rfl rfl rfl (Nat.le_of_ble_eq_true rfl) ?_
        refine mm_goto (pc := 852) (tgt := 18) dL_law_852 (by decide) ?_
        exact mm_weakK (ih (k + 1) h2 (by omega) (by omega) I2) (And.intro rfl (And.intro rfl (And.intro rfl (And.intro (congrArg some (congrArg Value.int nI_a4)) trivial))))
      | 2, ht_ =>
        cases ht_
        have c32 := mm_swe (v := 2) hx_ (by decide)
        refine mm_aload_n (pc := 212) dL_law_212 rfl (by first | trivial | assumption | exact mm_isr_rf _) ?_
        refine mm_callV (pc := 213) (As := []) (kd := ?kd_213_13) (fs := ?fs_213_13) dL_law_213 vl_L_25 (T_place I hk5 hl1 hl2) ?hc_213_13 ?hk_213_13 rfl rfl (Nat.le_of_ble_eq_true rfl) ?_; (case hc_213_13 => exact hx0); (case hk_213_13 => rfl)
        rintro _ h1 ⟨v, rfl, hv, ⟨hb1, fs1, hm1⟩, hok⟩
        obtain ⟨x, rfl⟩ : ∃ x, v = Value.int x := hv
        refine mm_aload_n (pc := 216) dL_law_216 rfl (by first | trivial | assumption | exact mm_isr_rf _) ?_
        refine mm_callV (pc := 217) (As := []) (kd := ?kd_217_14) (fs := ?fs_217_14) dL_law_217 vl_L_28 (hok) ?hc_217_14 ?hk_217_14 rfl rfl (Nat.le_of_ble_eq_true rfl) ?_; (case hc_217_14 => exact hm1); (case hk_217_14 => rfl)
        rintro _ h2 ⟨rfl, I2⟩
        refine mm_icmp_eq (pc := 220) (tgt := 849) dL_law_220 (by decide) (fun c220 => ?_) (fun c220 => absurd rfl c220)
        refine mm_iinc (pc := 849) dL_law_849 rfl rfl rfl (Nat.le_of_ble_eq_true rfl) ?_
        refine mm_goto (pc := 852) (tgt := 18) dL_law_852 (by decide) ?_
        exact mm_weakK (ih (k + 1) h2 (by omega) (by omega) I2) (And.intro rfl (And.intro rfl (And.intro rfl (And.intro (congrArg some (congrArg Value.int nI_a4)) trivial))))
      | 3, ht_ =>
        cases ht_
        have c32 := mm_swe (v := 3) hx_ (by decide)
        refine mm_aload_n (pc := 225) dL_law_225 rfl (by first | trivial | assumption | exact mm_isr_rf _) ?_
        refine mm_aload_n (pc := 226) dL_law_226 rfl (by first | trivial | assumption | exact mm_isr_rf _) ?_
        refine mm_iload_n (pc := 227) dL_law_227 rfl ?_
        refine mm_iconst (pc := 228) (v := 1) dL_law_228 (by decide) ?_
        refine mm_iadd (pc := 229) dL_law_229 ?_
        refine mm_iald (pc := 230) (kd := ?kd_230_15) (vs := ?vs_230_15) (v := ?v_230_15) dL_law_230 ?hc_230_15 ?hk_230_15 ?h0_230_15 ?hv_230_15 ?_; (case hc_230_15 => exact hb0); (case hk_230_15 => rfl); (case h0_230_15 => exact p1); (case hv_230_15 => exact q1)
        refine mm_callV (pc := 231) (As := [_]) (kd := ?kd_231_16) (fs := ?fs_231_16) dL_law_231 vl_L_29 (T_retire I hk5 hl1 hl2) ?hc_231_16 ?hk_231_16 rfl rfl (Nat.le_of_ble_eq_true rfl) ?_; (case hc_231_16 => exact hx0); (case hk_231_16 => rfl)
        rintro _ h1 ⟨v, rfl, hv, ⟨hb1, fs1, hm1⟩, hok⟩
        obtain ⟨x, rfl⟩ : ∃ x, v = Value.int x := hv
        refine mm_aload_n (pc := 234) dL_law_234 rfl (by first | trivial | assumption | exact mm_isr_rf _) ?_
        refine mm_aload_n (pc := 235) dL_law_235 rfl (by first | trivial | assumption | exact mm_isr_rf _) ?_
        refine mm_iload_n (pc := 236) dL_law_236 rfl ?_
        refine mm_iconst (pc := 237) (v := 1) dL_law_237 (by decide) ?_
        refine mm_iadd (pc := 238) dL_law_238 ?_
        refine mm_iald (pc := 239) (kd := ?kd_239_17) (vs := ?vs_239_17) (v := ?v_239_17) dL_law_239 ?hc_239_17 ?hk_239_17 ?h0_239_17 ?hv_239_17 ?_; (case hc_239_17 => exact hb1); (case hk_239_17 => rfl); (case h0_239_17 => exact p1); (case hv_239_17 => exact q1)
        refine mm_callV (pc := 240) (As := [_]) (kd := ?kd_240_18) (fs := ?fs_240_18) dL_law_240 vl_L_33 (hok) ?hc_240_18 ?hk_240_18 rfl rfl (Nat.le_of_ble_eq_true rfl) ?_; (case hc_240_18 => exact hm1); (case hk_240_18 => rfl)
        rintro _ h2 ⟨rfl, I2⟩
        refine mm_icmp_eq (pc := 243) (tgt := 849) dL_law_243 (by decide) (fun c243 => ?_) (fun c243 => absurd rfl c243)
        refine mm_iinc (pc := 849) dL_law_849 rfl rfl rfl (Nat.le_of_ble_eq_true rfl) ?_
        refine mm_goto (pc := 852) (tgt := 18) dL_law_852 (by decide) ?_
        exact mm_weakK (ih (k + 1) h2 (by omega) (by omega) I2) (And.intro rfl (And.intro rfl (And.intro rfl (And.intro (congrArg some (congrArg Value.int nI_a4)) trivial))))
      | 4, ht_ =>
        cases ht_
        have c32 := mm_swe (v := 4) hx_ (by decide)
        refine mm_aload_n (pc := 248) dL_law_248 rfl (by first | trivial | assumption | exact mm_isr_rf _) ?_
        refine mm_aload_n (pc := 249) dL_law_249 rfl (by first | trivial | assumption | exact mm_isr_rf _) ?_
        refine mm_iload_n (pc := 250) dL_law_250 rfl ?_
        refine mm_iconst (pc := 251) (v := 1) dL_law_251 (by decide) ?_
        refine mm_iadd (pc := 252) dL_law_252 ?_
        refine mm_iald (pc := 253) (kd := ?kd_253_19) (vs := ?vs_253_19) (v := ?v_253_19) dL_law_253 ?hc_253_19 ?hk_253_19 ?h0_253_19 ?hv_253_19 ?_; (case hc_253_19 => exact hb0); (case hk_253_19 => rfl); (case h0_253_19 => exact p1); (case hv_253_19 => exact q1)
        refine mm_aload_n (pc := 254) dL_law_254 rfl (by first | trivial | assumption | exact mm_isr_rf _) ?_
        refine mm_iload_n (pc := 255) dL_law_255 rfl ?_
        refine mm_iconst (pc := 256) (v := 2) dL_law_256 (by decide) ?_
        refine mm_iadd (pc := 257) dL_law_257 ?_
        refine mm_iald (pc := 258) (kd := ?kd_258_20) (vs := ?vs_258_20) (v := ?v_258_20) dL_law_258 ?hc_258_20 ?hk_258_20 ?h0_258_20 ?hv_258_20 ?_; (case hc_258_20 => exact hb0); (case hk_258_20 => rfl); (case h0_258_20 => exact p2); (case hv_258_20 => exact q2)
        refine mm_callV (pc := 259) (As := [_, _]) (kd := ?kd_259_21) (fs := ?fs_259_21) dL_law_259 vl_L_34 (T_kind I hk5 hl1 hl2) ?hc_259_21 ?hk_259_21 rfl rfl (Nat.le_of_ble_eq_true rfl) ?_; (case hc_259_21 => exact hx0); (case hk_259_21 => rfl)
        rintro _ h1 ⟨v, rfl, hv, ⟨hb1, fs1, hm1⟩, hok⟩
        obtain ⟨x, rfl⟩ : ∃ x, v = Value.int x := hv
        refine mm_aload_n (pc := 262) dL_law_262 rfl (by first | trivial | assumption | exact mm_isr_rf _) ?_
        refine mm_aload_n (pc := 263) dL_law_263 rfl (by first | trivial | assumption | exact mm_isr_rf _) ?_
        refine mm_iload_n (pc := 264) dL_law_264 rfl ?_
        refine mm_iconst (pc := 265) (v := 1) dL_law_265 (by decide) ?_
        refine mm_iadd (pc := 266) dL_law_266 ?_
        refine mm_iald (pc := 267) (kd := ?kd_267_22) (vs := ?vs_267_22) (v := ?v_267_22) dL_law_267 ?hc_267_22 ?hk_267_22 ?h0_267_22 ?hv_267_22 ?_; (case hc_267_22 => exact hb1); (case hk_267_22 => rfl); (case h0_267_22 => exact p1); (case hv_267_22 => exact q1)
        refine mm_aload_n (pc := 268) dL_law_268 rfl (by first | trivial | assumption | exact mm_isr_rf _) ?_
        refine mm_iload_n (pc := 269) dL_law_269 rfl ?_
        refine mm_iconst (pc := 270) (v := 2) dL_law_270 (by decide) ?_
        refine mm_iadd (pc := 271) dL_law_271 ?_
        refine mm_iald (pc := 272) (kd := ?kd_272_23) (vs := ?vs_272_23) (v := ?v_272_23) dL_law_272 ?hc_272_23 ?hk_272_23 ?h0_272_23 ?hv_272_23 ?_; (case hc_272_23 => exact hb1); (case hk_272_23 => rfl); (case h0_272_23 => exact p2); (case hv_272_23 => exact q2)
        refine mm_callV (pc := 273) (As := [_, _]) (kd := ?kd_273_24) (fs := ?fs_273_24) dL_law_273 vl_L_38 (hok) ?hc_273_24 ?hk_273_24 rfl rfl (Nat.le_of_ble_eq_true rfl) ?_; (case hc_273_24 => exact hm1); (case hk_273_24 => rfl)
        rintro _ h2 ⟨rfl, I2⟩
        refine mm_icmp_eq (pc := 276) (tgt := 849) dL_law_276 (by decide) (fun c276 => ?_) (fun c276 => absurd rfl c276)
        refine mm_iinc (pc := 849) dL_law_849 rfl rfl rfl (Nat.le_of_ble_eq_true rfl) ?_
        refine mm_goto (pc := 852) (tgt := 18) dL_law_852 (by decide) ?_
        exact mm_weakK (ih (k + 1) h2 (by omega) (by omega) I2) (And.intro rfl (And.intro rfl (And.intro rfl (And.intro (congrArg some (congrArg Value.int nI_a4)) trivial))))
      | 5, ht_ =>
        cases ht_
        have c32 := mm_swe (v := 5) hx_ (by decide)
        refine mm_aload_n (pc := 281) dL_law_281 rfl (by first | trivial | assumption | exact mm_isr_rf _) ?_
        refine mm_aload_n (pc := 282) dL_law_282 rfl (by first | trivial | assumption | exact mm_isr_rf _) ?_
        refine mm_iload_n (pc := 283) dL_law_283 rfl ?_
        refine mm_iconst (pc := 284) (v := 1) dL_law_284 (by decide) ?_
        refine mm_iadd (pc := 285) dL_law_285 ?_
        refine mm_iald (pc := 286) (kd := ?kd_286_25) (vs := ?vs_286_25) (v := ?v_286_25) dL_law_286 ?hc_286_25 ?hk_286_25 ?h0_286_25 ?hv_286_25 ?_; (case hc_286_25 => exact hb0); (case hk_286_25 => rfl); (case h0_286_25 => exact p1); (case hv_286_25 => exact q1)
        refine mm_aload_n (pc := 287) dL_law_287 rfl (by first | trivial | assumption | exact mm_isr_rf _) ?_
        refine mm_iload_n (pc := 288) dL_law_288 rfl ?_
        refine mm_iconst (pc := 289) (v := 2) dL_law_289 (by decide) ?_
        refine mm_iadd (pc := 290) dL_law_290 ?_
        refine mm_iald (pc := 291) (kd := ?kd_291_26) (vs := ?vs_291_26) (v := ?v_291_26) dL_law_291 ?hc_291_26 ?hk_291_26 ?h0_291_26 ?hv_291_26 ?_; (case hc_291_26 => exact hb0); (case hk_291_26 => rfl); (case h0_291_26 => exact p2); (case hv_291_26 => exact q2)
        refine mm_aload_n (pc := 292) dL_law_292 rfl (by first | trivial | assumption | exact mm_isr_rf _) ?_
        refine mm_iload_n (pc := 293) dL_law_293 rfl ?_
        refine mm_iconst (pc := 294) (v := 3) dL_law_294 (by decide) ?_
        refine mm_iadd (pc := 295) dL_law_295 ?_
        refine mm_iald (pc := 296) (kd := ?kd_296_27) (vs := ?vs_296_27) (v := ?v_296_27) dL_law_296 ?hc_296_27 ?hk_296_27 ?h0_296_27 ?hv_296_27 ?_; (case hc_296_27 => exact hb0); (case hk_296_27 => rfl); (case h0_296_27 => exact p3); (case hv_296_27 => exact q3)
        refine mm_callV (pc := 297) (As := [_, _, _]) (kd := ?kd_297_28) (fs := ?fs_297_28) dL_law_297 vl_L_39 (T_body I hk5 hl1 hl2) ?hc_297_28 ?hk_297_28 rfl rfl (Nat.le_of_ble_eq_true rfl) ?_; (case hc_297_28 => exact hx0); (case hk_297_28 => rfl)
        rintro _ h1 ⟨v, rfl, hv, ⟨hb1, fs1, hm1⟩, hok⟩
        obtain ⟨x, rfl⟩ : ∃ x, v = Value.int x := hv
        refine mm_aload_n (pc := 300) dL_law_300 rfl (by first | trivial | assumption | exact mm_isr_rf _) ?_
        refine mm_aload_n (pc := 301) dL_law_301 rfl (by first | trivial | assumption | exact mm_isr_rf _) ?_
        refine mm_iload_n (pc := 302) dL_law_302 rfl ?_
        refine mm_iconst (pc := 303) (v := 1) dL_law_303 (by decide) ?_
        refine mm_iadd (pc := 304) dL_law_304 ?_
        refine mm_iald (pc := 305) (kd := ?kd_305_29) (vs := ?vs_305_29) (v := ?v_305_29) dL_law_305 ?hc_305_29 ?hk_305_29 ?h0_305_29 ?hv_305_29 ?_; (case hc_305_29 => exact hb1); (case hk_305_29 => rfl); (case h0_305_29 => exact p1); (case hv_305_29 => exact q1)
        refine mm_aload_n (pc := 306) dL_law_306 rfl (by first | trivial | assumption | exact mm_isr_rf _) ?_
        refine mm_iload_n (pc := 307) dL_law_307 rfl ?_
        refine mm_iconst (pc := 308) (v := 2) dL_law_308 (by decide) ?_
        refine mm_iadd (pc := 309) dL_law_309 ?_
        refine mm_iald (pc := 310) (kd := ?kd_310_30) (vs := ?vs_310_30) (v := ?v_310_30) dL_law_310 ?hc_310_30 ?hk_310_30 ?h0_310_30 ?hv_310_30 ?_; (case hc_310_30 => exact hb1); (case hk_310_30 => rfl); (case h0_310_30 => exact p2); (case hv_310_30 => exact q2)
        refine mm_aload_n (pc := 311) dL_law_311 rfl (by first | trivial | assumption | exact mm_isr_rf _) ?_
        refine mm_iload_n (pc := 312) dL_law_312 rfl ?_
        refine mm_iconst (pc := 313) (v := 3) dL_law_313 (by decide) ?_
        refine mm_iadd (pc := 314) dL_law_314 ?_
        refine mm_iald (pc := 315) (kd := ?kd_315_31) (vs := ?vs_315_31) (v := ?v_315_31) dL_law_315 ?hc_315_31 ?hk_315_31 ?h0_315_31 ?hv_315_31 ?_; (case hc_315_31 => exact hb1); (case hk_315_31 => rfl); (case h0_315_31 => exact p3); (case hv_315_31 => exact q3)
        refine mm_callV (pc := 316) (As := [_, _, _]) (kd := ?kd_316_32) (fs := ?fs_316_32) dL_law_316 vl_L_43 (hok) ?hc_316_32 ?hk_316_32 rfl rfl (Nat.le_of_ble_eq_true rfl) ?_; (case hc_316_32 => exact hm1); (case hk_316_32 => rfl)
        rintro _ h2 ⟨rfl, I2⟩
        refine mm_icmp_eq (pc := 319) (tgt := 849) dL_law_319 (by decide) (fun c319 => ?_) (fun c319 => absurd rfl c319)
        refine mm_iinc (pc := 849) dL_law_849 rfl rfl rfl (Nat.le_of_ble_eq_true rfl) ?_
        refine mm_goto (pc := 852) (tgt := 18) dL_law_852 (by decide) ?_
        exact mm_weakK (ih (k + 1) h2 (by omega) (by omega) I2) (And.intro rfl (And.intro rfl (And.intro rfl (And.intro (congrArg some (congrArg Value.int nI_a4)) trivial))))
      | 6, ht_ =>
        cases ht_
        have c32 := mm_swe (v := 6) hx_ (by decide)
        refine mm_aload_n (pc := 324) dL_law_324 rfl (by first | trivial | assumption | exact mm_isr_rf _) ?_
        refine mm_aload_n (pc := 325) dL_law_325 rfl (by first | trivial | assumption | exact mm_isr_rf _) ?_
        refine mm_iload_n (pc := 326) dL_law_326 rfl ?_
        refine mm_iconst (pc := 327) (v := 1) dL_law_327 (by decide) ?_
        refine mm_iadd (pc := 328) dL_law_328 ?_
        refine mm_iald (pc := 329) (kd := ?kd_329_33) (vs := ?vs_329_33) (v := ?v_329_33) dL_law_329 ?hc_329_33 ?hk_329_33 ?h0_329_33 ?hv_329_33 ?_; (case hc_329_33 => exact hb0); (case hk_329_33 => rfl); (case h0_329_33 => exact p1); (case hv_329_33 => exact q1)
        refine mm_aload_n (pc := 330) dL_law_330 rfl (by first | trivial | assumption | exact mm_isr_rf _) ?_
        refine mm_iload_n (pc := 331) dL_law_331 rfl ?_
        refine mm_iconst (pc := 332) (v := 2) dL_law_332 (by decide) ?_
        refine mm_iadd (pc := 333) dL_law_333 ?_
        refine mm_iald (pc := 334) (kd := ?kd_334_34) (vs := ?vs_334_34) (v := ?v_334_34) dL_law_334 ?hc_334_34 ?hk_334_34 ?h0_334_34 ?hv_334_34 ?_; (case hc_334_34 => exact hb0); (case hk_334_34 => rfl); (case h0_334_34 => exact p2); (case hv_334_34 => exact q2)
        refine mm_aload_n (pc := 335) dL_law_335 rfl (by first | trivial | assumption | exact mm_isr_rf _) ?_
        refine mm_iload_n (pc := 336) dL_law_336 rfl ?_
        refine mm_iconst (pc := 337) (v := 3) dL_law_337 (by decide) ?_
        refine mm_iadd (pc := 338) dL_law_338 ?_
        refine mm_iald (pc := 339) (kd := ?kd_339_35) (vs := ?vs_339_35) (v := ?v_339_35) dL_law_339 ?hc_339_35 ?hk_339_35 ?h0_339_35 ?hv_339_35 ?_; (case hc_339_35 => exact hb0); (case hk_339_35 => rfl); (case h0_339_35 => exact p3); (case hv_339_35 => exact q3)
        refine mm_callV (pc := 340) (As := [_, _, _]) (kd := ?kd_340_36) (fs := ?fs_340_36) dL_law_340 vl_L_44 (T_overrides I hk5 hl1 hl2) ?hc_340_36 ?hk_340_36 rfl rfl (Nat.le_of_ble_eq_true rfl) ?_; (case hc_340_36 => exact hx0); (case hk_340_36 => rfl)
        rintro _ h1 ⟨v, rfl, hv, ⟨hb1, fs1, hm1⟩, hok⟩
        obtain ⟨x, rfl⟩ : ∃ x, v = Value.int x := hv
        refine mm_aload_n (pc := 343) dL_law_343 rfl (by first | trivial | assumption | exact mm_isr_rf _) ?_
        refine mm_aload_n (pc := 344) dL_law_344 rfl (by first | trivial | assumption | exact mm_isr_rf _) ?_
        refine mm_iload_n (pc := 345) dL_law_345 rfl ?_
        refine mm_iconst (pc := 346) (v := 1) dL_law_346 (by decide) ?_
        refine mm_iadd (pc := 347) dL_law_347 ?_
        refine mm_iald (pc := 348) (kd := ?kd_348_37) (vs := ?vs_348_37) (v := ?v_348_37) dL_law_348 ?hc_348_37 ?hk_348_37 ?h0_348_37 ?hv_348_37 ?_; (case hc_348_37 => exact hb1); (case hk_348_37 => rfl); (case h0_348_37 => exact p1); (case hv_348_37 => exact q1)
        refine mm_aload_n (pc := 349) dL_law_349 rfl (by first | trivial | assumption | exact mm_isr_rf _) ?_
        refine mm_iload_n (pc := 350) dL_law_350 rfl ?_
        refine mm_iconst (pc := 351) (v := 2) dL_law_351 (by decide) ?_
        refine mm_iadd (pc := 352) dL_law_352 ?_
        refine mm_iald (pc := 353) (kd := ?kd_353_38) (vs := ?vs_353_38) (v := ?v_353_38) dL_law_353 ?hc_353_38 ?hk_353_38 ?h0_353_38 ?hv_353_38 ?_; (case hc_353_38 => exact hb1); (case hk_353_38 => rfl); (case h0_353_38 => exact p2); (case hv_353_38 => exact q2)
        refine mm_aload_n (pc := 354) dL_law_354 rfl (by first | trivial | assumption | exact mm_isr_rf _) ?_
        refine mm_iload_n (pc := 355) dL_law_355 rfl ?_
        refine mm_iconst (pc := 356) (v := 3) dL_law_356 (by decide) ?_
        refine mm_iadd (pc := 357) dL_law_357 ?_
        refine mm_iald (pc := 358) (kd := ?kd_358_39) (vs := ?vs_358_39) (v := ?v_358_39) dL_law_358 ?hc_358_39 ?hk_358_39 ?h0_358_39 ?hv_358_39 ?_; (case hc_358_39 => exact hb1); (case hk_358_39 => rfl); (case h0_358_39 => exact p3); (case hv_358_39 => exact q3)
        refine mm_callV (pc := 359) (As := [_, _, _]) (kd := ?kd_359_40) (fs := ?fs_359_40) dL_law_359 vl_L_47 (hok) ?hc_359_40 ?hk_359_40 rfl rfl (Nat.le_of_ble_eq_true rfl) ?_; (case hc_359_40 => exact hm1); (case hk_359_40 => rfl)
        rintro _ h2 ⟨rfl, I2⟩
        refine mm_icmp_eq (pc := 362) (tgt := 849) dL_law_362 (by decide) (fun c362 => ?_) (fun c362 => absurd rfl c362)
        refine mm_iinc (pc := 849) dL_law_849 rfl rfl rfl (Nat.le_of_ble_eq_true rfl) ?_
        refine mm_goto (pc := 852) (tgt := 18) dL_law_852 (by decide) ?_
        exact mm_weakK (ih (k + 1) h2 (by omega) (by omega) I2) (And.intro rfl (And.intro rfl (And.intro rfl (And.intro (congrArg some (congrArg Value.int nI_a4)) trivial))))
      | 7, ht_ =>
        cases ht_
        have c32 := mm_swe (v := 7) hx_ (by decide)
        refine mm_aload_n (pc := 367) dL_law_367 rfl (by first | trivial | assumption | exact mm_isr_rf _) ?_
        refine mm_aload_n (pc := 368) dL_law_368 rfl (by first | trivial | assumption | exact mm_isr_rf _) ?_
        refine mm_iload_n (pc := 369) dL_law_369 rfl ?_
        refine mm_iconst (pc := 370) (v := 1) dL_law_370 (by decide) ?_
        refine mm_iadd (pc := 371) dL_law_371 ?_
        refine mm_iald (pc := 372) (kd := ?kd_372_41) (vs := ?vs_372_41) (v := ?v_372_41) dL_law_372 ?hc_372_41 ?hk_372_41 ?h0_372_41 ?hv_372_41 ?_; (case hc_372_41 => exact hb0); (case hk_372_41 => rfl); (case h0_372_41 => exact p1); (case hv_372_41 => exact q1)
        refine mm_aload_n (pc := 373) dL_law_373 rfl (by first | trivial | assumption | exact mm_isr_rf _) ?_
        refine mm_iload_n (pc := 374) dL_law_374 rfl ?_
        refine mm_iconst (pc := 375) (v := 2) dL_law_375 (by decide) ?_
        refine mm_iadd (pc := 376) dL_law_376 ?_
        refine mm_iald (pc := 377) (kd := ?kd_377_42) (vs := ?vs_377_42) (v := ?v_377_42) dL_law_377 ?hc_377_42 ?hk_377_42 ?h0_377_42 ?hv_377_42 ?_; (case hc_377_42 => exact hb0); (case hk_377_42 => rfl); (case h0_377_42 => exact p2); (case hv_377_42 => exact q2)
        refine mm_aload_n (pc := 378) dL_law_378 rfl (by first | trivial | assumption | exact mm_isr_rf _) ?_
        refine mm_iload_n (pc := 379) dL_law_379 rfl ?_
        refine mm_iconst (pc := 380) (v := 3) dL_law_380 (by decide) ?_
        refine mm_iadd (pc := 381) dL_law_381 ?_
        refine mm_iald (pc := 382) (kd := ?kd_382_43) (vs := ?vs_382_43) (v := ?v_382_43) dL_law_382 ?hc_382_43 ?hk_382_43 ?h0_382_43 ?hv_382_43 ?_; (case hc_382_43 => exact hb0); (case hk_382_43 => rfl); (case h0_382_43 => exact p3); (case hv_382_43 => exact q3)
        refine mm_callV (pc := 383) (As := [_, _, _]) (kd := ?kd_383_44) (fs := ?fs_383_44) dL_law_383 vl_L_48 (T_chosen I hk5 hl1 hl2) ?hc_383_44 ?hk_383_44 rfl rfl (Nat.le_of_ble_eq_true rfl) ?_; (case hc_383_44 => exact hx0); (case hk_383_44 => rfl)
        rintro _ h1 ⟨v, rfl, hv, ⟨hb1, fs1, hm1⟩, hok⟩
        obtain ⟨x, rfl⟩ : ∃ x, v = Value.int x := hv
        refine mm_aload_n (pc := 386) dL_law_386 rfl (by first | trivial | assumption | exact mm_isr_rf _) ?_
        refine mm_aload_n (pc := 387) dL_law_387 rfl (by first | trivial | assumption | exact mm_isr_rf _) ?_
        refine mm_iload_n (pc := 388) dL_law_388 rfl ?_
        refine mm_iconst (pc := 389) (v := 1) dL_law_389 (by decide) ?_
        refine mm_iadd (pc := 390) dL_law_390 ?_
        refine mm_iald (pc := 391) (kd := ?kd_391_45) (vs := ?vs_391_45) (v := ?v_391_45) dL_law_391 ?hc_391_45 ?hk_391_45 ?h0_391_45 ?hv_391_45 ?_; (case hc_391_45 => exact hb1); (case hk_391_45 => rfl); (case h0_391_45 => exact p1); (case hv_391_45 => exact q1)
        refine mm_aload_n (pc := 392) dL_law_392 rfl (by first | trivial | assumption | exact mm_isr_rf _) ?_
        refine mm_iload_n (pc := 393) dL_law_393 rfl ?_
        refine mm_iconst (pc := 394) (v := 2) dL_law_394 (by decide) ?_
        refine mm_iadd (pc := 395) dL_law_395 ?_
        refine mm_iald (pc := 396) (kd := ?kd_396_46) (vs := ?vs_396_46) (v := ?v_396_46) dL_law_396 ?hc_396_46 ?hk_396_46 ?h0_396_46 ?hv_396_46 ?_; (case hc_396_46 => exact hb1); (case hk_396_46 => rfl); (case h0_396_46 => exact p2); (case hv_396_46 => exact q2)
        refine mm_aload_n (pc := 397) dL_law_397 rfl (by first | trivial | assumption | exact mm_isr_rf _) ?_
        refine mm_iload_n (pc := 398) dL_law_398 rfl ?_
        refine mm_iconst (pc := 399) (v := 3) dL_law_399 (by decide) ?_
        refine mm_iadd (pc := 400) dL_law_400 ?_
        refine mm_iald (pc := 401) (kd := ?kd_401_47) (vs := ?vs_401_47) (v := ?v_401_47) dL_law_401 ?hc_401_47 ?hk_401_47 ?h0_401_47 ?hv_401_47 ?_; (case hc_401_47 => exact hb1); (case hk_401_47 => rfl); (case h0_401_47 => exact p3); (case hv_401_47 => exact q3)
        refine mm_callV (pc := 402) (As := [_, _, _]) (kd := ?kd_402_48) (fs := ?fs_402_48) dL_law_402 vl_L_51 (hok) ?hc_402_48 ?hk_402_48 rfl rfl (Nat.le_of_ble_eq_true rfl) ?_; (case hc_402_48 => exact hm1); (case hk_402_48 => rfl)
        rintro _ h2 ⟨rfl, I2⟩
        refine mm_icmp_eq (pc := 405) (tgt := 849) dL_law_405 (by decide) (fun c405 => ?_) (fun c405 => absurd rfl c405)
        refine mm_iinc (pc := 849) dL_law_849 rfl rfl rfl (Nat.le_of_ble_eq_true rfl) ?_
        refine mm_goto (pc := 852) (tgt := 18) dL_law_852 (by decide) ?_
        exact mm_weakK (ih (k + 1) h2 (by omega) (by omega) I2) (And.intro rfl (And.intro rfl (And.intro rfl (And.intro (congrArg some (congrArg Value.int nI_a4)) trivial))))
      | 8, ht_ =>
        cases ht_
        have c32 := mm_swe (v := 8) hx_ (by decide)
        refine mm_aload_n (pc := 410) dL_law_410 rfl (by first | trivial | assumption | exact mm_isr_rf _) ?_
        refine mm_aload_n (pc := 411) dL_law_411 rfl (by first | trivial | assumption | exact mm_isr_rf _) ?_
        refine mm_iload_n (pc := 412) dL_law_412 rfl ?_
        refine mm_iconst (pc := 413) (v := 1) dL_law_413 (by decide) ?_
        refine mm_iadd (pc := 414) dL_law_414 ?_
        refine mm_iald (pc := 415) (kd := ?kd_415_49) (vs := ?vs_415_49) (v := ?v_415_49) dL_law_415 ?hc_415_49 ?hk_415_49 ?h0_415_49 ?hv_415_49 ?_; (case hc_415_49 => exact hb0); (case hk_415_49 => rfl); (case h0_415_49 => exact p1); (case hv_415_49 => exact q1)
        refine mm_aload_n (pc := 416) dL_law_416 rfl (by first | trivial | assumption | exact mm_isr_rf _) ?_
        refine mm_iload_n (pc := 417) dL_law_417 rfl ?_
        refine mm_iconst (pc := 418) (v := 2) dL_law_418 (by decide) ?_
        refine mm_iadd (pc := 419) dL_law_419 ?_
        refine mm_iald (pc := 420) (kd := ?kd_420_50) (vs := ?vs_420_50) (v := ?v_420_50) dL_law_420 ?hc_420_50 ?hk_420_50 ?h0_420_50 ?hv_420_50 ?_; (case hc_420_50 => exact hb0); (case hk_420_50 => rfl); (case h0_420_50 => exact p2); (case hv_420_50 => exact q2)
        refine mm_aload_n (pc := 421) dL_law_421 rfl (by first | trivial | assumption | exact mm_isr_rf _) ?_
        refine mm_iload_n (pc := 422) dL_law_422 rfl ?_
        refine mm_iconst (pc := 423) (v := 3) dL_law_423 (by decide) ?_
        refine mm_iadd (pc := 424) dL_law_424 ?_
        refine mm_iald (pc := 425) (kd := ?kd_425_51) (vs := ?vs_425_51) (v := ?v_425_51) dL_law_425 ?hc_425_51 ?hk_425_51 ?h0_425_51 ?hv_425_51 ?_; (case hc_425_51 => exact hb0); (case hk_425_51 => rfl); (case h0_425_51 => exact p3); (case hv_425_51 => exact q3)
        refine mm_if_eq (pc := 426) (tgt := 433) dL_law_426 (by decide) (fun c426 => ?_) (fun c426 => ?_)
        · refine mm_iconst (pc := 433) (v := 0) dL_law_433 (by decide) ?_
          refine mm_callV (pc := 434) (As := [_, _, _]) (kd := ?kd_434_52) (fs := ?fs_434_52) dL_law_434 vl_L_52 (T_resolved I hk5 hl1 hl2) ?hc_434_52 ?hk_434_52 rfl rfl (Nat.le_of_ble_eq_true rfl) ?_; (case hc_434_52 => exact hx0); (case hk_434_52 => rfl)
          rintro _ h1 ⟨v, rfl, hv, ⟨hb1, fs1, hm1⟩, hok⟩
          obtain ⟨x, rfl⟩ : ∃ x, v = Value.int x := hv
          refine mm_aload_n (pc := 437) dL_law_437 rfl (by first | trivial | assumption | exact mm_isr_rf _) ?_
          refine mm_aload_n (pc := 438) dL_law_438 rfl (by first | trivial | assumption | exact mm_isr_rf _) ?_
          refine mm_iload_n (pc := 439) dL_law_439 rfl ?_
          refine mm_iconst (pc := 440) (v := 1) dL_law_440 (by decide) ?_
          refine mm_iadd (pc := 441) dL_law_441 ?_
          refine mm_iald (pc := 442) (kd := ?kd_442_53) (vs := ?vs_442_53) (v := ?v_442_53) dL_law_442 ?hc_442_53 ?hk_442_53 ?h0_442_53 ?hv_442_53 ?_; (case hc_442_53 => exact hb1); (case hk_442_53 => rfl); (case h0_442_53 => exact p1); (case hv_442_53 => exact q1)
          refine mm_aload_n (pc := 443) dL_law_443 rfl (by first | trivial | assumption | exact mm_isr_rf _) ?_
          refine mm_iload_n (pc := 444) dL_law_444 rfl ?_
          refine mm_iconst (pc := 445) (v := 2) dL_law_445 (by decide) ?_
          refine mm_iadd (pc := 446) dL_law_446 ?_
          refine mm_iald (pc := 447) (kd := ?kd_447_54) (vs := ?vs_447_54) (v := ?v_447_54) dL_law_447 ?hc_447_54 ?hk_447_54 ?h0_447_54 ?hv_447_54 ?_; (case hc_447_54 => exact hb1); (case hk_447_54 => rfl); (case h0_447_54 => exact p2); (case hv_447_54 => exact q2)
          refine mm_aload_n (pc := 448) dL_law_448 rfl (by first | trivial | assumption | exact mm_isr_rf _) ?_
          refine mm_iload_n (pc := 449) dL_law_449 rfl ?_
          refine mm_iconst (pc := 450) (v := 3) dL_law_450 (by decide) ?_
          refine mm_iadd (pc := 451) dL_law_451 ?_
          refine mm_iald (pc := 452) (kd := ?kd_452_55) (vs := ?vs_452_55) (v := ?v_452_55) dL_law_452 ?hc_452_55 ?hk_452_55 ?h0_452_55 ?hv_452_55 ?_; (case hc_452_55 => exact hb1); (case hk_452_55 => rfl); (case h0_452_55 => exact p3); (case hv_452_55 => exact q3)
          refine mm_if_eq (pc := 453) (tgt := 460) dL_law_453 (by decide) (fun c453 => ?_) (fun c453 => absurd c426 c453)
          refine mm_iconst (pc := 460) (v := 0) dL_law_460 (by decide) ?_
          refine mm_callV (pc := 461) (As := [_, _, _]) (kd := ?kd_461_56) (fs := ?fs_461_56) dL_law_461 vl_L_56 (hok) ?hc_461_56 ?hk_461_56 rfl rfl (Nat.le_of_ble_eq_true rfl) ?_; (case hc_461_56 => exact hm1); (case hk_461_56 => rfl)
          rintro _ h2 ⟨rfl, I2⟩
          refine mm_icmp_eq (pc := 464) (tgt := 849) dL_law_464 (by decide) (fun c464 => ?_) (fun c464 => absurd rfl c464)
          refine mm_iinc (pc := 849) dL_law_849 rfl rfl rfl (Nat.le_of_ble_eq_true rfl) ?_
          refine mm_goto (pc := 852) (tgt := 18) dL_law_852 (by decide) ?_
          exact mm_weakK (ih (k + 1) h2 (by omega) (by omega) I2) (And.intro rfl (And.intro rfl (And.intro rfl (And.intro (congrArg some (congrArg Value.int nI_a4)) trivial))))
        · refine mm_iconst (pc := 429) (v := 1) dL_law_429 (by decide) ?_
          refine mm_goto (pc := 430) (tgt := 434) dL_law_430 (by decide) ?_
          refine mm_callV (pc := 434) (As := [_, _, _]) (kd := ?kd_434_57) (fs := ?fs_434_57) dL_law_434 vl_L_52 (T_resolved I hk5 hl1 hl2) ?hc_434_57 ?hk_434_57 rfl rfl (Nat.le_of_ble_eq_true rfl) ?_; (case hc_434_57 => exact hx0); (case hk_434_57 => rfl)
          rintro _ h1 ⟨v, rfl, hv, ⟨hb1, fs1, hm1⟩, hok⟩
          obtain ⟨x, rfl⟩ : ∃ x, v = Value.int x := hv
          refine mm_aload_n (pc := 437) dL_law_437 rfl (by first | trivial | assumption | exact mm_isr_rf _) ?_
          refine mm_aload_n (pc := 438) dL_law_438 rfl (by first | trivial | assumption | exact mm_isr_rf _) ?_
          refine mm_iload_n (pc := 439) dL_law_439 rfl ?_
          refine mm_iconst (pc := 440) (v := 1) dL_law_440 (by decide) ?_
          refine mm_iadd (pc := 441) dL_law_441 ?_
          refine mm_iald (pc := 442) (kd := ?kd_442_58) (vs := ?vs_442_58) (v := ?v_442_58) dL_law_442 ?hc_442_58 ?hk_442_58 ?h0_442_58 ?hv_442_58 ?_; (case hc_442_58 => exact hb1); (case hk_442_58 => rfl); (case h0_442_58 => exact p1); (case hv_442_58 => exact q1)
          refine mm_aload_n (pc := 443) dL_law_443 rfl (by first | trivial | assumption | exact mm_isr_rf _) ?_
          refine mm_iload_n (pc := 444) dL_law_444 rfl ?_
          refine mm_iconst (pc := 445) (v := 2) dL_law_445 (by decide) ?_
          refine mm_iadd (pc := 446) dL_law_446 ?_
          refine mm_iald (pc := 447) (kd := ?kd_447_59) (vs := ?vs_447_59) (v := ?v_447_59) dL_law_447 ?hc_447_59 ?hk_447_59 ?h0_447_59 ?hv_447_59 ?_; (case hc_447_59 => exact hb1); (case hk_447_59 => rfl); (case h0_447_59 => exact p2); (case hv_447_59 => exact q2)
          refine mm_aload_n (pc := 448) dL_law_448 rfl (by first | trivial | assumption | exact mm_isr_rf _) ?_
          refine mm_iload_n (pc := 449) dL_law_449 rfl ?_
          refine mm_iconst (pc := 450) (v := 3) dL_law_450 (by decide) ?_
          refine mm_iadd (pc := 451) dL_law_451 ?_
          refine mm_iald (pc := 452) (kd := ?kd_452_60) (vs := ?vs_452_60) (v := ?v_452_60) dL_law_452 ?hc_452_60 ?hk_452_60 ?h0_452_60 ?hv_452_60 ?_; (case hc_452_60 => exact hb1); (case hk_452_60 => rfl); (case h0_452_60 => exact p3); (case hv_452_60 => exact q3)
          refine mm_if_eq (pc := 453) (tgt := 460) dL_law_453 (by decide) (fun c453 => absurd c453 c426) (fun c453 => ?_)
          refine mm_iconst (pc := 456) (v := 1) dL_law_456 (by decide) ?_
          refine mm_goto (pc := 457) (tgt := 461) dL_law_457 (by decide) ?_
          refine mm_callV (pc := 461) (As := [_, _, _]) (kd := ?kd_461_61) (fs := ?fs_461_61) dL_law_461 vl_L_56 (hok) ?hc_461_61 ?hk_461_61 rfl rfl (Nat.le_of_ble_eq_true rfl) ?_; (case hc_461_61 => exact hm1); (case hk_461_61 => rfl)
          rintro _ h2 ⟨rfl, I2⟩
          refine mm_icmp_eq (pc := 464) (tgt := 849) dL_law_464 (by decide) (fun c464 => ?_) (fun c464 => absurd rfl c464)
          refine mm_iinc (pc := 849) dL_law_849 rfl rfl rfl (Nat.le_of_ble_eq_true rfl) ?_
          refine mm_goto (pc := 852) (tgt := 18) dL_law_852 (by decide) ?_
          exact mm_weakK (ih (k + 1) h2 (by omega) (by omega) I2) (And.intro rfl (And.intro rfl (And.intro rfl (And.intro (congrArg some (congrArg Value.int nI_a4)) trivial))))
      | 9, ht_ =>
        cases ht_
        have c32 := mm_swe (v := 9) hx_ (by decide)
        refine mm_aload_n (pc := 469) dL_law_469 rfl (by first | trivial | assumption | exact mm_isr_rf _) ?_
        refine mm_aload_n (pc := 470) dL_law_470 rfl (by first | trivial | assumption | exact mm_isr_rf _) ?_
        refine mm_iload_n (pc := 471) dL_law_471 rfl ?_
        refine mm_iconst (pc := 472) (v := 1) dL_law_472 (by decide) ?_
        refine mm_iadd (pc := 473) dL_law_473 ?_
        refine mm_iald (pc := 474) (kd := ?kd_474_62) (vs := ?vs_474_62) (v := ?v_474_62) dL_law_474 ?hc_474_62 ?hk_474_62 ?h0_474_62 ?hv_474_62 ?_; (case hc_474_62 => exact hb0); (case hk_474_62 => rfl); (case h0_474_62 => exact p1); (case hv_474_62 => exact q1)
        refine mm_callV (pc := 475) (As := [_]) (kd := ?kd_475_63) (fs := ?fs_475_63) dL_law_475 vl_L_57 (T_count I hk5 hl1 hl2) ?hc_475_63 ?hk_475_63 rfl rfl (Nat.le_of_ble_eq_true rfl) ?_; (case hc_475_63 => exact hx0); (case hk_475_63 => rfl)
        rintro _ h1 ⟨v, rfl, hv, ⟨hb1, fs1, hm1⟩, hok⟩
        obtain ⟨x, rfl⟩ : ∃ x, v = Value.int x := hv
        refine mm_aload_n (pc := 478) dL_law_478 rfl (by first | trivial | assumption | exact mm_isr_rf _) ?_
        refine mm_aload_n (pc := 479) dL_law_479 rfl (by first | trivial | assumption | exact mm_isr_rf _) ?_
        refine mm_iload_n (pc := 480) dL_law_480 rfl ?_
        refine mm_iconst (pc := 481) (v := 1) dL_law_481 (by decide) ?_
        refine mm_iadd (pc := 482) dL_law_482 ?_
        refine mm_iald (pc := 483) (kd := ?kd_483_64) (vs := ?vs_483_64) (v := ?v_483_64) dL_law_483 ?hc_483_64 ?hk_483_64 ?h0_483_64 ?hv_483_64 ?_; (case hc_483_64 => exact hb1); (case hk_483_64 => rfl); (case h0_483_64 => exact p1); (case hv_483_64 => exact q1)
        refine mm_callV (pc := 484) (As := [_]) (kd := ?kd_484_65) (fs := ?fs_484_65) dL_law_484 vl_L_60 (hok) ?hc_484_65 ?hk_484_65 rfl rfl (Nat.le_of_ble_eq_true rfl) ?_; (case hc_484_65 => exact hm1); (case hk_484_65 => rfl)
        rintro _ h2 ⟨rfl, I2⟩
        refine mm_icmp_eq (pc := 487) (tgt := 849) dL_law_487 (by decide) (fun c487 => ?_) (fun c487 => absurd rfl c487)
        refine mm_iinc (pc := 849) dL_law_849 rfl rfl rfl (Nat.le_of_ble_eq_true rfl) ?_
        refine mm_goto (pc := 852) (tgt := 18) dL_law_852 (by decide) ?_
        exact mm_weakK (ih (k + 1) h2 (by omega) (by omega) I2) (And.intro rfl (And.intro rfl (And.intro rfl (And.intro (congrArg some (congrArg Value.int nI_a4)) trivial))))
      | 10, ht_ =>
        cases ht_
        have c32 := mm_swe (v := 10) hx_ (by decide)
        refine mm_aload_n (pc := 492) dL_law_492 rfl (by first | trivial | assumption | exact mm_isr_rf _) ?_
        refine mm_aload_n (pc := 493) dL_law_493 rfl (by first | trivial | assumption | exact mm_isr_rf _) ?_
        refine mm_iload_n (pc := 494) dL_law_494 rfl ?_
        refine mm_iconst (pc := 495) (v := 1) dL_law_495 (by decide) ?_
        refine mm_iadd (pc := 496) dL_law_496 ?_
        refine mm_iald (pc := 497) (kd := ?kd_497_66) (vs := ?vs_497_66) (v := ?v_497_66) dL_law_497 ?hc_497_66 ?hk_497_66 ?h0_497_66 ?hv_497_66 ?_; (case hc_497_66 => exact hb0); (case hk_497_66 => rfl); (case h0_497_66 => exact p1); (case hv_497_66 => exact q1)
        refine mm_aload_n (pc := 498) dL_law_498 rfl (by first | trivial | assumption | exact mm_isr_rf _) ?_
        refine mm_iload_n (pc := 499) dL_law_499 rfl ?_
        refine mm_iconst (pc := 500) (v := 2) dL_law_500 (by decide) ?_
        refine mm_iadd (pc := 501) dL_law_501 ?_
        refine mm_iald (pc := 502) (kd := ?kd_502_67) (vs := ?vs_502_67) (v := ?v_502_67) dL_law_502 ?hc_502_67 ?hk_502_67 ?h0_502_67 ?hv_502_67 ?_; (case hc_502_67 => exact hb0); (case hk_502_67 => rfl); (case h0_502_67 => exact p2); (case hv_502_67 => exact q2)
        refine mm_callV (pc := 503) (As := [_, _]) (kd := ?kd_503_68) (fs := ?fs_503_68) dL_law_503 vl_L_61 (T_make I hk5 hl1 hl2) ?hc_503_68 ?hk_503_68 rfl rfl (Nat.le_of_ble_eq_true rfl) ?_; (case hc_503_68 => exact hx0); (case hk_503_68 => rfl)
        rintro _ h1 ⟨v, rfl, hv, ⟨hb1, fs1, hm1⟩, hok⟩
        obtain ⟨x, rfl⟩ : ∃ x, v = Value.int x := hv
        refine mm_aload_n (pc := 506) dL_law_506 rfl (by first | trivial | assumption | exact mm_isr_rf _) ?_
        refine mm_aload_n (pc := 507) dL_law_507 rfl (by first | trivial | assumption | exact mm_isr_rf _) ?_
        refine mm_iload_n (pc := 508) dL_law_508 rfl ?_
        refine mm_iconst (pc := 509) (v := 1) dL_law_509 (by decide) ?_
        refine mm_iadd (pc := 510) dL_law_510 ?_
        refine mm_iald (pc := 511) (kd := ?kd_511_69) (vs := ?vs_511_69) (v := ?v_511_69) dL_law_511 ?hc_511_69 ?hk_511_69 ?h0_511_69 ?hv_511_69 ?_; (case hc_511_69 => exact hb1); (case hk_511_69 => rfl); (case h0_511_69 => exact p1); (case hv_511_69 => exact q1)
        refine mm_aload_n (pc := 512) dL_law_512 rfl (by first | trivial | assumption | exact mm_isr_rf _) ?_
        refine mm_iload_n (pc := 513) dL_law_513 rfl ?_
        refine mm_iconst (pc := 514) (v := 2) dL_law_514 (by decide) ?_
        refine mm_iadd (pc := 515) dL_law_515 ?_
        refine mm_iald (pc := 516) (kd := ?kd_516_70) (vs := ?vs_516_70) (v := ?v_516_70) dL_law_516 ?hc_516_70 ?hk_516_70 ?h0_516_70 ?hv_516_70 ?_; (case hc_516_70 => exact hb1); (case hk_516_70 => rfl); (case h0_516_70 => exact p2); (case hv_516_70 => exact q2)
        refine mm_callV (pc := 517) (As := [_, _]) (kd := ?kd_517_71) (fs := ?fs_517_71) dL_law_517 vl_L_64 (hok) ?hc_517_71 ?hk_517_71 rfl rfl (Nat.le_of_ble_eq_true rfl) ?_; (case hc_517_71 => exact hm1); (case hk_517_71 => rfl)
        rintro _ h2 ⟨rfl, I2⟩
        refine mm_icmp_eq (pc := 520) (tgt := 849) dL_law_520 (by decide) (fun c520 => ?_) (fun c520 => absurd rfl c520)
        refine mm_iinc (pc := 849) dL_law_849 rfl rfl rfl (Nat.le_of_ble_eq_true rfl) ?_
        refine mm_goto (pc := 852) (tgt := 18) dL_law_852 (by decide) ?_
        exact mm_weakK (ih (k + 1) h2 (by omega) (by omega) I2) (And.intro rfl (And.intro rfl (And.intro rfl (And.intro (congrArg some (congrArg Value.int nI_a4)) trivial))))
      | 11, ht_ =>
        cases ht_
        have c32 := mm_swe (v := 11) hx_ (by decide)
        refine mm_aload_n (pc := 525) dL_law_525 rfl (by first | trivial | assumption | exact mm_isr_rf _) ?_
        refine mm_aload_n (pc := 526) dL_law_526 rfl (by first | trivial | assumption | exact mm_isr_rf _) ?_
        refine mm_iload_n (pc := 527) dL_law_527 rfl ?_
        refine mm_iconst (pc := 528) (v := 1) dL_law_528 (by decide) ?_
        refine mm_iadd (pc := 529) dL_law_529 ?_
        refine mm_iald (pc := 530) (kd := ?kd_530_72) (vs := ?vs_530_72) (v := ?v_530_72) dL_law_530 ?hc_530_72 ?hk_530_72 ?h0_530_72 ?hv_530_72 ?_; (case hc_530_72 => exact hb0); (case hk_530_72 => rfl); (case h0_530_72 => exact p1); (case hv_530_72 => exact q1)
        refine mm_aload_n (pc := 531) dL_law_531 rfl (by first | trivial | assumption | exact mm_isr_rf _) ?_
        refine mm_iload_n (pc := 532) dL_law_532 rfl ?_
        refine mm_iconst (pc := 533) (v := 2) dL_law_533 (by decide) ?_
        refine mm_iadd (pc := 534) dL_law_534 ?_
        refine mm_iald (pc := 535) (kd := ?kd_535_73) (vs := ?vs_535_73) (v := ?v_535_73) dL_law_535 ?hc_535_73 ?hk_535_73 ?h0_535_73 ?hv_535_73 ?_; (case hc_535_73 => exact hb0); (case hk_535_73 => rfl); (case h0_535_73 => exact p2); (case hv_535_73 => exact q2)
        refine mm_aload_n (pc := 536) dL_law_536 rfl (by first | trivial | assumption | exact mm_isr_rf _) ?_
        refine mm_iload_n (pc := 537) dL_law_537 rfl ?_
        refine mm_iconst (pc := 538) (v := 3) dL_law_538 (by decide) ?_
        refine mm_iadd (pc := 539) dL_law_539 ?_
        refine mm_iald (pc := 540) (kd := ?kd_540_74) (vs := ?vs_540_74) (v := ?v_540_74) dL_law_540 ?hc_540_74 ?hk_540_74 ?h0_540_74 ?hv_540_74 ?_; (case hc_540_74 => exact hb0); (case hk_540_74 => rfl); (case h0_540_74 => exact p3); (case hv_540_74 => exact q3)
        refine mm_callV (pc := 541) (As := [_, _, _]) (kd := ?kd_541_75) (fs := ?fs_541_75) dL_law_541 vl_L_65 (T_charge I hk5 hl1 hl2) ?hc_541_75 ?hk_541_75 rfl rfl (Nat.le_of_ble_eq_true rfl) ?_; (case hc_541_75 => exact hx0); (case hk_541_75 => rfl)
        rintro _ h1 ⟨v, rfl, hv, ⟨hb1, fs1, hm1⟩, hok⟩
        obtain ⟨x, rfl⟩ : ∃ x, v = Value.int x := hv
        refine mm_aload_n (pc := 544) dL_law_544 rfl (by first | trivial | assumption | exact mm_isr_rf _) ?_
        refine mm_aload_n (pc := 545) dL_law_545 rfl (by first | trivial | assumption | exact mm_isr_rf _) ?_
        refine mm_iload_n (pc := 546) dL_law_546 rfl ?_
        refine mm_iconst (pc := 547) (v := 1) dL_law_547 (by decide) ?_
        refine mm_iadd (pc := 548) dL_law_548 ?_
        refine mm_iald (pc := 549) (kd := ?kd_549_76) (vs := ?vs_549_76) (v := ?v_549_76) dL_law_549 ?hc_549_76 ?hk_549_76 ?h0_549_76 ?hv_549_76 ?_; (case hc_549_76 => exact hb1); (case hk_549_76 => rfl); (case h0_549_76 => exact p1); (case hv_549_76 => exact q1)
        refine mm_aload_n (pc := 550) dL_law_550 rfl (by first | trivial | assumption | exact mm_isr_rf _) ?_
        refine mm_iload_n (pc := 551) dL_law_551 rfl ?_
        refine mm_iconst (pc := 552) (v := 2) dL_law_552 (by decide) ?_
        refine mm_iadd (pc := 553) dL_law_553 ?_
        refine mm_iald (pc := 554) (kd := ?kd_554_77) (vs := ?vs_554_77) (v := ?v_554_77) dL_law_554 ?hc_554_77 ?hk_554_77 ?h0_554_77 ?hv_554_77 ?_; (case hc_554_77 => exact hb1); (case hk_554_77 => rfl); (case h0_554_77 => exact p2); (case hv_554_77 => exact q2)
        refine mm_aload_n (pc := 555) dL_law_555 rfl (by first | trivial | assumption | exact mm_isr_rf _) ?_
        refine mm_iload_n (pc := 556) dL_law_556 rfl ?_
        refine mm_iconst (pc := 557) (v := 3) dL_law_557 (by decide) ?_
        refine mm_iadd (pc := 558) dL_law_558 ?_
        refine mm_iald (pc := 559) (kd := ?kd_559_78) (vs := ?vs_559_78) (v := ?v_559_78) dL_law_559 ?hc_559_78 ?hk_559_78 ?h0_559_78 ?hv_559_78 ?_; (case hc_559_78 => exact hb1); (case hk_559_78 => rfl); (case h0_559_78 => exact p3); (case hv_559_78 => exact q3)
        refine mm_callV (pc := 560) (As := [_, _, _]) (kd := ?kd_560_79) (fs := ?fs_560_79) dL_law_560 vl_L_68 (hok) ?hc_560_79 ?hk_560_79 rfl rfl (Nat.le_of_ble_eq_true rfl) ?_; (case hc_560_79 => exact hm1); (case hk_560_79 => rfl)
        rintro _ h2 ⟨rfl, I2⟩
        refine mm_icmp_eq (pc := 563) (tgt := 849) dL_law_563 (by decide) (fun c563 => ?_) (fun c563 => absurd rfl c563)
        refine mm_iinc (pc := 849) dL_law_849 rfl rfl rfl (Nat.le_of_ble_eq_true rfl) ?_
        refine mm_goto (pc := 852) (tgt := 18) dL_law_852 (by decide) ?_
        exact mm_weakK (ih (k + 1) h2 (by omega) (by omega) I2) (And.intro rfl (And.intro rfl (And.intro rfl (And.intro (congrArg some (congrArg Value.int nI_a4)) trivial))))
      | 12, ht_ =>
        cases ht_
        have c32 := mm_swe (v := 12) hx_ (by decide)
        refine mm_aload_n (pc := 568) dL_law_568 rfl (by first | trivial | assumption | exact mm_isr_rf _) ?_
        refine mm_aload_n (pc := 569) dL_law_569 rfl (by first | trivial | assumption | exact mm_isr_rf _) ?_
        refine mm_iload_n (pc := 570) dL_law_570 rfl ?_
        refine mm_iconst (pc := 571) (v := 1) dL_law_571 (by decide) ?_
        refine mm_iadd (pc := 572) dL_law_572 ?_
        refine mm_iald (pc := 573) (kd := ?kd_573_80) (vs := ?vs_573_80) (v := ?v_573_80) dL_law_573 ?hc_573_80 ?hk_573_80 ?h0_573_80 ?hv_573_80 ?_; (case hc_573_80 => exact hb0); (case hk_573_80 => rfl); (case h0_573_80 => exact p1); (case hv_573_80 => exact q1)
        refine mm_aload_n (pc := 574) dL_law_574 rfl (by first | trivial | assumption | exact mm_isr_rf _) ?_
        refine mm_iload_n (pc := 575) dL_law_575 rfl ?_
        refine mm_iconst (pc := 576) (v := 2) dL_law_576 (by decide) ?_
        refine mm_iadd (pc := 577) dL_law_577 ?_
        refine mm_iald (pc := 578) (kd := ?kd_578_81) (vs := ?vs_578_81) (v := ?v_578_81) dL_law_578 ?hc_578_81 ?hk_578_81 ?h0_578_81 ?hv_578_81 ?_; (case hc_578_81 => exact hb0); (case hk_578_81 => rfl); (case h0_578_81 => exact p2); (case hv_578_81 => exact q2)
        refine mm_aload_n (pc := 579) dL_law_579 rfl (by first | trivial | assumption | exact mm_isr_rf _) ?_
        refine mm_iload_n (pc := 580) dL_law_580 rfl ?_
        refine mm_iconst (pc := 581) (v := 3) dL_law_581 (by decide) ?_
        refine mm_iadd (pc := 582) dL_law_582 ?_
        refine mm_iald (pc := 583) (kd := ?kd_583_82) (vs := ?vs_583_82) (v := ?v_583_82) dL_law_583 ?hc_583_82 ?hk_583_82 ?h0_583_82 ?hv_583_82 ?_; (case hc_583_82 => exact hb0); (case hk_583_82 => rfl); (case h0_583_82 => exact p3); (case hv_583_82 => exact q3)
        refine mm_callV (pc := 584) (As := [_, _, _]) (kd := ?kd_584_83) (fs := ?fs_584_83) dL_law_584 vl_L_69 (T_pour I hk5 hl1 hl2) ?hc_584_83 ?hk_584_83 rfl rfl (Nat.le_of_ble_eq_true rfl) ?_; (case hc_584_83 => exact hx0); (case hk_584_83 => rfl)
        rintro _ h1 ⟨v, rfl, hv, ⟨hb1, fs1, hm1⟩, hok⟩
        obtain ⟨x, rfl⟩ : ∃ x, v = Value.int x := hv
        refine mm_aload_n (pc := 587) dL_law_587 rfl (by first | trivial | assumption | exact mm_isr_rf _) ?_
        refine mm_aload_n (pc := 588) dL_law_588 rfl (by first | trivial | assumption | exact mm_isr_rf _) ?_
        refine mm_iload_n (pc := 589) dL_law_589 rfl ?_
        refine mm_iconst (pc := 590) (v := 1) dL_law_590 (by decide) ?_
        refine mm_iadd (pc := 591) dL_law_591 ?_
        refine mm_iald (pc := 592) (kd := ?kd_592_84) (vs := ?vs_592_84) (v := ?v_592_84) dL_law_592 ?hc_592_84 ?hk_592_84 ?h0_592_84 ?hv_592_84 ?_; (case hc_592_84 => exact hb1); (case hk_592_84 => rfl); (case h0_592_84 => exact p1); (case hv_592_84 => exact q1)
        refine mm_aload_n (pc := 593) dL_law_593 rfl (by first | trivial | assumption | exact mm_isr_rf _) ?_
        refine mm_iload_n (pc := 594) dL_law_594 rfl ?_
        refine mm_iconst (pc := 595) (v := 2) dL_law_595 (by decide) ?_
        refine mm_iadd (pc := 596) dL_law_596 ?_
        refine mm_iald (pc := 597) (kd := ?kd_597_85) (vs := ?vs_597_85) (v := ?v_597_85) dL_law_597 ?hc_597_85 ?hk_597_85 ?h0_597_85 ?hv_597_85 ?_; (case hc_597_85 => exact hb1); (case hk_597_85 => rfl); (case h0_597_85 => exact p2); (case hv_597_85 => exact q2)
        refine mm_aload_n (pc := 598) dL_law_598 rfl (by first | trivial | assumption | exact mm_isr_rf _) ?_
        refine mm_iload_n (pc := 599) dL_law_599 rfl ?_
        refine mm_iconst (pc := 600) (v := 3) dL_law_600 (by decide) ?_
        refine mm_iadd (pc := 601) dL_law_601 ?_
        refine mm_iald (pc := 602) (kd := ?kd_602_86) (vs := ?vs_602_86) (v := ?v_602_86) dL_law_602 ?hc_602_86 ?hk_602_86 ?h0_602_86 ?hv_602_86 ?_; (case hc_602_86 => exact hb1); (case hk_602_86 => rfl); (case h0_602_86 => exact p3); (case hv_602_86 => exact q3)
        refine mm_callV (pc := 603) (As := [_, _, _]) (kd := ?kd_603_87) (fs := ?fs_603_87) dL_law_603 vl_L_72 (hok) ?hc_603_87 ?hk_603_87 rfl rfl (Nat.le_of_ble_eq_true rfl) ?_; (case hc_603_87 => exact hm1); (case hk_603_87 => rfl)
        rintro _ h2 ⟨rfl, I2⟩
        refine mm_icmp_eq (pc := 606) (tgt := 849) dL_law_606 (by decide) (fun c606 => ?_) (fun c606 => absurd rfl c606)
        refine mm_iinc (pc := 849) dL_law_849 rfl rfl rfl (Nat.le_of_ble_eq_true rfl) ?_
        refine mm_goto (pc := 852) (tgt := 18) dL_law_852 (by decide) ?_
        exact mm_weakK (ih (k + 1) h2 (by omega) (by omega) I2) (And.intro rfl (And.intro rfl (And.intro rfl (And.intro (congrArg some (congrArg Value.int nI_a4)) trivial))))
      | 13, ht_ =>
        cases ht_
        have c32 := mm_swe (v := 13) hx_ (by decide)
        refine mm_aload_n (pc := 611) dL_law_611 rfl (by first | trivial | assumption | exact mm_isr_rf _) ?_
        refine mm_aload_n (pc := 612) dL_law_612 rfl (by first | trivial | assumption | exact mm_isr_rf _) ?_
        refine mm_iload_n (pc := 613) dL_law_613 rfl ?_
        refine mm_iconst (pc := 614) (v := 1) dL_law_614 (by decide) ?_
        refine mm_iadd (pc := 615) dL_law_615 ?_
        refine mm_iald (pc := 616) (kd := ?kd_616_88) (vs := ?vs_616_88) (v := ?v_616_88) dL_law_616 ?hc_616_88 ?hk_616_88 ?h0_616_88 ?hv_616_88 ?_; (case hc_616_88 => exact hb0); (case hk_616_88 => rfl); (case h0_616_88 => exact p1); (case hv_616_88 => exact q1)
        refine mm_aload_n (pc := 617) dL_law_617 rfl (by first | trivial | assumption | exact mm_isr_rf _) ?_
        refine mm_iload_n (pc := 618) dL_law_618 rfl ?_
        refine mm_iconst (pc := 619) (v := 2) dL_law_619 (by decide) ?_
        refine mm_iadd (pc := 620) dL_law_620 ?_
        refine mm_iald (pc := 621) (kd := ?kd_621_89) (vs := ?vs_621_89) (v := ?v_621_89) dL_law_621 ?hc_621_89 ?hk_621_89 ?h0_621_89 ?hv_621_89 ?_; (case hc_621_89 => exact hb0); (case hk_621_89 => rfl); (case h0_621_89 => exact p2); (case hv_621_89 => exact q2)
        refine mm_callV (pc := 622) (As := [_, _]) (kd := ?kd_622_90) (fs := ?fs_622_90) dL_law_622 vl_L_73 (T_act I hk5 hl1 hl2) ?hc_622_90 ?hk_622_90 rfl rfl (Nat.le_of_ble_eq_true rfl) ?_; (case hc_622_90 => exact hx0); (case hk_622_90 => rfl)
        rintro _ h1 ⟨v, rfl, hv, ⟨hb1, fs1, hm1⟩, hok⟩
        obtain ⟨x, rfl⟩ : ∃ x, v = Value.int x := hv
        refine mm_aload_n (pc := 625) dL_law_625 rfl (by first | trivial | assumption | exact mm_isr_rf _) ?_
        refine mm_aload_n (pc := 626) dL_law_626 rfl (by first | trivial | assumption | exact mm_isr_rf _) ?_
        refine mm_iload_n (pc := 627) dL_law_627 rfl ?_
        refine mm_iconst (pc := 628) (v := 1) dL_law_628 (by decide) ?_
        refine mm_iadd (pc := 629) dL_law_629 ?_
        refine mm_iald (pc := 630) (kd := ?kd_630_91) (vs := ?vs_630_91) (v := ?v_630_91) dL_law_630 ?hc_630_91 ?hk_630_91 ?h0_630_91 ?hv_630_91 ?_; (case hc_630_91 => exact hb1); (case hk_630_91 => rfl); (case h0_630_91 => exact p1); (case hv_630_91 => exact q1)
        refine mm_aload_n (pc := 631) dL_law_631 rfl (by first | trivial | assumption | exact mm_isr_rf _) ?_
        refine mm_iload_n (pc := 632) dL_law_632 rfl ?_
        refine mm_iconst (pc := 633) (v := 2) dL_law_633 (by decide) ?_
        refine mm_iadd (pc := 634) dL_law_634 ?_
        refine mm_iald (pc := 635) (kd := ?kd_635_92) (vs := ?vs_635_92) (v := ?v_635_92) dL_law_635 ?hc_635_92 ?hk_635_92 ?h0_635_92 ?hv_635_92 ?_; (case hc_635_92 => exact hb1); (case hk_635_92 => rfl); (case h0_635_92 => exact p2); (case hv_635_92 => exact q2)
        refine mm_callV (pc := 636) (As := [_, _]) (kd := ?kd_636_93) (fs := ?fs_636_93) dL_law_636 vl_L_76 (hok) ?hc_636_93 ?hk_636_93 rfl rfl (Nat.le_of_ble_eq_true rfl) ?_; (case hc_636_93 => exact hm1); (case hk_636_93 => rfl)
        rintro _ h2 ⟨rfl, I2⟩
        refine mm_icmp_eq (pc := 639) (tgt := 849) dL_law_639 (by decide) (fun c639 => ?_) (fun c639 => absurd rfl c639)
        refine mm_iinc (pc := 849) dL_law_849 rfl rfl rfl (Nat.le_of_ble_eq_true rfl) ?_
        refine mm_goto (pc := 852) (tgt := 18) dL_law_852 (by decide) ?_
        exact mm_weakK (ih (k + 1) h2 (by omega) (by omega) I2) (And.intro rfl (And.intro rfl (And.intro rfl (And.intro (congrArg some (congrArg Value.int nI_a4)) trivial))))
      | 14, ht_ =>
        cases ht_
        have c32 := mm_swe (v := 14) hx_ (by decide)
        refine mm_aload_n (pc := 644) dL_law_644 rfl (by first | trivial | assumption | exact mm_isr_rf _) ?_
        refine mm_aload_n (pc := 645) dL_law_645 rfl (by first | trivial | assumption | exact mm_isr_rf _) ?_
        refine mm_iload_n (pc := 646) dL_law_646 rfl ?_
        refine mm_iconst (pc := 647) (v := 1) dL_law_647 (by decide) ?_
        refine mm_iadd (pc := 648) dL_law_648 ?_
        refine mm_iald (pc := 649) (kd := ?kd_649_94) (vs := ?vs_649_94) (v := ?v_649_94) dL_law_649 ?hc_649_94 ?hk_649_94 ?h0_649_94 ?hv_649_94 ?_; (case hc_649_94 => exact hb0); (case hk_649_94 => rfl); (case h0_649_94 => exact p1); (case hv_649_94 => exact q1)
        refine mm_callV (pc := 650) (As := [_]) (kd := ?kd_650_95) (fs := ?fs_650_95) dL_law_650 vl_L_77 (T_outcome I hk5 hl1 hl2) ?hc_650_95 ?hk_650_95 rfl rfl (Nat.le_of_ble_eq_true rfl) ?_; (case hc_650_95 => exact hx0); (case hk_650_95 => rfl)
        rintro _ h1 ⟨v, rfl, hv, ⟨hb1, fs1, hm1⟩, hok⟩
        obtain ⟨x, rfl⟩ : ∃ x, v = Value.int x := hv
        refine mm_aload_n (pc := 653) dL_law_653 rfl (by first | trivial | assumption | exact mm_isr_rf _) ?_
        refine mm_aload_n (pc := 654) dL_law_654 rfl (by first | trivial | assumption | exact mm_isr_rf _) ?_
        refine mm_iload_n (pc := 655) dL_law_655 rfl ?_
        refine mm_iconst (pc := 656) (v := 1) dL_law_656 (by decide) ?_
        refine mm_iadd (pc := 657) dL_law_657 ?_
        refine mm_iald (pc := 658) (kd := ?kd_658_96) (vs := ?vs_658_96) (v := ?v_658_96) dL_law_658 ?hc_658_96 ?hk_658_96 ?h0_658_96 ?hv_658_96 ?_; (case hc_658_96 => exact hb1); (case hk_658_96 => rfl); (case h0_658_96 => exact p1); (case hv_658_96 => exact q1)
        refine mm_callV (pc := 659) (As := [_]) (kd := ?kd_659_97) (fs := ?fs_659_97) dL_law_659 vl_L_80 (hok) ?hc_659_97 ?hk_659_97 rfl rfl (Nat.le_of_ble_eq_true rfl) ?_; (case hc_659_97 => exact hm1); (case hk_659_97 => rfl)
        rintro _ h2 ⟨rfl, I2⟩
        refine mm_icmp_eq (pc := 662) (tgt := 849) dL_law_662 (by decide) (fun c662 => ?_) (fun c662 => absurd rfl c662)
        refine mm_iinc (pc := 849) dL_law_849 rfl rfl rfl (Nat.le_of_ble_eq_true rfl) ?_
        refine mm_goto (pc := 852) (tgt := 18) dL_law_852 (by decide) ?_
        exact mm_weakK (ih (k + 1) h2 (by omega) (by omega) I2) (And.intro rfl (And.intro rfl (And.intro rfl (And.intro (congrArg some (congrArg Value.int nI_a4)) trivial))))
      | 15, ht_ =>
        cases ht_
        have c32 := mm_swe (v := 15) hx_ (by decide)
        refine mm_aload_n (pc := 667) dL_law_667 rfl (by first | trivial | assumption | exact mm_isr_rf _) ?_
        refine mm_aload_n (pc := 668) dL_law_668 rfl (by first | trivial | assumption | exact mm_isr_rf _) ?_
        refine mm_iload_n (pc := 669) dL_law_669 rfl ?_
        refine mm_iconst (pc := 670) (v := 1) dL_law_670 (by decide) ?_
        refine mm_iadd (pc := 671) dL_law_671 ?_
        refine mm_iald (pc := 672) (kd := ?kd_672_98) (vs := ?vs_672_98) (v := ?v_672_98) dL_law_672 ?hc_672_98 ?hk_672_98 ?h0_672_98 ?hv_672_98 ?_; (case hc_672_98 => exact hb0); (case hk_672_98 => rfl); (case h0_672_98 => exact p1); (case hv_672_98 => exact q1)
        refine mm_aload_n (pc := 673) dL_law_673 rfl (by first | trivial | assumption | exact mm_isr_rf _) ?_
        refine mm_iload_n (pc := 674) dL_law_674 rfl ?_
        refine mm_iconst (pc := 675) (v := 2) dL_law_675 (by decide) ?_
        refine mm_iadd (pc := 676) dL_law_676 ?_
        refine mm_iald (pc := 677) (kd := ?kd_677_99) (vs := ?vs_677_99) (v := ?v_677_99) dL_law_677 ?hc_677_99 ?hk_677_99 ?h0_677_99 ?hv_677_99 ?_; (case hc_677_99 => exact hb0); (case hk_677_99 => rfl); (case h0_677_99 => exact p2); (case hv_677_99 => exact q2)
        refine mm_callV (pc := 678) (As := [_, _]) (kd := ?kd_678_100) (fs := ?fs_678_100) dL_law_678 vl_L_81 (T_ran I hk5 hl1 hl2) ?hc_678_100 ?hk_678_100 rfl rfl (Nat.le_of_ble_eq_true rfl) ?_; (case hc_678_100 => exact hx0); (case hk_678_100 => rfl)
        rintro _ h1 ⟨v, rfl, hv, ⟨hb1, fs1, hm1⟩, hok⟩
        obtain ⟨x, rfl⟩ : ∃ x, v = Value.int x := hv
        refine mm_aload_n (pc := 681) dL_law_681 rfl (by first | trivial | assumption | exact mm_isr_rf _) ?_
        refine mm_aload_n (pc := 682) dL_law_682 rfl (by first | trivial | assumption | exact mm_isr_rf _) ?_
        refine mm_iload_n (pc := 683) dL_law_683 rfl ?_
        refine mm_iconst (pc := 684) (v := 1) dL_law_684 (by decide) ?_
        refine mm_iadd (pc := 685) dL_law_685 ?_
        refine mm_iald (pc := 686) (kd := ?kd_686_101) (vs := ?vs_686_101) (v := ?v_686_101) dL_law_686 ?hc_686_101 ?hk_686_101 ?h0_686_101 ?hv_686_101 ?_; (case hc_686_101 => exact hb1); (case hk_686_101 => rfl); (case h0_686_101 => exact p1); (case hv_686_101 => exact q1)
        refine mm_aload_n (pc := 687) dL_law_687 rfl (by first | trivial | assumption | exact mm_isr_rf _) ?_
        refine mm_iload_n (pc := 688) dL_law_688 rfl ?_
        refine mm_iconst (pc := 689) (v := 2) dL_law_689 (by decide) ?_
        refine mm_iadd (pc := 690) dL_law_690 ?_
        refine mm_iald (pc := 691) (kd := ?kd_691_102) (vs := ?vs_691_102) (v := ?v_691_102) dL_law_691 ?hc_691_102 ?hk_691_102 ?h0_691_102 ?hv_691_102 ?_; (case hc_691_102 => exact hb1); (case hk_691_102 => rfl); (case h0_691_102 => exact p2); (case hv_691_102 => exact q2)
        refine mm_callV (pc := 692) (As := [_, _]) (kd := ?kd_692_103) (fs := ?fs_692_103) dL_law_692 vl_L_84 (hok) ?hc_692_103 ?hk_692_103 rfl rfl (Nat.le_of_ble_eq_true rfl) ?_; (case hc_692_103 => exact hm1); (case hk_692_103 => rfl)
        rintro _ h2 ⟨rfl, I2⟩
        refine mm_icmp_eq (pc := 695) (tgt := 849) dL_law_695 (by decide) (fun c695 => ?_) (fun c695 => absurd rfl c695)
        refine mm_iinc (pc := 849) dL_law_849 rfl rfl rfl (Nat.le_of_ble_eq_true rfl) ?_
        refine mm_goto (pc := 852) (tgt := 18) dL_law_852 (by decide) ?_
        exact mm_weakK (ih (k + 1) h2 (by omega) (by omega) I2) (And.intro rfl (And.intro rfl (And.intro rfl (And.intro (congrArg some (congrArg Value.int nI_a4)) trivial))))
      | 16, ht_ =>
        cases ht_
        have c32 := mm_swe (v := 16) hx_ (by decide)
        refine mm_aload_n (pc := 700) dL_law_700 rfl (by first | trivial | assumption | exact mm_isr_rf _) ?_
        refine mm_aload_n (pc := 701) dL_law_701 rfl (by first | trivial | assumption | exact mm_isr_rf _) ?_
        refine mm_iload_n (pc := 702) dL_law_702 rfl ?_
        refine mm_iconst (pc := 703) (v := 1) dL_law_703 (by decide) ?_
        refine mm_iadd (pc := 704) dL_law_704 ?_
        refine mm_iald (pc := 705) (kd := ?kd_705_104) (vs := ?vs_705_104) (v := ?v_705_104) dL_law_705 ?hc_705_104 ?hk_705_104 ?h0_705_104 ?hv_705_104 ?_; (case hc_705_104 => exact hb0); (case hk_705_104 => rfl); (case h0_705_104 => exact p1); (case hv_705_104 => exact q1)
        refine mm_callV (pc := 706) (As := [_]) (kd := ?kd_706_105) (fs := ?fs_706_105) dL_law_706 vl_L_85 (T_said I hk5 hl1 hl2) ?hc_706_105 ?hk_706_105 rfl rfl (Nat.le_of_ble_eq_true rfl) ?_; (case hc_706_105 => exact hx0); (case hk_706_105 => rfl)
        rintro _ h1 ⟨v, rfl, hv, ⟨hb1, fs1, hm1⟩, hok⟩
        obtain ⟨x, rfl⟩ : ∃ x, v = Value.int x := hv
        refine mm_aload_n (pc := 709) dL_law_709 rfl (by first | trivial | assumption | exact mm_isr_rf _) ?_
        refine mm_aload_n (pc := 710) dL_law_710 rfl (by first | trivial | assumption | exact mm_isr_rf _) ?_
        refine mm_iload_n (pc := 711) dL_law_711 rfl ?_
        refine mm_iconst (pc := 712) (v := 1) dL_law_712 (by decide) ?_
        refine mm_iadd (pc := 713) dL_law_713 ?_
        refine mm_iald (pc := 714) (kd := ?kd_714_106) (vs := ?vs_714_106) (v := ?v_714_106) dL_law_714 ?hc_714_106 ?hk_714_106 ?h0_714_106 ?hv_714_106 ?_; (case hc_714_106 => exact hb1); (case hk_714_106 => rfl); (case h0_714_106 => exact p1); (case hv_714_106 => exact q1)
        refine mm_callV (pc := 715) (As := [_]) (kd := ?kd_715_107) (fs := ?fs_715_107) dL_law_715 vl_L_88 (hok) ?hc_715_107 ?hk_715_107 rfl rfl (Nat.le_of_ble_eq_true rfl) ?_; (case hc_715_107 => exact hm1); (case hk_715_107 => rfl)
        rintro _ h2 ⟨rfl, I2⟩
        refine mm_icmp_eq (pc := 718) (tgt := 849) dL_law_718 (by decide) (fun c718 => ?_) (fun c718 => absurd rfl c718)
        refine mm_iinc (pc := 849) dL_law_849 rfl rfl rfl (Nat.le_of_ble_eq_true rfl) ?_
        refine mm_goto (pc := 852) (tgt := 18) dL_law_852 (by decide) ?_
        exact mm_weakK (ih (k + 1) h2 (by omega) (by omega) I2) (And.intro rfl (And.intro rfl (And.intro rfl (And.intro (congrArg some (congrArg Value.int nI_a4)) trivial))))
      | 17, ht_ =>
        cases ht_
        have c32 := mm_swe (v := 17) hx_ (by decide)
        refine mm_aload_n (pc := 723) dL_law_723 rfl (by first | trivial | assumption | exact mm_isr_rf _) ?_
        refine mm_aload_n (pc := 724) dL_law_724 rfl (by first | trivial | assumption | exact mm_isr_rf _) ?_
        refine mm_iload_n (pc := 725) dL_law_725 rfl ?_
        refine mm_iconst (pc := 726) (v := 1) dL_law_726 (by decide) ?_
        refine mm_iadd (pc := 727) dL_law_727 ?_
        refine mm_iald (pc := 728) (kd := ?kd_728_108) (vs := ?vs_728_108) (v := ?v_728_108) dL_law_728 ?hc_728_108 ?hk_728_108 ?h0_728_108 ?hv_728_108 ?_; (case hc_728_108 => exact hb0); (case hk_728_108 => rfl); (case h0_728_108 => exact p1); (case hv_728_108 => exact q1)
        refine mm_aload_n (pc := 729) dL_law_729 rfl (by first | trivial | assumption | exact mm_isr_rf _) ?_
        refine mm_iload_n (pc := 730) dL_law_730 rfl ?_
        refine mm_iconst (pc := 731) (v := 2) dL_law_731 (by decide) ?_
        refine mm_iadd (pc := 732) dL_law_732 ?_
        refine mm_iald (pc := 733) (kd := ?kd_733_109) (vs := ?vs_733_109) (v := ?v_733_109) dL_law_733 ?hc_733_109 ?hk_733_109 ?h0_733_109 ?hv_733_109 ?_; (case hc_733_109 => exact hb0); (case hk_733_109 => rfl); (case h0_733_109 => exact p2); (case hv_733_109 => exact q2)
        refine mm_callV (pc := 734) (As := [_, _]) (kd := ?kd_734_110) (fs := ?fs_734_110) dL_law_734 vl_L_89 (T_apparatus I hk5 hl1 hl2) ?hc_734_110 ?hk_734_110 rfl rfl (Nat.le_of_ble_eq_true rfl) ?_; (case hc_734_110 => exact hx0); (case hk_734_110 => rfl)
        rintro _ h1 ⟨v, rfl, hv, ⟨hb1, fs1, hm1⟩, hok⟩
        obtain ⟨x, rfl⟩ : ∃ x, v = Value.int x := hv
        refine mm_aload_n (pc := 737) dL_law_737 rfl (by first | trivial | assumption | exact mm_isr_rf _) ?_
        refine mm_aload_n (pc := 738) dL_law_738 rfl (by first | trivial | assumption | exact mm_isr_rf _) ?_
        refine mm_iload_n (pc := 739) dL_law_739 rfl ?_
        refine mm_iconst (pc := 740) (v := 1) dL_law_740 (by decide) ?_
        refine mm_iadd (pc := 741) dL_law_741 ?_
        refine mm_iald (pc := 742) (kd := ?kd_742_111) (vs := ?vs_742_111) (v := ?v_742_111) dL_law_742 ?hc_742_111 ?hk_742_111 ?h0_742_111 ?hv_742_111 ?_; (case hc_742_111 => exact hb1); (case hk_742_111 => rfl); (case h0_742_111 => exact p1); (case hv_742_111 => exact q1)
        refine mm_aload_n (pc := 743) dL_law_743 rfl (by first | trivial | assumption | exact mm_isr_rf _) ?_
        refine mm_iload_n (pc := 744) dL_law_744 rfl ?_
        refine mm_iconst (pc := 745) (v := 2) dL_law_745 (by decide) ?_
        refine mm_iadd (pc := 746) dL_law_746 ?_
        refine mm_iald (pc := 747) (kd := ?kd_747_112) (vs := ?vs_747_112) (v := ?v_747_112) dL_law_747 ?hc_747_112 ?hk_747_112 ?h0_747_112 ?hv_747_112 ?_; (case hc_747_112 => exact hb1); (case hk_747_112 => rfl); (case h0_747_112 => exact p2); (case hv_747_112 => exact q2)
        refine mm_callV (pc := 748) (As := [_, _]) (kd := ?kd_748_113) (fs := ?fs_748_113) dL_law_748 vl_L_92 (hok) ?hc_748_113 ?hk_748_113 rfl rfl (Nat.le_of_ble_eq_true rfl) ?_; (case hc_748_113 => exact hm1); (case hk_748_113 => rfl)
        rintro _ h2 ⟨rfl, I2⟩
        refine mm_icmp_eq (pc := 751) (tgt := 849) dL_law_751 (by decide) (fun c751 => ?_) (fun c751 => absurd rfl c751)
        refine mm_iinc (pc := 849) dL_law_849 rfl rfl rfl (Nat.le_of_ble_eq_true rfl) ?_
        refine mm_goto (pc := 852) (tgt := 18) dL_law_852 (by decide) ?_
        exact mm_weakK (ih (k + 1) h2 (by omega) (by omega) I2) (And.intro rfl (And.intro rfl (And.intro rfl (And.intro (congrArg some (congrArg Value.int nI_a4)) trivial))))
      | 18, ht_ =>
        cases ht_
        have c32 := mm_swe (v := 18) hx_ (by decide)
        refine mm_aload_n (pc := 756) dL_law_756 rfl (by first | trivial | assumption | exact mm_isr_rf _) ?_
        refine mm_aload_n (pc := 757) dL_law_757 rfl (by first | trivial | assumption | exact mm_isr_rf _) ?_
        refine mm_iload_n (pc := 758) dL_law_758 rfl ?_
        refine mm_iconst (pc := 759) (v := 1) dL_law_759 (by decide) ?_
        refine mm_iadd (pc := 760) dL_law_760 ?_
        refine mm_iald (pc := 761) (kd := ?kd_761_114) (vs := ?vs_761_114) (v := ?v_761_114) dL_law_761 ?hc_761_114 ?hk_761_114 ?h0_761_114 ?hv_761_114 ?_; (case hc_761_114 => exact hb0); (case hk_761_114 => rfl); (case h0_761_114 => exact p1); (case hv_761_114 => exact q1)
        refine mm_callV (pc := 762) (As := [_]) (kd := ?kd_762_115) (fs := ?fs_762_115) dL_law_762 vl_L_93 (T_all I hk5 hl1 hl2) ?hc_762_115 ?hk_762_115 rfl rfl (Nat.le_of_ble_eq_true rfl) ?_; (case hc_762_115 => exact hx0); (case hk_762_115 => rfl)
        rintro _ h1 ⟨v, rfl, hv, ⟨hb1, fs1, hm1⟩, hok⟩
        obtain ⟨x, rfl⟩ : ∃ x, v = Value.long x := hv
        refine mm_aload_n (pc := 765) dL_law_765 rfl (by first | trivial | assumption | exact mm_isr_rf _) ?_
        refine mm_aload_n (pc := 766) dL_law_766 rfl (by first | trivial | assumption | exact mm_isr_rf _) ?_
        refine mm_iload_n (pc := 767) dL_law_767 rfl ?_
        refine mm_iconst (pc := 768) (v := 1) dL_law_768 (by decide) ?_
        refine mm_iadd (pc := 769) dL_law_769 ?_
        refine mm_iald (pc := 770) (kd := ?kd_770_116) (vs := ?vs_770_116) (v := ?v_770_116) dL_law_770 ?hc_770_116 ?hk_770_116 ?h0_770_116 ?hv_770_116 ?_; (case hc_770_116 => exact hb1); (case hk_770_116 => rfl); (case h0_770_116 => exact p1); (case hv_770_116 => exact q1)
        refine mm_callV (pc := 771) (As := [_]) (kd := ?kd_771_117) (fs := ?fs_771_117) dL_law_771 vl_L_97 (hok) ?hc_771_117 ?hk_771_117 rfl rfl (Nat.le_of_ble_eq_true rfl) ?_; (case hc_771_117 => exact hm1); (case hk_771_117 => rfl)
        rintro _ h2 ⟨rfl, I2⟩
        refine mm_lcmp (pc := 774) dL_law_774 ?_
        refine mm_if_eq (pc := 775) (tgt := 849) dL_law_775 (by decide) (fun c775 => ?_) (fun c775 => absurd lg_self c775)
        refine mm_iinc (pc := 849) dL_law_849 rfl rfl rfl (Nat.le_of_ble_eq_true rfl) ?_
        refine mm_goto (pc := 852) (tgt := 18) dL_law_852 (by decide) ?_
        exact mm_weakK (ih (k + 1) h2 (by omega) (by omega) I2) (And.intro rfl (And.intro rfl (And.intro rfl (And.intro (congrArg some (congrArg Value.int nI_a4)) trivial))))
      | 19, ht_ =>
        cases ht_
        have c32 := mm_swe (v := 19) hx_ (by decide)
        refine mm_aload_n (pc := 780) dL_law_780 rfl (by first | trivial | assumption | exact mm_isr_rf _) ?_
        refine mm_aload_n (pc := 781) dL_law_781 rfl (by first | trivial | assumption | exact mm_isr_rf _) ?_
        refine mm_iload_n (pc := 782) dL_law_782 rfl ?_
        refine mm_iconst (pc := 783) (v := 1) dL_law_783 (by decide) ?_
        refine mm_iadd (pc := 784) dL_law_784 ?_
        refine mm_iald (pc := 785) (kd := ?kd_785_118) (vs := ?vs_785_118) (v := ?v_785_118) dL_law_785 ?hc_785_118 ?hk_785_118 ?h0_785_118 ?hv_785_118 ?_; (case hc_785_118 => exact hb0); (case hk_785_118 => rfl); (case h0_785_118 => exact p1); (case hv_785_118 => exact q1)
        refine mm_aload_n (pc := 786) dL_law_786 rfl (by first | trivial | assumption | exact mm_isr_rf _) ?_
        refine mm_iload_n (pc := 787) dL_law_787 rfl ?_
        refine mm_iconst (pc := 788) (v := 2) dL_law_788 (by decide) ?_
        refine mm_iadd (pc := 789) dL_law_789 ?_
        refine mm_iald (pc := 790) (kd := ?kd_790_119) (vs := ?vs_790_119) (v := ?v_790_119) dL_law_790 ?hc_790_119 ?hk_790_119 ?h0_790_119 ?hv_790_119 ?_; (case hc_790_119 => exact hb0); (case hk_790_119 => rfl); (case h0_790_119 => exact p2); (case hv_790_119 => exact q2)
        refine mm_callV (pc := 791) (As := [_, _]) (kd := ?kd_791_120) (fs := ?fs_791_120) dL_law_791 vl_L_98 (T_record I hk5 hl1 hl2) ?hc_791_120 ?hk_791_120 rfl rfl (Nat.le_of_ble_eq_true rfl) ?_; (case hc_791_120 => exact hx0); (case hk_791_120 => rfl)
        rintro _ h1 ⟨v, rfl, hv, ⟨hb1, fs1, hm1⟩, hok⟩
        obtain ⟨x, rfl⟩ : ∃ x, v = Value.int x := hv
        refine mm_aload_n (pc := 794) dL_law_794 rfl (by first | trivial | assumption | exact mm_isr_rf _) ?_
        refine mm_aload_n (pc := 795) dL_law_795 rfl (by first | trivial | assumption | exact mm_isr_rf _) ?_
        refine mm_iload_n (pc := 796) dL_law_796 rfl ?_
        refine mm_iconst (pc := 797) (v := 1) dL_law_797 (by decide) ?_
        refine mm_iadd (pc := 798) dL_law_798 ?_
        refine mm_iald (pc := 799) (kd := ?kd_799_121) (vs := ?vs_799_121) (v := ?v_799_121) dL_law_799 ?hc_799_121 ?hk_799_121 ?h0_799_121 ?hv_799_121 ?_; (case hc_799_121 => exact hb1); (case hk_799_121 => rfl); (case h0_799_121 => exact p1); (case hv_799_121 => exact q1)
        refine mm_aload_n (pc := 800) dL_law_800 rfl (by first | trivial | assumption | exact mm_isr_rf _) ?_
        refine mm_iload_n (pc := 801) dL_law_801 rfl ?_
        refine mm_iconst (pc := 802) (v := 2) dL_law_802 (by decide) ?_
        refine mm_iadd (pc := 803) dL_law_803 ?_
        refine mm_iald (pc := 804) (kd := ?kd_804_122) (vs := ?vs_804_122) (v := ?v_804_122) dL_law_804 ?hc_804_122 ?hk_804_122 ?h0_804_122 ?hv_804_122 ?_; (case hc_804_122 => exact hb1); (case hk_804_122 => rfl); (case h0_804_122 => exact p2); (case hv_804_122 => exact q2)
        refine mm_callV (pc := 805) (As := [_, _]) (kd := ?kd_805_123) (fs := ?fs_805_123) dL_law_805 vl_L_101 (hok) ?hc_805_123 ?hk_805_123 rfl rfl (Nat.le_of_ble_eq_true rfl) ?_; (case hc_805_123 => exact hm1); (case hk_805_123 => rfl)
        rintro _ h2 ⟨rfl, I2⟩
        refine mm_icmp_eq (pc := 808) (tgt := 849) dL_law_808 (by decide) (fun c808 => ?_) (fun c808 => absurd rfl c808)
        refine mm_iinc (pc := 849) dL_law_849 rfl rfl rfl (Nat.le_of_ble_eq_true rfl) ?_
        refine mm_goto (pc := 852) (tgt := 18) dL_law_852 (by decide) ?_
        exact mm_weakK (ih (k + 1) h2 (by omega) (by omega) I2) (And.intro rfl (And.intro rfl (And.intro rfl (And.intro (congrArg some (congrArg Value.int nI_a4)) trivial))))
      | 20, ht_ =>
        cases ht_
        have c32 := mm_swe (v := 20) hx_ (by decide)
        refine mm_aload_n (pc := 813) dL_law_813 rfl (by first | trivial | assumption | exact mm_isr_rf _) ?_
        refine mm_callV (pc := 814) (As := []) (kd := ?kd_814_124) (fs := ?fs_814_124) dL_law_814 vl_L_102 (T_undo I hk5 hl1 hl2) ?hc_814_124 ?hk_814_124 rfl rfl (Nat.le_of_ble_eq_true rfl) ?_; (case hc_814_124 => exact hx0); (case hk_814_124 => rfl)
        rintro _ h1 ⟨v, rfl, hv, ⟨hb1, fs1, hm1⟩, hok⟩
        obtain ⟨x, rfl⟩ : ∃ x, v = Value.int x := hv
        refine mm_aload_n (pc := 817) dL_law_817 rfl (by first | trivial | assumption | exact mm_isr_rf _) ?_
        refine mm_callV (pc := 818) (As := []) (kd := ?kd_818_125) (fs := ?fs_818_125) dL_law_818 vl_L_105 (hok) ?hc_818_125 ?hk_818_125 rfl rfl (Nat.le_of_ble_eq_true rfl) ?_; (case hc_818_125 => exact hm1); (case hk_818_125 => rfl)
        rintro _ h2 ⟨rfl, I2⟩
        refine mm_icmp_eq (pc := 821) (tgt := 849) dL_law_821 (by decide) (fun c821 => ?_) (fun c821 => absurd rfl c821)
        refine mm_iinc (pc := 849) dL_law_849 rfl rfl rfl (Nat.le_of_ble_eq_true rfl) ?_
        refine mm_goto (pc := 852) (tgt := 18) dL_law_852 (by decide) ?_
        exact mm_weakK (ih (k + 1) h2 (by omega) (by omega) I2) (And.intro rfl (And.intro rfl (And.intro rfl (And.intro (congrArg some (congrArg Value.int nI_a4)) trivial))))
      | 21, ht_ =>
        cases ht_
        have c32 := mm_swe (v := 21) hx_ (by decide)
        refine mm_aload_n (pc := 826) dL_law_826 rfl (by first | trivial | assumption | exact mm_isr_rf _) ?_
        refine mm_aload_n (pc := 827) dL_law_827 rfl (by first | trivial | assumption | exact mm_isr_rf _) ?_
        refine mm_iload_n (pc := 828) dL_law_828 rfl ?_
        refine mm_iconst (pc := 829) (v := 1) dL_law_829 (by decide) ?_
        refine mm_iadd (pc := 830) dL_law_830 ?_
        refine mm_iald (pc := 831) (kd := ?kd_831_126) (vs := ?vs_831_126) (v := ?v_831_126) dL_law_831 ?hc_831_126 ?hk_831_126 ?h0_831_126 ?hv_831_126 ?_; (case hc_831_126 => exact hb0); (case hk_831_126 => rfl); (case h0_831_126 => exact p1); (case hv_831_126 => exact q1)
        refine mm_callV (pc := 832) (As := [_]) (kd := ?kd_832_127) (fs := ?fs_832_127) dL_law_832 vl_L_106 (T_found I hk5 hl1 hl2) ?hc_832_127 ?hk_832_127 rfl rfl (Nat.le_of_ble_eq_true rfl) ?_; (case hc_832_127 => exact hx0); (case hk_832_127 => rfl)
        rintro _ h1 ⟨v, rfl, hv, ⟨hb1, fs1, hm1⟩, hok⟩
        obtain ⟨x, rfl⟩ : ∃ x, v = Value.int x := hv
        refine mm_aload_n (pc := 835) dL_law_835 rfl (by first | trivial | assumption | exact mm_isr_rf _) ?_
        refine mm_aload_n (pc := 836) dL_law_836 rfl (by first | trivial | assumption | exact mm_isr_rf _) ?_
        refine mm_iload_n (pc := 837) dL_law_837 rfl ?_
        refine mm_iconst (pc := 838) (v := 1) dL_law_838 (by decide) ?_
        refine mm_iadd (pc := 839) dL_law_839 ?_
        refine mm_iald (pc := 840) (kd := ?kd_840_128) (vs := ?vs_840_128) (v := ?v_840_128) dL_law_840 ?hc_840_128 ?hk_840_128 ?h0_840_128 ?hv_840_128 ?_; (case hc_840_128 => exact hb1); (case hk_840_128 => rfl); (case h0_840_128 => exact p1); (case hv_840_128 => exact q1)
        refine mm_callV (pc := 841) (As := [_]) (kd := ?kd_841_129) (fs := ?fs_841_129) dL_law_841 vl_L_109 (hok) ?hc_841_129 ?hk_841_129 rfl rfl (Nat.le_of_ble_eq_true rfl) ?_; (case hc_841_129 => exact hm1); (case hk_841_129 => rfl)
        rintro _ h2 ⟨rfl, I2⟩
        refine mm_icmp_eq (pc := 844) (tgt := 849) dL_law_844 (by decide) (fun c844 => ?_) (fun c844 => absurd rfl c844)
        refine mm_iinc (pc := 849) dL_law_849 rfl rfl rfl (Nat.le_of_ble_eq_true rfl) ?_
        refine mm_goto (pc := 852) (tgt := 18) dL_law_852 (by decide) ?_
        exact mm_weakK (ih (k + 1) h2 (by omega) (by omega) I2) (And.intro rfl (And.intro rfl (And.intro rfl (And.intro (congrArg some (congrArg Value.int nI_a4)) trivial))))
      | n_ + 22, ht_ => cases ht_
    · have I2 := I.k1
      obtain ⟨h2, rfl⟩ : ∃ h2, h2 = h := ⟨_, rfl⟩
      refine mm_iinc (pc := 849) dL_law_849 rfl rfl rfl (Nat.le_of_ble_eq_true rfl) ?_
      refine mm_goto (pc := 852) (tgt := 18) dL_law_852 (by decide) ?_
      exact mm_weakK (ih (k + 1) h2 (by omega) (by omega) I2) (And.intro rfl (And.intro rfl (And.intro rfl (And.intro (congrArg some (congrArg Value.int nI_a4)) trivial))))
