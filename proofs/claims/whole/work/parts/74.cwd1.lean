/-! the class's words -/
def tpL (tb : Nat → Nat) : List Value := (List.range 800).map (fun i => Value.int (bt (tb i)))
/-- the class's tape -/
def tpc (h : mm_H) (ta : Nat) (tb : Nat → Nat) : Prop := (∀ i, tb i < 256) ∧ h.1 ta = some (101, tpL tb)
theorem tpc.v {h : mm_H} {ta : Nat} {tb : Nat → Nat} (hT : tpc h ta tb) {i : Nat} (hi : i < 800) : (tpL tb)[(nI i).toNatClampNeg]? = some (.int (bt (tb i))) := by
  unfold tpL
  rw [nI_clamp (by omega), mw_rangeG _ hi]
theorem tpL_len {tb : Nat → Nat} : (tpL tb).length = 800 := by unfold tpL; simp
theorem bt_10 : ∀ c, c < 256 → (bt c = 10 ↔ c = 10) := by decide +kernel
theorem bt_32 : ∀ c, c < 256 → (bt c = 32 ↔ c = 32) := by decide +kernel
theorem bt_L : ∀ c, c < 256 → (if bt c < 97 then (0 : Int32) else if 122 < bt c then 0 else 1) = bI (isL c) := by decide +kernel
theorem bt_F : ∀ c, c < 256 → (if bt c < 48 then (0 : Int32) else if 57 < bt c then 0 else 1) = bI (isF c) := by decide +kernel
theorem bt_sp : ∀ c, c < 256 → isL c = true → (bt c - 97 + 1).toInt64 = Int64.ofNat (c - 96) ∧ bt c = nI c ∧ 97 ≤ c ∧ c ≤ 122 := by decide +kernel
theorem bt_fg : ∀ c, c < 256 → isF c = true → (bt c - 48).toInt64 = Int64.ofNat (c - 48) ∧ 48 ≤ c ∧ c ≤ 57 := by decide +kernel

theorem ok_X10_isLetter {G : mm_G} {L : Nat × Nat} {d : Nat} {h : mm_H} {c : Nat} (hc : c < 256) : mm_Ok G mX10_isLetter L (d) [.int (bt c)] h (fun r h1 => h1 = h ∧ r = some (.int (bI (isL c)))) := by
  refine mm_Ok.of [(0, .int (bt c))] rfl kX10_isLetter.2.2.2.2.2 rfl (fun A => ?_)
  rw [← bt_L c hc]
  refine mm_iload_n (pc := 0) dX10_isLetter_0 rfl ?_
  refine mm_bipush (pc := 1) (v := 97) dX10_isLetter_1 (by decide) ?_
  refine mm_icmp_lt (pc := 3) (tgt := 16) dX10_isLetter_3 (by decide) (fun c3 => ?_) (fun c3 => ?_)
  · refine mm_iconst (pc := 16) (v := 0) dX10_isLetter_16 (by decide) ?_
    refine mm_zret (pc := 17) dX10_isLetter_17 rfl (by first | rfl | decide) ?_
    exact ⟨rfl, by rw [if_pos c3]⟩
  · refine mm_iload_n (pc := 6) dX10_isLetter_6 rfl ?_
    refine mm_bipush (pc := 7) (v := 122) dX10_isLetter_7 (by decide) ?_
    refine mm_icmp_gt (pc := 9) (tgt := 16) dX10_isLetter_9 (by decide) (fun c9 => ?_) (fun c9 => ?_)
    · refine mm_iconst (pc := 16) (v := 0) dX10_isLetter_16 (by decide) ?_
      refine mm_zret (pc := 17) dX10_isLetter_17 rfl (by first | rfl | decide) ?_
      exact ⟨rfl, by rw [if_neg c3, if_pos c9]⟩
    · refine mm_iconst (pc := 12) (v := 1) dX10_isLetter_12 (by decide) ?_
      refine mm_goto (pc := 13) (tgt := 17) dX10_isLetter_13 (by decide) ?_
      refine mm_zret (pc := 17) dX10_isLetter_17 rfl (by first | rfl | decide) ?_
      exact ⟨rfl, by rw [if_neg c3, if_neg c9]⟩

theorem ok_X10_isFigure {G : mm_G} {L : Nat × Nat} {d : Nat} {h : mm_H} {c : Nat} (hc : c < 256) : mm_Ok G mX10_isFigure L (d) [.int (bt c)] h (fun r h1 => h1 = h ∧ r = some (.int (bI (isF c)))) := by
  refine mm_Ok.of [(0, .int (bt c))] rfl kX10_isFigure.2.2.2.2.2 rfl (fun A => ?_)
  rw [← bt_F c hc]
  refine mm_iload_n (pc := 0) dX10_isFigure_0 rfl ?_
  refine mm_bipush (pc := 1) (v := 48) dX10_isFigure_1 (by decide) ?_
  refine mm_icmp_lt (pc := 3) (tgt := 16) dX10_isFigure_3 (by decide) (fun c3 => ?_) (fun c3 => ?_)
  · refine mm_iconst (pc := 16) (v := 0) dX10_isFigure_16 (by decide) ?_
    refine mm_zret (pc := 17) dX10_isFigure_17 rfl (by first | rfl | decide) ?_
    exact ⟨rfl, by rw [if_pos c3]⟩
  · refine mm_iload_n (pc := 6) dX10_isFigure_6 rfl ?_
    refine mm_bipush (pc := 7) (v := 57) dX10_isFigure_7 (by decide) ?_
    refine mm_icmp_gt (pc := 9) (tgt := 16) dX10_isFigure_9 (by decide) (fun c9 => ?_) (fun c9 => ?_)
    · refine mm_iconst (pc := 16) (v := 0) dX10_isFigure_16 (by decide) ?_
      refine mm_zret (pc := 17) dX10_isFigure_17 rfl (by first | rfl | decide) ?_
      exact ⟨rfl, by rw [if_neg c3, if_pos c9]⟩
    · refine mm_iconst (pc := 12) (v := 1) dX10_isFigure_12 (by decide) ?_
      refine mm_goto (pc := 13) (tgt := 17) dX10_isFigure_13 (by decide) ?_
      refine mm_zret (pc := 17) dX10_isFigure_17 rfl (by first | rfl | decide) ?_
      exact ⟨rfl, by rw [if_neg c3, if_neg c9]⟩

theorem ok_X11_spelledOn {G : mm_G} {L : Nat × Nat} {d : Nat} {h : mm_H} {x : Int64} {y : Int32} : mm_Ok G mX11_spelledOn L (d) [.long x, .int y] h (fun r h1 => h1 = h ∧ r = some (.long (x * 32 + (y - 97 + 1).toInt64))) := by
  refine mm_Ok.of [(0, .long x), (2, .int y)] rfl kX11_spelledOn.2.2.2.2.2 rfl (fun A => ?_)
  refine mm_lload_n (pc := 0) dX11_spelledOn_0 rfl ?_
  refine mm_ldc2 (pc := 1) dX11_spelledOn_1 cn_X11_314 ?_
  refine mm_lmul (pc := 4) dX11_spelledOn_4 ?_
  refine mm_iload_n (pc := 5) dX11_spelledOn_5 rfl ?_
  refine mm_bipush (pc := 6) (v := 97) dX11_spelledOn_6 (by decide) ?_
  refine mm_isub (pc := 8) dX11_spelledOn_8 ?_
  refine mm_iconst (pc := 9) (v := 1) dX11_spelledOn_9 (by decide) ?_
  refine mm_iadd (pc := 10) dX11_spelledOn_10 ?_
  refine mm_i2l (pc := 11) dX11_spelledOn_11 ?_
  refine mm_ladd (pc := 12) dX11_spelledOn_12 ?_
  refine mm_lret (pc := 13) dX11_spelledOn_13 rfl ?_
  exact ⟨rfl, rfl⟩

theorem ok_X10_behindBlanks {G : mm_G} {L : Nat × Nat} {d : Nat} {h : mm_H} {ta n p0 : Nat} {tb : Nat → Nat} (hT : tpc h ta tb) (hn : n ≤ 800) (hp0 : p0 ≤ n) : mm_Ok G mX10_behindBlanks L d [.ref ta, .int (nI n), .int (nI p0)] h (fun r h1 => h1 = h ∧ r = some (.int (nI (tkF tb n p0)))) := by
  refine mm_Ok.of [(0, .ref ta), (1, .int (nI n)), (2, .int (nI p0))] rfl kX10_behindBlanks.2.2.2.2.2 rfl (fun A => ?_)
  have lp_ : ∀ (q p : Nat), p + q = n → tkF tb n p = tkF tb n p0 → mm_Run G mX10_behindBlanks A L d 2 [(3, .int (nI p)), (0, .ref ta), (1, .int (nI n))] [] h (fun r h1 => h1 = h ∧ r = some (.int (nI (tkF tb n p0)))) := by
    intro q
    induction q with
    | zero =>
      intro p hp he
      refine mm_iload_n (pc := 2) dX10_behindBlanks_2 rfl ?_
      refine mm_iload_n (pc := 3) dX10_behindBlanks_3 rfl ?_
      refine mm_icmp_ge (pc := 4) (tgt := 29) dX10_behindBlanks_4 (by decide) (fun c4 => ?_) (fun c4 => absurd (nI_le (by omega) (by omega)) c4)
      refine mm_iload_n (pc := 29) dX10_behindBlanks_29 rfl ?_
      refine mm_iret (pc := 30) dX10_behindBlanks_30 rfl ?_
      exact ⟨rfl, by rw [← he]; exact congrArg (fun z => some (Value.int (nI z))) (lx_stop (fun z => by omega)).symm⟩
    | succ q ih =>
      intro p hp he
      refine mm_iload_n (pc := 2) dX10_behindBlanks_2 rfl ?_
      refine mm_iload_n (pc := 3) dX10_behindBlanks_3 rfl ?_
      refine mm_icmp_ge (pc := 4) (tgt := 29) dX10_behindBlanks_4 (by decide) (fun c4 => absurd c4 (nI_ge (by omega) (by omega))) (fun c4 => ?_)
      refine mm_aload_n (pc := 7) dX10_behindBlanks_7 rfl (by first | trivial | assumption | exact mm_isr_rf _) ?_
      refine mm_iload_n (pc := 8) dX10_behindBlanks_8 rfl ?_
      refine mm_bald (pc := 9) (kd := ?kd_9_1) (vs := ?vs_9_1) (v := ?v_9_1) dX10_behindBlanks_9 ?hc_9_1 ?hk_9_1 ?h0_9_1 ?hv_9_1 ?_; (case hc_9_1 => exact hT.2); (case hk_9_1 => first | rfl | exact hk0); (case h0_9_1 => exact nI_pos (by omega)); (case hv_9_1 => exact hT.v (i := p) (by omega))
      refine mm_bipush (pc := 10) (v := 10) dX10_behindBlanks_10 (by decide) ?_
      refine mm_icmp_eq (pc := 12) (tgt := 23) dX10_behindBlanks_12 (by decide) (fun c12 => ?_) (fun c12 => ?_)
      · refine mm_iinc (pc := 23) dX10_behindBlanks_23 rfl rfl rfl (Nat.le_of_ble_eq_true rfl) ?_
        refine mm_goto (pc := 26) (tgt := 2) dX10_behindBlanks_26 (by decide) ?_
        exact mm_weakK (ih (p + 1) (by omega) (by rw [← he]; exact (lx_go (by omega) (by rw [(bt_10 _ (hT.1 p)).mp c12]; rfl)).symm)) (And.intro (by rw [← nI_1]; rfl) (And.intro rfl (And.intro rfl trivial)))
      · refine mm_aload_n (pc := 15) dX10_behindBlanks_15 rfl (by first | trivial | assumption | exact mm_isr_rf _) ?_
        refine mm_iload_n (pc := 16) dX10_behindBlanks_16 rfl ?_
        refine mm_bald (pc := 17) (kd := ?kd_17_2) (vs := ?vs_17_2) (v := ?v_17_2) dX10_behindBlanks_17 ?hc_17_2 ?hk_17_2 ?h0_17_2 ?hv_17_2 ?_; (case hc_17_2 => exact hT.2); (case hk_17_2 => first | rfl | exact hk0); (case h0_17_2 => exact nI_pos (by omega)); (case hv_17_2 => exact hT.v (i := p) (by omega))
        refine mm_bipush (pc := 18) (v := 32) dX10_behindBlanks_18 (by decide) ?_
        refine mm_icmp_ne (pc := 20) (tgt := 29) dX10_behindBlanks_20 (by decide) (fun c20 => ?_) (fun c20 => ?_)
        · refine mm_iload_n (pc := 29) dX10_behindBlanks_29 rfl ?_
          refine mm_iret (pc := 30) dX10_behindBlanks_30 rfl ?_
          refine ⟨rfl, ?_⟩
          rw [← he]
          refine congrArg (fun z => some (Value.int (nI z))) (lx_stop (fun z => ?_)).symm
          have z2 : (Nat.beq (tb p) 10 || Nat.beq (tb p) 32) = true := z.2
          rw [Bool.or_eq_true, Nat.beq_eq, Nat.beq_eq] at z2
          rcases z2 with z2 | z2
          · exact c12 ((bt_10 _ (hT.1 p)).mpr z2)
          · exact c20 ((bt_32 _ (hT.1 p)).mpr z2)
        · refine mm_iinc (pc := 23) dX10_behindBlanks_23 rfl rfl rfl (Nat.le_of_ble_eq_true rfl) ?_
          refine mm_goto (pc := 26) (tgt := 2) dX10_behindBlanks_26 (by decide) ?_
          exact mm_weakK (ih (p + 1) (by omega) (by rw [← he]; exact (lx_go (by omega) (by rw [(bt_32 _ (hT.1 p)).mp c20]; rfl)).symm)) (And.intro (by rw [← nI_1]; rfl) (And.intro rfl (And.intro rfl trivial)))
  refine mm_iload_n (pc := 0) dX10_behindBlanks_0 rfl ?_
  refine mm_istore_n (pc := 1) dX10_behindBlanks_1 rfl (Nat.le_of_ble_eq_true rfl) ?_
  exact mm_weakK (lp_ (n - p0) p0 (by omega) rfl) (And.intro rfl (And.intro rfl (And.intro rfl trivial)))

/-- a word and blanks behind it, eight in all -/
def pad8 (ws : List Nat) (i : Nat) : Nat := (ws[i]?).getD 32
def rwE (cs ws : List Nat) (r : Nat) : Prop := ∀ i, i < 8 → cs[8 * r + i]? = some (pad8 ws i)
theorem asc_nI {c : Nat} (h : c < 128) : asc (nI c) := ⟨c, h, rfl⟩

theorem ok_X10_isRow {G : mm_G} {L : Nat × Nat} {d : Nat} {h : mm_H} {ta sa p s k : Nat} {tb : Nat → Nat} {cs : List Nat} (hT : tpc h ta tb) (hs : sT h sa (cs.map nI)) (hca : ∀ c ∈ cs, c < 128) (hw : ∀ i, i < s → isL (tb (p + i)) = true) (hs8 : s ≤ 8) (hps : p + s ≤ 800) (hk : 8 * k + 8 ≤ cs.length) (hcl : cs.length < 1000) : mm_Ok G mX10_isRow L (d + 4) [.ref sa, .int (nI (8 * k)), .ref ta, .int (nI p), .int (nI s)] h (fun r h1 => h1 = h ∧ ((r = some (.int 1) ∧ rwE cs (wn tb p (p + s)) k) ∨ (r = some (.int 0) ∧ ¬ rwE cs (wn tb p (p + s)) k))) := by
  refine mm_Ok.of [(0, .ref sa), (1, .int (nI (8 * k))), (2, .ref ta), (3, .int (nI p)), (4, .int (nI s))] rfl kX10_isRow.2.2.2.2.2 rfl (fun A => ?_)
  obtain ⟨ka, kv, v, rest, hsc, hk0, hv, hkv, hlen⟩ := id hs
  have lp_ : ∀ (q i : Nat), i + q = 8 → (∀ j, j < i → cs[8 * k + j]? = some (pad8 (wn tb p (p + s)) j)) → mm_Run G mX10_isRow A L (d + 4) 3 [(5, .int (nI i)), (0, .ref sa), (1, .int (nI (8 * k))), (2, .ref ta), (3, .int (nI p)), (4, .int (nI s))] [] h (fun r h1 => h1 = h ∧ ((r = some (.int 1) ∧ rwE cs (wn tb p (p + s)) k) ∨ (r = some (.int 0) ∧ ¬ rwE cs (wn tb p (p + s)) k))) := by
    intro q
    induction q with
    | zero =>
      intro i hi8 hI
      refine mm_iload (pc := 3) dX10_isRow_3 rfl ?_
      refine mm_bipush (pc := 5) (v := 8) dX10_isRow_5 (by decide) ?_
      refine mm_icmp_ge (pc := 7) (tgt := 71) dX10_isRow_7 (by decide) (fun c7 => ?_) (fun c7 => absurd (show nI 8 ≤ nI i from nI_le (by omega) (by omega)) c7)
      refine mm_iconst (pc := 71) (v := 1) dX10_isRow_71 (by decide) ?_
      refine mm_zret (pc := 72) dX10_isRow_72 rfl (rfl) ?_
      exact ⟨rfl, Or.inl ⟨rfl, fun j hj => hI j (by omega)⟩⟩
    | succ q ih =>
      intro i hi8 hI
      have hb0 : cs[8 * k + i]? = some cs[8 * k + i] := List.getElem?_eq_getElem (by omega)
      have hb : (cs.map nI)[8 * k + i]? = some (nI cs[8 * k + i]) := by rw [List.getElem?_map, hb0]; rfl
      by_cases hi : i < s
      · have hpd : pad8 (wn tb p (p + s)) i = tb (p + i) := by unfold pad8; rw [wn_get (by omega)]; rfl
        have hbt : bt (tb (p + i)) = nI (tb (p + i)) := (bt_sp _ (hT.1 _) (hw i hi)).2.1
        have hlt := (bt_sp _ (hT.1 _) (hw i hi)).2.2
        refine mm_iload (pc := 3) dX10_isRow_3 rfl ?_
        refine mm_bipush (pc := 5) (v := 8) dX10_isRow_5 (by decide) ?_
        refine mm_icmp_ge (pc := 7) (tgt := 71) dX10_isRow_7 (by decide) (fun c7 => absurd c7 (show ¬ nI 8 ≤ nI i from nI_ge (by omega) (by omega))) (fun c7 => ?_)
        refine mm_iload_n (pc := 10) dX10_isRow_10 rfl ?_
        refine mm_iload (pc := 11) dX10_isRow_11 rfl ?_
        refine mm_iadd (pc := 13) dX10_isRow_13 ?_
        refine mm_aload_n (pc := 14) dX10_isRow_14 rfl (by first | trivial | assumption | exact mm_isr_rf _) ?_
        refine mm_callV (pc := 15) (As := []) (kd := ?kd_15_3) (fs := ?fs_15_3) dX10_isRow_15 vl_X10_72 (ok_length hs) ?hc_15_3 ?hk_15_3 rfl rfl (Nat.le_of_ble_eq_true rfl) ?_; (case hc_15_3 => exact hsc); (case hk_15_3 => first | rfl | exact hk0)
        rintro _ _ ⟨rfl, rfl⟩
        refine mm_icmp_ge (pc := 18) (tgt := 71) dX10_isRow_18 (by decide) (fun c18 => absurd c18 (by rw [nI_add, List.length_map]; exact nI_ge (by omega) (by omega))) (fun c18 => ?_)
        refine mm_iload (pc := 21) dX10_isRow_21 rfl ?_
        refine mm_iload (pc := 23) dX10_isRow_23 rfl ?_
        refine mm_icmp_ge (pc := 25) (tgt := 46) dX10_isRow_25 (by decide) (fun c25 => absurd c25 (nI_ge hi (by omega))) (fun c25 => ?_)
        refine mm_iload_n (pc := 28) dX10_isRow_28 rfl ?_
        refine mm_iload (pc := 29) dX10_isRow_29 rfl ?_
        refine mm_iadd (pc := 31) dX10_isRow_31 ?_
        refine mm_aload_n (pc := 32) dX10_isRow_32 rfl (by first | trivial | assumption | exact mm_isr_rf _) ?_
        refine mm_alen2 (pc := 33) (kd := ?kd_33_4) (vs := ?vs_33_4) dX10_isRow_33 ?hc_33_4 ?hk_33_4 ?ht_33_4 ?_; (case hc_33_4 => exact hT.2); (case hk_33_4 => first | rfl | exact hk0); (case ht_33_4 => rfl)
        refine mm_icmp_ge (pc := 34) (tgt := 46) dX10_isRow_34 (by decide) (fun c34 => absurd c34 (by rw [nI_add, tpL_len]; exact nI_ge (by omega) (by omega))) (fun c34 => ?_)
        refine mm_aload_n (pc := 37) dX10_isRow_37 rfl (by first | trivial | assumption | exact mm_isr_rf _) ?_
        refine mm_iload_n (pc := 38) dX10_isRow_38 rfl ?_
        refine mm_iload (pc := 39) dX10_isRow_39 rfl ?_
        refine mm_iadd (pc := 41) dX10_isRow_41 ?_
        refine mm_bald (pc := 42) (kd := ?kd_42_5) (vs := ?vs_42_5) (v := ?v_42_5) dX10_isRow_42 ?hc_42_5 ?hk_42_5 ?h0_42_5 ?hv_42_5 ?_; (case hc_42_5 => exact hT.2); (case hk_42_5 => first | rfl | exact hk0); (case h0_42_5 => rw [nI_add]; exact nI_pos (by omega)); (case hv_42_5 => rw [nI_add]; exact hT.v (i := p + i) (by omega))
        refine mm_goto (pc := 43) (tgt := 48) dX10_isRow_43 (by decide) ?_
        refine mm_istore (pc := 48) dX10_isRow_48 rfl (Nat.le_of_ble_eq_true rfl) ?_
        refine mm_aload_n (pc := 50) dX10_isRow_50 rfl (by first | trivial | assumption | exact mm_isr_rf _) ?_
        refine mm_iload_n (pc := 51) dX10_isRow_51 rfl ?_
        refine mm_iload (pc := 52) dX10_isRow_52 rfl ?_
        refine mm_iadd (pc := 54) dX10_isRow_54 ?_
        refine mm_topi (nI (8 * k + i)) (nI_add _ _) ?_
        refine mm_callV (pc := 55) (As := [_]) (kd := ?kd_55_6) (fs := ?fs_55_6) dX10_isRow_55 vl_X10_82 (ok_charAt hs hb (asc_nI (hca _ (List.mem_of_getElem? hb0)))) ?hc_55_6 ?hk_55_6 rfl rfl (Nat.le_of_ble_eq_true rfl) ?_; (case hc_55_6 => exact hsc); (case hk_55_6 => first | rfl | exact hk0)
        rintro _ _ ⟨rfl, rfl⟩
        refine mm_iload (pc := 58) dX10_isRow_58 rfl ?_
        refine mm_icmp_eq (pc := 60) (tgt := 65) dX10_isRow_60 (by decide) (fun c60 => ?_) (fun c60 => ?_)
        · refine mm_iinc (pc := 65) dX10_isRow_65 rfl rfl rfl (Nat.le_of_ble_eq_true rfl) ?_
          refine mm_goto (pc := 68) (tgt := 3) dX10_isRow_68 (by decide) ?_
          exact mm_weakK (ih (i + 1) (by omega) (fun j hj => by
            by_cases e : j = i
            · subst e
              rw [hb0]
              exact congrArg some ((nI_eq (by have := hca _ (List.mem_of_getElem? hb0); omega) (by rw [hpd]; omega)).mp (c60.trans (by rw [hpd, hbt])))
            · exact hI j (by omega))) (And.intro (by rw [← nI_1]; rfl) (And.intro rfl (And.intro rfl (And.intro rfl (And.intro rfl (And.intro rfl trivial))))))
        · refine mm_iconst (pc := 63) (v := 0) dX10_isRow_63 (by decide) ?_
          refine mm_zret (pc := 64) dX10_isRow_64 rfl (rfl) ?_
          refine ⟨rfl, Or.inr ⟨rfl, fun z => ?_⟩⟩
          have z2 := z i (by omega)
          rw [hb0] at z2
          exact c60 (by rw [Option.some.inj z2, hpd, hbt])
      · have hpd : pad8 (wn tb p (p + s)) i = 32 := by unfold pad8; rw [List.getElem?_eq_none (by rw [wn_len]; omega)]; rfl
        refine mm_iload (pc := 3) dX10_isRow_3 rfl ?_
        refine mm_bipush (pc := 5) (v := 8) dX10_isRow_5 (by decide) ?_
        refine mm_icmp_ge (pc := 7) (tgt := 71) dX10_isRow_7 (by decide) (fun c7 => absurd c7 (show ¬ nI 8 ≤ nI i from nI_ge (by omega) (by omega))) (fun c7 => ?_)
        refine mm_iload_n (pc := 10) dX10_isRow_10 rfl ?_
        refine mm_iload (pc := 11) dX10_isRow_11 rfl ?_
        refine mm_iadd (pc := 13) dX10_isRow_13 ?_
        refine mm_aload_n (pc := 14) dX10_isRow_14 rfl (by first | trivial | assumption | exact mm_isr_rf _) ?_
        refine mm_callV (pc := 15) (As := []) (kd := ?kd_15_7) (fs := ?fs_15_7) dX10_isRow_15 vl_X10_72 (ok_length hs) ?hc_15_7 ?hk_15_7 rfl rfl (Nat.le_of_ble_eq_true rfl) ?_; (case hc_15_7 => exact hsc); (case hk_15_7 => first | rfl | exact hk0)
        rintro _ _ ⟨rfl, rfl⟩
        refine mm_icmp_ge (pc := 18) (tgt := 71) dX10_isRow_18 (by decide) (fun c18 => absurd c18 (by rw [nI_add, List.length_map]; exact nI_ge (by omega) (by omega))) (fun c18 => ?_)
        refine mm_iload (pc := 21) dX10_isRow_21 rfl ?_
        refine mm_iload (pc := 23) dX10_isRow_23 rfl ?_
        refine mm_icmp_ge (pc := 25) (tgt := 46) dX10_isRow_25 (by decide) (fun c25 => ?_) (fun c25 => absurd (nI_le (by omega) (by omega)) c25)
        refine mm_bipush (pc := 46) (v := 32) dX10_isRow_46 (by decide) ?_
        refine mm_istore (pc := 48) dX10_isRow_48 rfl (Nat.le_of_ble_eq_true rfl) ?_
        refine mm_aload_n (pc := 50) dX10_isRow_50 rfl (by first | trivial | assumption | exact mm_isr_rf _) ?_
        refine mm_iload_n (pc := 51) dX10_isRow_51 rfl ?_
        refine mm_iload (pc := 52) dX10_isRow_52 rfl ?_
        refine mm_iadd (pc := 54) dX10_isRow_54 ?_
        refine mm_topi (nI (8 * k + i)) (nI_add _ _) ?_
        refine mm_callV (pc := 55) (As := [_]) (kd := ?kd_55_8) (fs := ?fs_55_8) dX10_isRow_55 vl_X10_82 (ok_charAt hs hb (asc_nI (hca _ (List.mem_of_getElem? hb0)))) ?hc_55_8 ?hk_55_8 rfl rfl (Nat.le_of_ble_eq_true rfl) ?_; (case hc_55_8 => exact hsc); (case hk_55_8 => first | rfl | exact hk0)
        rintro _ _ ⟨rfl, rfl⟩
        refine mm_iload (pc := 58) dX10_isRow_58 rfl ?_
        refine mm_icmp_eq (pc := 60) (tgt := 65) dX10_isRow_60 (by decide) (fun c60 => ?_) (fun c60 => ?_)
        · refine mm_iinc (pc := 65) dX10_isRow_65 rfl rfl rfl (Nat.le_of_ble_eq_true rfl) ?_
          refine mm_goto (pc := 68) (tgt := 3) dX10_isRow_68 (by decide) ?_
          exact mm_weakK (ih (i + 1) (by omega) (fun j hj => by
            by_cases e : j = i
            · subst e
              rw [hb0]
              exact congrArg some ((nI_eq (by have := hca _ (List.mem_of_getElem? hb0); omega) (by rw [hpd]; omega)).mp (c60.trans (by rw [hpd]; rfl)))
            · exact hI j (by omega))) (And.intro (by rw [← nI_1]; rfl) (And.intro rfl (And.intro rfl (And.intro rfl (And.intro rfl (And.intro rfl trivial))))))
        · refine mm_iconst (pc := 63) (v := 0) dX10_isRow_63 (by decide) ?_
          refine mm_zret (pc := 64) dX10_isRow_64 rfl (rfl) ?_
          refine ⟨rfl, Or.inr ⟨rfl, fun z => ?_⟩⟩
          have z2 := z i (by omega)
          rw [hb0] at z2
          exact c60 (by rw [Option.some.inj z2, hpd]; rfl)
  refine mm_iconst (pc := 0) (v := 0) dX10_isRow_0 (by decide) ?_
  refine mm_istore (pc := 1) dX10_isRow_1 rfl (Nat.le_of_ble_eq_true rfl) ?_
  exact mm_weakK (lp_ 8 0 (by omega) (fun j hj => by omega)) (And.intro rfl (And.intro rfl (And.intro rfl (And.intro rfl (And.intro rfl (And.intro rfl trivial))))))

