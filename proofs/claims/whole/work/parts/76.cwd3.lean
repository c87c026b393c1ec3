/-! the class's words as objects -/
/-- a new word: what it is, its place, its size, its value -/
def wd0 : mm_C := (10, [.int 0, .int 0, .int 0, .long 0, .null])
def wdP (h : mm_H) (r : Option Value) (h1 : mm_H) (w p s : Nat) (v : Int64) : Prop := r = some (.ref h.2.1) ∧ h1 = mm_set (mm_push h wd0) h.2.1 (10, [.int (nI w), .int (nI p), .int (nI s), .long v, .null])
theorem spL_app (l : List Nat) (c : Nat) : spL (l ++ [c]) = spL l * 32 + Int64.ofNat (c - 96) := by
  unfold spL
  rw [spN_app, Int64.ofNat_add, Int64.ofNat_mul, Int64.mul_comm]
  rfl
theorem wn_app {tb : Nat → Nat} {p s : Nat} : wn tb p (p + (s + 1)) = wn tb p (p + s) ++ [tb (p + s)] := by
  unfold wn
  rw [show p + (s + 1) - p = s + 1 by omega, show p + s - p = s by omega, List.range_succ, List.map_append]
  rfl
theorem wn_0 {tb : Nat → Nat} {p : Nat} : wn tb p (p + 0) = [] := by
  unfold wn
  rw [show p + 0 - p = 0 by omega]
  rfl

theorem ok_X10_lettersAt {G : mm_G} {L : Nat × Nat} {d : Nat} {h : mm_H} {ta n p : Nat} {tb : Nat → Nat} (hT : tpc h ta tb) (hl : lt_ G h) (hn : n ≤ 800) (hp : p ≤ n) (hL1 : h.2.1 + 1 ≤ L.1) (hL2 : h.2.2 + 5 ≤ L.2) : mm_Ok G mX10_lettersAt L (d + 7) [.ref ta, .int (nI n), .int (nI p)] h (fun r h1 => wdP h r h1 (if lx isL tb n p - p ≤ 8 then wlook tkA (wn tb p (lx isL tb n p)) else 1) p (lx isL tb n p - p) (spL (wn tb p (lx isL tb n p)))) := by
  refine mm_Ok.of [(0, .ref ta), (1, .int (nI n)), (2, .int (nI p))] rfl kX10_lettersAt.2.2.2.2.2 rfl (fun A => ?_)
  have ex_ : ∀ s, lx isL tb n p = p + s → (∀ i, i < s → isL (tb (p + i)) = true) → p + s ≤ n → mm_Run G mX10_lettersAt A L (d + 7) 41 [(4, .long (spL (wn tb p (p + s)))), (3, .int (nI s)), (0, .ref ta), (1, .int (nI n)), (2, .int (nI p))] [] h (fun r h1 => wdP h r h1 (if lx isL tb n p - p ≤ 8 then wlook tkA (wn tb p (lx isL tb n p)) else 1) p (lx isL tb n p - p) (spL (wn tb p (lx isL tb n p)))) := by
    intro s es hI hsn
    refine mm_iload_n (pc := 41) dX10_lettersAt_41 rfl ?_
    refine mm_bipush (pc := 42) (v := 8) dX10_lettersAt_42 (by decide) ?_
    refine mm_icmp_le (pc := 44) (tgt := 51) dX10_lettersAt_44 (by decide) (fun c44 => ?_) (fun c44 => ?_)
    · have c44_ : s ≤ 8 := (nI_leI (by omega) (by decide)).mp (show nI s ≤ nI 8 from c44)
      refine mm_aload_n (pc := 51) dX10_lettersAt_51 rfl (by first | trivial | assumption | exact mm_isr_rf _) ?_
      refine mm_iload_n (pc := 52) dX10_lettersAt_52 rfl ?_
      refine mm_iload_n (pc := 53) dX10_lettersAt_53 rfl ?_
      refine mm_callS (pc := 54) (As := [_, _, _]) dX10_lettersAt_54 sl_X10_57 (ok_X10_lettersAre hT hl hI c44_ (by omega)) rfl rfl (Nat.le_of_ble_eq_true rfl) ?_
      rintro _ _ ⟨rfl, rfl⟩
      refine mm_istore (pc := 57) dX10_lettersAt_57 rfl (Nat.le_of_ble_eq_true rfl) ?_
      refine mm_new (pc := 59) dX10_lettersAt_59 nl_X10_10 (hL1) (hL2) ?_
      refine mm_dup (pc := 62) dX10_lettersAt_62 rfl ?_
      refine mm_iload (pc := 63) dX10_lettersAt_63 rfl ?_
      refine mm_iload_n (pc := 65) dX10_lettersAt_65 rfl ?_
      refine mm_iload_n (pc := 66) dX10_lettersAt_66 rfl ?_
      refine mm_lload (pc := 67) dX10_lettersAt_67 rfl ?_
      refine mm_callI (pc := 69) (As := [_, _, _, _]) dX10_lettersAt_69 il_X10_37 (ok_X10_init mm_push_eq) rfl rfl (Nat.le_of_ble_eq_true rfl) ?_
      rintro _ _ ⟨rfl, rfl⟩
      refine mm_aret (pc := 72) dX10_lettersAt_72 rfl (Or.inl ⟨_, rfl⟩) (by first | trivial | assumption | exact mm_isr_rf _) ?_
      refine ⟨rfl, ?_⟩
      rw [es, show p + s - p = s by omega, if_pos c44_]
      rfl
    · have c44_ : ¬ s ≤ 8 := fun z => c44 (show nI s ≤ nI 8 from nI_le z (by decide))
      refine mm_iconst (pc := 47) (v := 1) dX10_lettersAt_47 (by decide) ?_
      refine mm_goto (pc := 48) (tgt := 57) dX10_lettersAt_48 (by decide) ?_
      refine mm_istore (pc := 57) dX10_lettersAt_57 rfl (Nat.le_of_ble_eq_true rfl) ?_
      refine mm_new (pc := 59) dX10_lettersAt_59 nl_X10_10 (hL1) (hL2) ?_
      refine mm_dup (pc := 62) dX10_lettersAt_62 rfl ?_
      refine mm_iload (pc := 63) dX10_lettersAt_63 rfl ?_
      refine mm_iload_n (pc := 65) dX10_lettersAt_65 rfl ?_
      refine mm_iload_n (pc := 66) dX10_lettersAt_66 rfl ?_
      refine mm_lload (pc := 67) dX10_lettersAt_67 rfl ?_
      refine mm_callI (pc := 69) (As := [_, _, _, _]) dX10_lettersAt_69 il_X10_37 (ok_X10_init mm_push_eq) rfl rfl (Nat.le_of_ble_eq_true rfl) ?_
      rintro _ _ ⟨rfl, rfl⟩
      refine mm_aret (pc := 72) dX10_lettersAt_72 rfl (Or.inl ⟨_, rfl⟩) (by first | trivial | assumption | exact mm_isr_rf _) ?_
      refine ⟨rfl, ?_⟩
      rw [es, show p + s - p = s by omega, if_neg c44_]
      rfl
  have lp_ : ∀ (q s : Nat), p + s + q = n → lx isL tb n (p + s) = lx isL tb n p → (∀ i, i < s → isL (tb (p + i)) = true) → mm_Run G mX10_lettersAt A L (d + 7) 5 [(4, .long (spL (wn tb p (p + s)))), (3, .int (nI s)), (0, .ref ta), (1, .int (nI n)), (2, .int (nI p))] [] h (fun r h1 => wdP h r h1 (if lx isL tb n p - p ≤ 8 then wlook tkA (wn tb p (lx isL tb n p)) else 1) p (lx isL tb n p - p) (spL (wn tb p (lx isL tb n p)))) := by
    intro q
    induction q with
    | zero =>
      intro s hsn0 he hI
      have hsn : p + s ≤ n := by omega
      refine mm_iload_n (pc := 5) dX10_lettersAt_5 rfl ?_
      refine mm_iload_n (pc := 6) dX10_lettersAt_6 rfl ?_
      refine mm_iadd (pc := 7) dX10_lettersAt_7 ?_
      refine mm_iload_n (pc := 8) dX10_lettersAt_8 rfl ?_
      refine mm_icmp_ge (pc := 9) (tgt := 41) dX10_lettersAt_9 (by decide) (fun c9 => ?_) (fun c9 => absurd (by rw [nI_add]; exact nI_le (by omega) (by omega)) c9)
      have es_ : lx isL tb n p = p + s := by rw [← he]; exact lx_stop (fun z => by omega)
      exact ex_ s es_ hI hsn
    | succ q ih =>
      intro s hsn0 he hI
      have hsn : p + s ≤ n := by omega
      refine mm_iload_n (pc := 5) dX10_lettersAt_5 rfl ?_
      refine mm_iload_n (pc := 6) dX10_lettersAt_6 rfl ?_
      refine mm_iadd (pc := 7) dX10_lettersAt_7 ?_
      refine mm_iload_n (pc := 8) dX10_lettersAt_8 rfl ?_
      refine mm_icmp_ge (pc := 9) (tgt := 41) dX10_lettersAt_9 (by decide) (fun c9 => absurd c9 (by rw [nI_add]; exact nI_ge (by omega) (by omega))) (fun c9 => ?_)
      refine mm_aload_n (pc := 12) dX10_lettersAt_12 rfl (by first | trivial | assumption | exact mm_isr_rf _) ?_
      refine mm_iload_n (pc := 13) dX10_lettersAt_13 rfl ?_
      refine mm_iload_n (pc := 14) dX10_lettersAt_14 rfl ?_
      refine mm_iadd (pc := 15) dX10_lettersAt_15 ?_
      refine mm_bald (pc := 16) (kd := ?kd_16_1) (vs := ?vs_16_1) (v := ?v_16_1) dX10_lettersAt_16 ?hc_16_1 ?hk_16_1 ?h0_16_1 ?hv_16_1 ?_; (case hc_16_1 => exact hT.2); (case hk_16_1 => first | rfl | exact hk0); (case h0_16_1 => rw [nI_add]; exact nI_pos (by omega)); (case hv_16_1 => rw [nI_add]; exact hT.v (i := p + s) (by omega))
      refine mm_callS (pc := 17) (As := [_]) dX10_lettersAt_17 sl_X10_40 (ok_X10_isLetter (hT.1 (p + s))) rfl rfl (Nat.le_of_ble_eq_true rfl) ?_
      rintro _ _ ⟨rfl, rfl⟩
      refine mm_if_eq (pc := 20) (tgt := 41) dX10_lettersAt_20 (by decide) (fun c20 => ?_) (fun c20 => ?_)
      · have es_ : lx isL tb n p = p + s := by rw [← he]; exact lx_stop (fun z => by rw [bI_eq0.mp c20] at z; cases z.2)
        exact ex_ s es_ hI hsn
      · refine mm_lload (pc := 23) dX10_lettersAt_23 rfl ?_
        refine mm_aload_n (pc := 25) dX10_lettersAt_25 rfl (by first | trivial | assumption | exact mm_isr_rf _) ?_
        refine mm_iload_n (pc := 26) dX10_lettersAt_26 rfl ?_
        refine mm_iload_n (pc := 27) dX10_lettersAt_27 rfl ?_
        refine mm_iadd (pc := 28) dX10_lettersAt_28 ?_
        refine mm_bald (pc := 29) (kd := ?kd_29_2) (vs := ?vs_29_2) (v := ?v_29_2) dX10_lettersAt_29 ?hc_29_2 ?hk_29_2 ?h0_29_2 ?hv_29_2 ?_; (case hc_29_2 => exact hT.2); (case hk_29_2 => first | rfl | exact hk0); (case h0_29_2 => rw [nI_add]; exact nI_pos (by omega)); (case hv_29_2 => rw [nI_add]; exact hT.v (i := p + s) (by omega))
        refine mm_callSN (pc := 30) (As := [_, _]) dX10_lettersAt_30 snl_X10_53 (ok_X11_spelledOn) rfl rfl (Nat.le_of_ble_eq_true rfl) ?_
        rintro _ _ ⟨rfl, rfl⟩
        refine mm_lstore (pc := 33) dX10_lettersAt_33 rfl rfl (Nat.le_of_ble_eq_true rfl) ?_
        refine mm_iinc (pc := 35) dX10_lettersAt_35 rfl rfl rfl (Nat.le_of_ble_eq_true rfl) ?_
        refine mm_goto (pc := 38) (tgt := 5) dX10_lettersAt_38 (by decide) ?_
        have tL : isL (tb (p + s)) = true := by
          cases q_ : isL (tb (p + s)) with
          | true => rfl
          | false => exact absurd (bI_eq0.mpr q_) c20
        exact mm_weakK (ih (s + 1) (by omega) (by rw [← he]; exact (lx_go (by omega) tL).symm) (fun i hi => by
          by_cases e : i = s
          · subst e; exact tL
          · exact hI i (by omega))) (And.intro (by rw [wn_app, spL_app, ← (bt_sp _ (hT.1 _) tL).1]; rfl) (And.intro (by rw [← nI_1]; rfl) (And.intro rfl (And.intro rfl (And.intro rfl trivial)))))
  refine mm_iconst (pc := 0) (v := 0) dX10_lettersAt_0 (by decide) ?_
  refine mm_istore_n (pc := 1) dX10_lettersAt_1 rfl (Nat.le_of_ble_eq_true rfl) ?_
  refine mm_lconst (pc := 2) (v := 0) dX10_lettersAt_2 (by decide) ?_
  refine mm_lstore (pc := 3) dX10_lettersAt_3 rfl rfl (Nat.le_of_ble_eq_true rfl) ?_
  exact mm_weakK (lp_ (n - p) 0 (by omega) rfl (fun i hi => by omega)) (And.intro (by rw [wn_0]; rfl) (And.intro rfl (And.intro rfl (And.intro rfl (And.intro rfl trivial)))))

theorem ok_X10_figuresAt {G : mm_G} {L : Nat × Nat} {d : Nat} {h : mm_H} {ta n p : Nat} {tb : Nat → Nat} (hT : tpc h ta tb) (hn : n ≤ 800) (hp : p ≤ n) (hL1 : h.2.1 + 1 ≤ L.1) (hL2 : h.2.2 + 5 ≤ L.2) : mm_Ok G mX10_figuresAt L (d + 7) [.ref ta, .int (nI n), .int (nI p)] h (fun r h1 => wdP h r h1 (if lx isF tb n p - p ≤ 3 then 3 else 1) p (lx isF tb n p - p) (Int64.ofNat (numN (wn tb p (lx isF tb n p)) 0))) := by
  refine mm_Ok.of [(0, .ref ta), (1, .int (nI n)), (2, .int (nI p))] rfl kX10_figuresAt.2.2.2.2.2 rfl (fun A => ?_)
  have ex_ : ∀ s, lx isF tb n p = p + s → p + s ≤ n → mm_Run G mX10_figuresAt A L (d + 7) 47 [(4, .long (Int64.ofNat (numN (wn tb p (p + s)) 0))), (3, .int (nI s)), (0, .ref ta), (1, .int (nI n)), (2, .int (nI p))] [] h (fun r h1 => wdP h r h1 (if lx isF tb n p - p ≤ 3 then 3 else 1) p (lx isF tb n p - p) (Int64.ofNat (numN (wn tb p (lx isF tb n p)) 0))) := by
    intro s es hsn
    refine mm_new (pc := 47) dX10_figuresAt_47 nl_X10_10 (hL1) (hL2) ?_
    refine mm_dup (pc := 50) dX10_figuresAt_50 rfl ?_
    refine mm_iload_n (pc := 51) dX10_figuresAt_51 rfl ?_
    refine mm_iconst (pc := 52) (v := 3) dX10_figuresAt_52 (by decide) ?_
    refine mm_icmp_le (pc := 53) (tgt := 60) dX10_figuresAt_53 (by decide) (fun c53 => ?_) (fun c53 => ?_)
    · have c53_ : s ≤ 3 := (nI_leI (by omega) (by decide)).mp (show nI s ≤ nI 3 from c53)
      refine mm_iconst (pc := 60) (v := 3) dX10_figuresAt_60 (by decide) ?_
      refine mm_iload_n (pc := 61) dX10_figuresAt_61 rfl ?_
      refine mm_iload_n (pc := 62) dX10_figuresAt_62 rfl ?_
      refine mm_lload (pc := 63) dX10_figuresAt_63 rfl ?_
      refine mm_callI (pc := 65) (As := [_, _, _, _]) dX10_figuresAt_65 il_X10_37 (ok_X10_init mm_push_eq) rfl rfl (Nat.le_of_ble_eq_true rfl) ?_
      rintro _ _ ⟨rfl, rfl⟩
      refine mm_aret (pc := 68) dX10_figuresAt_68 rfl (Or.inl ⟨_, rfl⟩) (by first | trivial | assumption | exact mm_isr_rf _) ?_
      refine ⟨rfl, ?_⟩
      rw [es, show p + s - p = s by omega, if_pos c53_]
      rfl
    · have c53_ : ¬ s ≤ 3 := fun z => c53 (show nI s ≤ nI 3 from nI_le z (by decide))
      refine mm_iconst (pc := 56) (v := 1) dX10_figuresAt_56 (by decide) ?_
      refine mm_goto (pc := 57) (tgt := 61) dX10_figuresAt_57 (by decide) ?_
      refine mm_iload_n (pc := 61) dX10_figuresAt_61 rfl ?_
      refine mm_iload_n (pc := 62) dX10_figuresAt_62 rfl ?_
      refine mm_lload (pc := 63) dX10_figuresAt_63 rfl ?_
      refine mm_callI (pc := 65) (As := [_, _, _, _]) dX10_figuresAt_65 il_X10_37 (ok_X10_init mm_push_eq) rfl rfl (Nat.le_of_ble_eq_true rfl) ?_
      rintro _ _ ⟨rfl, rfl⟩
      refine mm_aret (pc := 68) dX10_figuresAt_68 rfl (Or.inl ⟨_, rfl⟩) (by first | trivial | assumption | exact mm_isr_rf _) ?_
      refine ⟨rfl, ?_⟩
      rw [es, show p + s - p = s by omega, if_neg c53_]
      rfl
  have lp_ : ∀ (q s : Nat), p + s + q = n → lx isF tb n (p + s) = lx isF tb n p → mm_Run G mX10_figuresAt A L (d + 7) 5 [(4, .long (Int64.ofNat (numN (wn tb p (p + s)) 0))), (3, .int (nI s)), (0, .ref ta), (1, .int (nI n)), (2, .int (nI p))] [] h (fun r h1 => wdP h r h1 (if lx isF tb n p - p ≤ 3 then 3 else 1) p (lx isF tb n p - p) (Int64.ofNat (numN (wn tb p (lx isF tb n p)) 0))) := by
    intro q
    induction q with
    | zero =>
      intro s hsn0 he
      have hsn : p + s ≤ n := by omega
      refine mm_iload_n (pc := 5) dX10_figuresAt_5 rfl ?_
      refine mm_iload_n (pc := 6) dX10_figuresAt_6 rfl ?_
      refine mm_iadd (pc := 7) dX10_figuresAt_7 ?_
      refine mm_iload_n (pc := 8) dX10_figuresAt_8 rfl ?_
      refine mm_icmp_ge (pc := 9) (tgt := 47) dX10_figuresAt_9 (by decide) (fun c9 => ?_) (fun c9 => absurd (by rw [nI_add]; exact nI_le (by omega) (by omega)) c9)
      have es_ : lx isF tb n p = p + s := by rw [← he]; exact lx_stop (fun z => by omega)
      exact ex_ s es_ hsn
    | succ q ih =>
      intro s hsn0 he
      have hsn : p + s ≤ n := by omega
      refine mm_iload_n (pc := 5) dX10_figuresAt_5 rfl ?_
      refine mm_iload_n (pc := 6) dX10_figuresAt_6 rfl ?_
      refine mm_iadd (pc := 7) dX10_figuresAt_7 ?_
      refine mm_iload_n (pc := 8) dX10_figuresAt_8 rfl ?_
      refine mm_icmp_ge (pc := 9) (tgt := 47) dX10_figuresAt_9 (by decide) (fun c9 => absurd c9 (by rw [nI_add]; exact nI_ge (by omega) (by omega))) (fun c9 => ?_)
      refine mm_aload_n (pc := 12) dX10_figuresAt_12 rfl (by first | trivial | assumption | exact mm_isr_rf _) ?_
      refine mm_iload_n (pc := 13) dX10_figuresAt_13 rfl ?_
      refine mm_iload_n (pc := 14) dX10_figuresAt_14 rfl ?_
      refine mm_iadd (pc := 15) dX10_figuresAt_15 ?_
      refine mm_bald (pc := 16) (kd := ?kd_16_3) (vs := ?vs_16_3) (v := ?v_16_3) dX10_figuresAt_16 ?hc_16_3 ?hk_16_3 ?h0_16_3 ?hv_16_3 ?_; (case hc_16_3 => exact hT.2); (case hk_16_3 => first | rfl | exact hk0); (case h0_16_3 => rw [nI_add]; exact nI_pos (by omega)); (case hv_16_3 => rw [nI_add]; exact hT.v (i := p + s) (by omega))
      refine mm_callS (pc := 17) (As := [_]) dX10_figuresAt_17 sl_X10_47 (ok_X10_isFigure (hT.1 (p + s))) rfl rfl (Nat.le_of_ble_eq_true rfl) ?_
      rintro _ _ ⟨rfl, rfl⟩
      refine mm_if_eq (pc := 20) (tgt := 47) dX10_figuresAt_20 (by decide) (fun c20 => ?_) (fun c20 => ?_)
      · have es_ : lx isF tb n p = p + s := by rw [← he]; exact lx_stop (fun z => by rw [bI_eq0.mp c20] at z; cases z.2)
        exact ex_ s es_ hsn
      · refine mm_lload (pc := 23) dX10_figuresAt_23 rfl ?_
        refine mm_ldc2 (pc := 25) dX10_figuresAt_25 cn_X10_60 ?_
        refine mm_lmul (pc := 28) dX10_figuresAt_28 ?_
        refine mm_aload_n (pc := 29) dX10_figuresAt_29 rfl (by first | trivial | assumption | exact mm_isr_rf _) ?_
        refine mm_iload_n (pc := 30) dX10_figuresAt_30 rfl ?_
        refine mm_iload_n (pc := 31) dX10_figuresAt_31 rfl ?_
        refine mm_iadd (pc := 32) dX10_figuresAt_32 ?_
        refine mm_bald (pc := 33) (kd := ?kd_33_4) (vs := ?vs_33_4) (v := ?v_33_4) dX10_figuresAt_33 ?hc_33_4 ?hk_33_4 ?h0_33_4 ?hv_33_4 ?_; (case hc_33_4 => exact hT.2); (case hk_33_4 => first | rfl | exact hk0); (case h0_33_4 => rw [nI_add]; exact nI_pos (by omega)); (case hv_33_4 => rw [nI_add]; exact hT.v (i := p + s) (by omega))
        refine mm_bipush (pc := 34) (v := 48) dX10_figuresAt_34 (by decide) ?_
        refine mm_isub (pc := 36) dX10_figuresAt_36 ?_
        refine mm_i2l (pc := 37) dX10_figuresAt_37 ?_
        refine mm_ladd (pc := 38) dX10_figuresAt_38 ?_
        refine mm_lstore (pc := 39) dX10_figuresAt_39 rfl rfl (Nat.le_of_ble_eq_true rfl) ?_
        refine mm_iinc (pc := 41) dX10_figuresAt_41 rfl rfl rfl (Nat.le_of_ble_eq_true rfl) ?_
        refine mm_goto (pc := 44) (tgt := 5) dX10_figuresAt_44 (by decide) ?_
        have tL : isF (tb (p + s)) = true := by
          cases q_ : isF (tb (p + s)) with
          | true => rfl
          | false => exact absurd (bI_eq0.mpr q_) c20
        exact mm_weakK (ih (s + 1) (by omega) (by rw [← he]; exact (lx_go (by omega) tL).symm)) (And.intro (by rw [wn_app, numN_app, Int64.ofNat_add, Int64.ofNat_mul, ← (bt_fg _ (hT.1 _) tL).1, Int64.mul_comm]; rfl) (And.intro (by rw [← nI_1]; rfl) (And.intro rfl (And.intro rfl (And.intro rfl trivial)))))
  refine mm_iconst (pc := 0) (v := 0) dX10_figuresAt_0 (by decide) ?_
  refine mm_istore_n (pc := 1) dX10_figuresAt_1 rfl (Nat.le_of_ble_eq_true rfl) ?_
  refine mm_lconst (pc := 2) (v := 0) dX10_figuresAt_2 (by decide) ?_
  refine mm_lstore (pc := 3) dX10_figuresAt_3 rfl rfl (Nat.le_of_ble_eq_true rfl) ?_
  exact mm_weakK (lp_ (n - p) 0 (by omega) rfl) (And.intro (by rw [wn_0]; rfl) (And.intro rfl (And.intro rfl (And.intro rfl (And.intro rfl trivial)))))

theorem bt_sw : ∀ c, c < 256 → ¬ c = 59 → ¬ c = 123 → ¬ c = 125 → Op.lookupswitch.offset [(59, 60), (123, 36), (125, 48)] 73 (bt c).toInt = 73 := by decide +kernel
theorem tk_none : ∀ c, c < 256 → isL c = false → isF c = false → ¬ c = 59 → ¬ c = 123 → ¬ c = 125 → isSg c = false := by
  intro c _ _ _ h1 h2 h3
  cases q : isSg c with
  | false => rfl
  | true =>
    unfold isSg at q
    rw [Bool.or_eq_true, Bool.or_eq_true, Nat.beq_eq, Nat.beq_eq, Nat.beq_eq] at q
    omega
theorem tk_sg : ∀ c, c = 59 ∨ c = 123 ∨ c = 125 → isL c = false ∧ isF c = false ∧ isSg c = true ∧ wlook tkA [c] = (if c = 59 then 6 else if c = 123 then 4 else 5) := by
  rintro c (rfl | rfl | rfl) <;> decide +kernel
def wdQ (tb : Nat → Nat) (n p : Nat) (h : mm_H) (r : Option Value) (h1 : mm_H) : Prop := ∃ s v, wdP h r h1 (tkC tb n p) p s v ∧ p + s ≤ n + 1 ∧ (2 ≤ tkC tb n p → p + s = tkT tb n p) ∧ (tkC tb n p = 2 → v = spL (wn tb p (tkT tb n p))) ∧ (tkC tb n p = 3 → v = Int64.ofNat (numN (wn tb p (tkT tb n p)) 0))
theorem tk_K {tb : Nat → Nat} {n p : Nat} (hp : p < n) : (isL (tb p) = true → tkK tb n p = if lx isL tb n p - p ≤ 8 then 2 else 1) ∧ (isL (tb p) = false → isF (tb p) = true → tkK tb n p = if lx isF tb n p - p ≤ 3 then 3 else 1) ∧ (isL (tb p) = false → isF (tb p) = false → isSg (tb p) = true → tkK tb n p = 4) ∧ (isL (tb p) = false → isF (tb p) = false → isSg (tb p) = false → tkK tb n p = 1) := by
  unfold tkK
  rw [if_neg (by omega)]
  refine ⟨fun a => by rw [if_pos a], fun a b => by rw [if_neg (by rw [a]; decide), if_pos b], fun a b c => by rw [if_neg (by rw [a]; decide), if_neg (by rw [b]; decide), if_pos c], fun a b c => by rw [if_neg (by rw [a]; decide), if_neg (by rw [b]; decide), if_neg (by rw [c]; decide)]⟩
theorem wdQ_L {tb : Nat → Nat} {n p : Nat} {h h1 : mm_H} {r : Option Value} (hp : p < n) (hL : isL (tb p) = true) (q : wdP h r h1 (if lx isL tb n p - p ≤ 8 then wlook tkA (wn tb p (lx isL tb n p)) else 1) p (lx isL tb n p - p) (spL (wn tb p (lx isL tb n p)))) : wdQ tb n p h r h1 := by
  have hk := (tk_K hp).1 hL
  have hb := lx_spec (P := isL) (tb := tb) (n := n) (n - p) p rfl (by omega)
  by_cases c : lx isL tb n p - p ≤ 8
  · rw [if_pos c] at hk q
    have hT : tkT tb n p = lx isL tb n p := by unfold tkT; rw [if_pos hk]
    have hC : tkC tb n p = wlook tkA (wn tb p (lx isL tb n p)) := by unfold tkC; rw [if_pos (Or.inl hk), hT]
    refine ⟨_, _, hC ▸ q, by omega, fun _ => by rw [hT]; omega, fun _ => by rw [hT], fun e => ?_⟩
    rw [tkC_3] at e
    omega
  · rw [if_neg c] at hk q
    have hC : tkC tb n p = 1 := tkC_1.mpr hk
    exact ⟨_, _, hC ▸ q, by omega, fun e => by omega, fun e => by omega, fun e => by omega⟩
theorem wdQ_F {tb : Nat → Nat} {n p : Nat} {h h1 : mm_H} {r : Option Value} (hp : p < n) (hL : isL (tb p) = false) (hF : isF (tb p) = true) (q : wdP h r h1 (if lx isF tb n p - p ≤ 3 then 3 else 1) p (lx isF tb n p - p) (Int64.ofNat (numN (wn tb p (lx isF tb n p)) 0))) : wdQ tb n p h r h1 := by
  have hk := (tk_K hp).2.1 hL hF
  have hb := lx_spec (P := isF) (tb := tb) (n := n) (n - p) p rfl (by omega)
  by_cases c : lx isF tb n p - p ≤ 3
  · rw [if_pos c] at hk q
    have hT : tkT tb n p = lx isF tb n p := by unfold tkT; rw [if_neg (by omega), if_pos hk]
    have hC : tkC tb n p = 3 := tkC_3.mpr hk
    exact ⟨_, _, hC ▸ q, by omega, fun _ => by rw [hT]; omega, fun e => by omega, fun _ => by rw [hT]⟩
  · rw [if_neg c] at hk q
    have hC : tkC tb n p = 1 := tkC_1.mpr hk
    exact ⟨_, _, hC ▸ q, by omega, fun e => by omega, fun e => by omega, fun e => by omega⟩
theorem wdQ_S {tb : Nat → Nat} {n p w : Nat} {h h1 : mm_H} {r : Option Value} (hp : p < n) (hs : tb p = 59 ∨ tb p = 123 ∨ tb p = 125) (hw : w = if tb p = 59 then 6 else if tb p = 123 then 4 else 5) (q : wdP h r h1 w p 1 0) : wdQ tb n p h r h1 := by
  obtain ⟨a, b, c, e⟩ := tk_sg _ hs
  have hk := (tk_K hp).2.2.1 a b c
  have hT := tkT_4 hk
  have hC : tkC tb n p = w := by unfold tkC; rw [if_pos (Or.inr hk), hT, wn_1, e, hw]
  have hw4 : 4 ≤ w := by rw [hw]; repeat (first | omega | split)
  exact ⟨_, _, hC.symm ▸ q, by omega, fun _ => hT.symm, fun e => by omega, fun e => by omega⟩
theorem wdQ_N {tb : Nat → Nat} {n p : Nat} {h h1 : mm_H} {r : Option Value} (hp : p < n) (hL : isL (tb p) = false) (hF : isF (tb p) = false) (hS : isSg (tb p) = false) (q : wdP h r h1 1 p 1 0) : wdQ tb n p h r h1 := by
  have hC : tkC tb n p = 1 := tkC_1.mpr ((tk_K hp).2.2.2 hL hF hS)
  exact ⟨_, _, hC.symm ▸ q, by omega, fun e => by omega, fun e => by omega, fun e => by omega⟩
theorem wdQ_E {tb : Nat → Nat} {n p : Nat} {h h1 : mm_H} {r : Option Value} (hp : p = n) (q : wdP h r h1 0 p 0 0) : wdQ tb n p h r h1 := by
  have hC : tkC tb n p = 0 := tkC_0.mpr (by unfold tkK; rw [if_pos (by omega)])
  exact ⟨_, _, hC.symm ▸ q, by omega, fun e => by omega, fun e => by omega, fun e => by omega⟩

theorem ok_X10_wordAt {G : mm_G} {L : Nat × Nat} {d : Nat} {h : mm_H} {ta n p : Nat} {tb : Nat → Nat} (hT : tpc h ta tb) (hl : lt_ G h) (hn : n ≤ 800) (hp : p ≤ n) (hL1 : h.2.1 + 1 ≤ L.1) (hL2 : h.2.2 + 5 ≤ L.2) : mm_Ok G mX10_wordAt L (d + 8) [.ref ta, .int (nI n), .int (nI p)] h (fun r h1 => wdQ tb n p h r h1) := by
  refine mm_Ok.of [(0, .ref ta), (1, .int (nI n)), (2, .int (nI p))] rfl kX10_wordAt.2.2.2.2.2 rfl (fun A => ?_)
  by_cases hpn : p < n
  · refine mm_iload_n (pc := 0) dX10_wordAt_0 rfl ?_
    refine mm_iload_n (pc := 1) dX10_wordAt_1 rfl ?_
    refine mm_icmp_lt (pc := 2) (tgt := 17) dX10_wordAt_2 (by decide) (fun c2 => ?_) (fun c2 => absurd (nI_ltI (by omega) (by omega) |>.mpr hpn) c2)
    refine mm_aload_n (pc := 17) dX10_wordAt_17 rfl (by first | trivial | assumption | exact mm_isr_rf _) ?_
    refine mm_iload_n (pc := 18) dX10_wordAt_18 rfl ?_
    refine mm_bald (pc := 19) (kd := ?kd_19_5) (vs := ?vs_19_5) (v := ?v_19_5) dX10_wordAt_19 ?hc_19_5 ?hk_19_5 ?h0_19_5 ?hv_19_5 ?_; (case hc_19_5 => exact hT.2); (case hk_19_5 => first | rfl | exact hk0); (case h0_19_5 => exact nI_pos (by omega)); (case hv_19_5 => exact hT.v (i := p) (by omega))
    by_cases e59 : tb p = 59
    · have e_ := e59
      refine mm_lsw (pc := 20) (off := 60) (tgt := 80) dX10_wordAt_20 (by decide) (by rw [e_]; decide) (by decide) ?_
      refine mm_new (pc := 80) dX10_wordAt_80 nl_X10_10 (hL1) (hL2) ?_
      refine mm_dup (pc := 83) dX10_wordAt_83 rfl ?_
      refine mm_bipush (pc := 84) (v := 6) dX10_wordAt_84 (by decide) ?_
      refine mm_iload_n (pc := 86) dX10_wordAt_86 rfl ?_
      refine mm_iconst (pc := 87) (v := 1) dX10_wordAt_87 (by decide) ?_
      refine mm_lconst (pc := 88) (v := 0) dX10_wordAt_88 (by decide) ?_
      refine mm_callI (pc := 89) (As := [_, _, _, _]) dX10_wordAt_89 il_X10_37 (ok_X10_init mm_push_eq) rfl rfl (Nat.le_of_ble_eq_true rfl) ?_
      rintro _ _ ⟨rfl, rfl⟩
      refine mm_aret (pc := 92) dX10_wordAt_92 rfl (Or.inl ⟨_, rfl⟩) (by first | trivial | assumption | exact mm_isr_rf _) ?_
      exact wdQ_S hpn (by omega) (by rw [e_]; rfl) ⟨rfl, rfl⟩
    · skip
      by_cases e123 : tb p = 123
      · have e_ := e123
        refine mm_lsw (pc := 20) (off := 36) (tgt := 56) dX10_wordAt_20 (by decide) (by rw [e_]; decide) (by decide) ?_
        refine mm_new (pc := 56) dX10_wordAt_56 nl_X10_10 (hL1) (hL2) ?_
        refine mm_dup (pc := 59) dX10_wordAt_59 rfl ?_
        refine mm_iconst (pc := 60) (v := 4) dX10_wordAt_60 (by decide) ?_
        refine mm_iload_n (pc := 61) dX10_wordAt_61 rfl ?_
        refine mm_iconst (pc := 62) (v := 1) dX10_wordAt_62 (by decide) ?_
        refine mm_lconst (pc := 63) (v := 0) dX10_wordAt_63 (by decide) ?_
        refine mm_callI (pc := 64) (As := [_, _, _, _]) dX10_wordAt_64 il_X10_37 (ok_X10_init mm_push_eq) rfl rfl (Nat.le_of_ble_eq_true rfl) ?_
        rintro _ _ ⟨rfl, rfl⟩
        refine mm_aret (pc := 67) dX10_wordAt_67 rfl (Or.inl ⟨_, rfl⟩) (by first | trivial | assumption | exact mm_isr_rf _) ?_
        exact wdQ_S hpn (by omega) (by rw [e_]; rfl) ⟨rfl, rfl⟩
      · skip
        by_cases e125 : tb p = 125
        · have e_ := e125
          refine mm_lsw (pc := 20) (off := 48) (tgt := 68) dX10_wordAt_20 (by decide) (by rw [e_]; decide) (by decide) ?_
          refine mm_new (pc := 68) dX10_wordAt_68 nl_X10_10 (hL1) (hL2) ?_
          refine mm_dup (pc := 71) dX10_wordAt_71 rfl ?_
          refine mm_iconst (pc := 72) (v := 5) dX10_wordAt_72 (by decide) ?_
          refine mm_iload_n (pc := 73) dX10_wordAt_73 rfl ?_
          refine mm_iconst (pc := 74) (v := 1) dX10_wordAt_74 (by decide) ?_
          refine mm_lconst (pc := 75) (v := 0) dX10_wordAt_75 (by decide) ?_
          refine mm_callI (pc := 76) (As := [_, _, _, _]) dX10_wordAt_76 il_X10_37 (ok_X10_init mm_push_eq) rfl rfl (Nat.le_of_ble_eq_true rfl) ?_
          rintro _ _ ⟨rfl, rfl⟩
          refine mm_aret (pc := 79) dX10_wordAt_79 rfl (Or.inl ⟨_, rfl⟩) (by first | trivial | assumption | exact mm_isr_rf _) ?_
          exact wdQ_S hpn (by omega) (by rw [e_]; rfl) ⟨rfl, rfl⟩
        · skip
          refine mm_lsw (pc := 20) (off := 73) (tgt := 93) dX10_wordAt_20 (by decide) (bt_sw _ (hT.1 p) e59 e123 e125) (by decide) ?_
          refine mm_aload_n (pc := 93) dX10_wordAt_93 rfl (by first | trivial | assumption | exact mm_isr_rf _) ?_
          refine mm_iload_n (pc := 94) dX10_wordAt_94 rfl ?_
          refine mm_bald (pc := 95) (kd := ?kd_95_6) (vs := ?vs_95_6) (v := ?v_95_6) dX10_wordAt_95 ?hc_95_6 ?hk_95_6 ?h0_95_6 ?hv_95_6 ?_; (case hc_95_6 => exact hT.2); (case hk_95_6 => first | rfl | exact hk0); (case h0_95_6 => exact nI_pos (by omega)); (case hv_95_6 => exact hT.v (i := p) (by omega))
          refine mm_callS (pc := 96) (As := [_]) dX10_wordAt_96 sl_X10_40 (ok_X10_isLetter (hT.1 p)) rfl rfl (Nat.le_of_ble_eq_true rfl) ?_
          rintro _ _ ⟨rfl, rfl⟩
          refine mm_if_eq (pc := 99) (tgt := 109) dX10_wordAt_99 (by decide) (fun c99 => ?_) (fun c99 => ?_)
          · refine mm_aload_n (pc := 109) dX10_wordAt_109 rfl (by first | trivial | assumption | exact mm_isr_rf _) ?_
            refine mm_iload_n (pc := 110) dX10_wordAt_110 rfl ?_
            refine mm_bald (pc := 111) (kd := ?kd_111_7) (vs := ?vs_111_7) (v := ?v_111_7) dX10_wordAt_111 ?hc_111_7 ?hk_111_7 ?h0_111_7 ?hv_111_7 ?_; (case hc_111_7 => exact hT.2); (case hk_111_7 => first | rfl | exact hk0); (case h0_111_7 => exact nI_pos (by omega)); (case hv_111_7 => exact hT.v (i := p) (by omega))
            refine mm_callS (pc := 112) (As := [_]) dX10_wordAt_112 sl_X10_47 (ok_X10_isFigure (hT.1 p)) rfl rfl (Nat.le_of_ble_eq_true rfl) ?_
            rintro _ _ ⟨rfl, rfl⟩
            refine mm_if_eq (pc := 115) (tgt := 127) dX10_wordAt_115 (by decide) (fun c115 => ?_) (fun c115 => ?_)
            · refine mm_new (pc := 127) dX10_wordAt_127 nl_X10_10 (hL1) (hL2) ?_
              refine mm_dup (pc := 130) dX10_wordAt_130 rfl ?_
              refine mm_iconst (pc := 131) (v := 1) dX10_wordAt_131 (by decide) ?_
              refine mm_iload_n (pc := 132) dX10_wordAt_132 rfl ?_
              refine mm_iconst (pc := 133) (v := 1) dX10_wordAt_133 (by decide) ?_
              refine mm_lconst (pc := 134) (v := 0) dX10_wordAt_134 (by decide) ?_
              refine mm_callI (pc := 135) (As := [_, _, _, _]) dX10_wordAt_135 il_X10_37 (ok_X10_init mm_push_eq) rfl rfl (Nat.le_of_ble_eq_true rfl) ?_
              rintro _ _ ⟨rfl, rfl⟩
              refine mm_aret (pc := 138) dX10_wordAt_138 rfl (Or.inl ⟨_, rfl⟩) (by first | trivial | assumption | exact mm_isr_rf _) ?_
              exact wdQ_N hpn (bI_eq0.mp c99) (bI_eq0.mp c115) (tk_none _ (hT.1 p) (bI_eq0.mp c99) (bI_eq0.mp c115) e59 e123 e125) ⟨rfl, rfl⟩
            · refine mm_aload_n (pc := 118) dX10_wordAt_118 rfl (by first | trivial | assumption | exact mm_isr_rf _) ?_
              refine mm_iload_n (pc := 119) dX10_wordAt_119 rfl ?_
              refine mm_iload_n (pc := 120) dX10_wordAt_120 rfl ?_
              refine mm_callS (pc := 121) (As := [_, _, _]) dX10_wordAt_121 sl_X10_50 (ok_X10_figuresAt hT hn hp hL1 hL2) rfl rfl (Nat.le_of_ble_eq_true rfl) ?_
              rintro _ _ q121
              rw [q121.1]
              refine mm_goto (pc := 124) (tgt := 138) dX10_wordAt_124 (by decide) ?_
              refine mm_aret (pc := 138) dX10_wordAt_138 rfl (Or.inl ⟨_, rfl⟩) (by first | trivial | assumption | exact mm_isr_rf _) ?_
              have tF : isF (tb p) = true := by
                cases q_ : isF (tb p) with
                | true => rfl
                | false => exact absurd (bI_eq0.mpr q_) c115
              exact wdQ_F hpn (bI_eq0.mp c99) tF (q121.1 ▸ q121)
          · refine mm_aload_n (pc := 102) dX10_wordAt_102 rfl (by first | trivial | assumption | exact mm_isr_rf _) ?_
            refine mm_iload_n (pc := 103) dX10_wordAt_103 rfl ?_
            refine mm_iload_n (pc := 104) dX10_wordAt_104 rfl ?_
            refine mm_callS (pc := 105) (As := [_, _, _]) dX10_wordAt_105 sl_X10_44 (ok_X10_lettersAt hT hl hn hp hL1 hL2) rfl rfl (Nat.le_of_ble_eq_true rfl) ?_
            rintro _ _ q105
            rw [q105.1]
            refine mm_aret (pc := 108) dX10_wordAt_108 rfl (Or.inl ⟨_, rfl⟩) (by first | trivial | assumption | exact mm_isr_rf _) ?_
            have tL : isL (tb p) = true := by
              cases q_ : isL (tb p) with
              | true => rfl
              | false => exact absurd (bI_eq0.mpr q_) c99
            exact wdQ_L hpn tL (q105.1 ▸ q105)
  · have hpn : p = n := by omega
    refine mm_iload_n (pc := 0) dX10_wordAt_0 rfl ?_
    refine mm_iload_n (pc := 1) dX10_wordAt_1 rfl ?_
    refine mm_icmp_lt (pc := 2) (tgt := 17) dX10_wordAt_2 (by decide) (fun c2 => absurd c2 (by subst hpn; exact Int32.lt_irrefl)) (fun c2 => ?_)
    refine mm_new (pc := 5) dX10_wordAt_5 nl_X10_10 (hL1) (hL2) ?_
    refine mm_dup (pc := 8) dX10_wordAt_8 rfl ?_
    refine mm_iconst (pc := 9) (v := 0) dX10_wordAt_9 (by decide) ?_
    refine mm_iload_n (pc := 10) dX10_wordAt_10 rfl ?_
    refine mm_iconst (pc := 11) (v := 0) dX10_wordAt_11 (by decide) ?_
    refine mm_lconst (pc := 12) (v := 0) dX10_wordAt_12 (by decide) ?_
    refine mm_callI (pc := 13) (As := [_, _, _, _]) dX10_wordAt_13 il_X10_37 (ok_X10_init mm_push_eq) rfl rfl (Nat.le_of_ble_eq_true rfl) ?_
    rintro _ _ ⟨rfl, rfl⟩
    refine mm_aret (pc := 16) dX10_wordAt_16 rfl (Or.inl ⟨_, rfl⟩) (by first | trivial | assumption | exact mm_isr_rf _) ?_
    subst hpn
    exact wdQ_E rfl ⟨rfl, rfl⟩

