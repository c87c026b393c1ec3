def dI (j : Nat) : Int32 := nI j - 1
theorem dI_s (j : Nat) : dI (j + 1) = nI j := by unfold dI; rw [← nI_add]; exact Int32.add_sub_cancel ..
theorem dI_d (j : Nat) : nI j + (-1) = dI j := by unfold dI; rw [Int32.sub_eq_add_neg]
/-- which package has this name -/
def hmI (M : mw_S) (np : Nat) (w : Int64) : Int32 := if w = spL [104, 111, 117, 115, 101] then 0 else match klA (M.2.2.2.1 101) w np with
  | some p => M.2.2.1 21 p
  | none => -1
theorem kfA_e {f : Nat → Int64} {w : Int64} : ∀ (v i : Nat), kfA f w (v + 1) i = match kfA f w v i with
  | some r => some r
  | none => if f (i + v) = w then some (i + v) else none := by
  intro v
  induction v with
  | zero => intro i; rfl
  | succ v ih =>
    intro i
    rw [kfA_st]
    by_cases c : f i = w
    · rw [if_pos c, kfA_st, if_pos c]
    · rw [if_neg c, ih (i + 1), kfA_st, if_neg c, show i + 1 + v = i + (v + 1) by omega]
theorem kfi_s {f : Nat → Int64} {w : Int64} {n : Nat} : kfi f w (n + 1) = match kfi f w n with
  | some r => some r
  | none => if f n = w then some n else none := by
  unfold kfi
  rw [kfA_e n 0, Nat.zero_add]
theorem kfi_mono {f : Nat → Int64} {w : Int64} {n r : Nat} (h : kfi f w n = some r) : ∀ m, n ≤ m → kfi f w m = some r := by
  intro m hm
  induction m with
  | zero => rw [show n = 0 by omega] at h; exact h
  | succ m ih =>
    by_cases e : n = m + 1
    · rw [← e]; exact h
    · rw [kfi_s, ih (by omega)]

theorem hn_loop {G : mm_G} {L : Nat × Nat} {d : Nat} {h h0 : mm_H} {A : Nat → Prop} {ad : Nat → Nat → Nat} {C : cw_C} {M : mw_S} {nk np : Nat} {w : Int64} (hR : rgR ad C M nk np) (hw : ¬ w = spL [104, 111, 117, 115, 101]) (hC : cw ad h0 C h) : ∀ (j : Nat), j ≤ np → klA (M.2.2.2.1 101) w np = klA (M.2.2.2.1 101) w j → mm_Run G mX7_homeNamed A L d 27 [(0, .ref (ad 7 0)), (1, .long w), (3, .int (dI j))] [] h (fun r h1 => h1 = h ∧ r = some (.int (hmI M np w))) := by
  obtain ⟨⟨n7, n18, n19, h4, h5⟩, ⟨hk40, hp12⟩, r0, r1, r2, r3, r4, hK, hP⟩ := hR
  intro j
  induction j with
  | zero =>
    intro hj hz
    refine mm_iload_n (pc := 27) dX7_homeNamed_27 rfl ?_
    refine mm_if_lt (pc := 28) (tgt := 61) dX7_homeNamed_28 (by decide) (fun c28 => ?_) (fun c28 => absurd (show dI 0 < 0 by decide) c28)
    refine mm_iconst (pc := 61) (v := (-1)) dX7_homeNamed_61 (by decide) ?_
    refine mm_iret (pc := 62) dX7_homeNamed_62 rfl ?_
    exact ⟨rfl, by unfold hmI; rw [if_neg hw, hz]; rfl⟩
  | succ j ih =>
    intro hj hz
    refine mm_iload_n (pc := 27) dX7_homeNamed_27 rfl ?_
    refine mm_topi _ (dI_s j) ?_
    refine mm_if_lt (pc := 28) (tgt := 61) dX7_homeNamed_28 (by decide) (fun c28 => absurd c28 (nI_pos (by omega))) (fun c28 => ?_)
    refine mm_aload_n (pc := 31) dX7_homeNamed_31 rfl (by first | trivial | assumption | exact mm_isr_rf _) ?_
    refine cw_grS (pc := 32) 7 _ 2 hC (rfl) rfl (n7) dX7_homeNamed_32 fl_X7_23 rfl rfl rfl (r2) ?_
    refine mm_iload_n (pc := 35) dX7_homeNamed_35 rfl ?_
    refine mm_topi _ (dI_s j) ?_
    refine cw_aald (pc := 36) (v := (.ref (ad 5 j))) 19 0 j hC (rfl) rfl (n19) dX7_homeNamed_36 rfl rfl rfl (by first | with_reducible rfl | assumption | rfl) (by show j < 12; omega) (by omega) rfl (by rw [(hP j (by omega)).1]; rfl) ?_
    refine cw_gl (pc := 37) 5 j 0 hC (rfl) rfl ((by omega)) dX7_homeNamed_37 fl_X7_49 rfl rfl rfl ?_
    refine mm_lload_n (pc := 40) dX7_homeNamed_40 rfl ?_
    refine mm_lcmp (pc := 41) dX7_homeNamed_41 ?_
    refine mm_if_ne (pc := 42) (tgt := 55) dX7_homeNamed_42 (by decide) (fun c42 => ?_) (fun c42 => ?_)
    · have hne : ¬ M.2.2.2.1 101 j = w := fun z => c42 (lc0.mpr ((hP j (by omega)).2.1.trans z))
      refine mm_iinc (pc := 55) dX7_homeNamed_55 rfl rfl rfl (Nat.le_of_ble_eq_true rfl) ?_
      refine mm_goto (pc := 58) (tgt := 27) dX7_homeNamed_58 (by decide) ?_
      exact mm_weakK (ih (by omega) (by rw [hz]; exact if_neg hne)) (And.intro rfl (And.intro rfl (And.intro (congrArg (fun z => some (Value.int z)) ((congrArg (fun z => z + (-1)) (dI_s j)).trans (dI_d j))) trivial)))
    · have he : M.2.2.2.1 101 j = w := by rw [← (hP j (by omega)).2.1]; exact lc0.mp c42
      refine mm_aload_n (pc := 45) dX7_homeNamed_45 rfl (by first | trivial | assumption | exact mm_isr_rf _) ?_
      refine cw_grS (pc := 46) 7 _ 2 hC (rfl) rfl (n7) dX7_homeNamed_46 fl_X7_23 rfl rfl rfl (r2) ?_
      refine mm_iload_n (pc := 49) dX7_homeNamed_49 rfl ?_
      refine mm_topi _ (dI_s j) ?_
      refine cw_aald (pc := 50) (v := (.ref (ad 5 j))) 19 0 j hC (rfl) rfl (n19) dX7_homeNamed_50 rfl rfl rfl (by first | with_reducible rfl | assumption | rfl) (by show j < 12; omega) (by omega) rfl (by rw [(hP j (by omega)).1]; rfl) ?_
      refine cw_gi (pc := 51) 5 j 4 hC (rfl) rfl ((by omega)) dX7_homeNamed_51 fl_X7_50 rfl rfl rfl ?_
      refine mm_iret (pc := 54) dX7_homeNamed_54 rfl ?_
      exact ⟨rfl, by rw [(hP j (by omega)).2.2.1]; unfold hmI; rw [if_neg hw, hz, show klA (M.2.2.2.1 101) w (j + 1) = some j from if_pos he]⟩

theorem min_np {np : Nat} (h : np ≤ 12) : (if nI 12 < nI np then nI 12 else nI np) = nI np := if_neg (fun z => absurd ((nI_ltI (by decide) (by omega)).mp z) (by omega))
theorem hn_ok {G : mm_G} {L : Nat × Nat} {d : Nat} {h : mm_H} {h0 : mm_H} {ad : Nat → Nat → Nat} {C : cw_C} {M : mw_S} {nk np : Nat} {w : Int64} (hR : rgR ad C M nk np) (hlt : lt_ G h0) (hC : cw ad h0 C h) : mm_Ok G mX7_homeNamed L (d + 5) [.ref (ad 7 0), .long w] h (fun r h1 => h1 = h ∧ r = some (.int (hmI M np w))) := by
  refine mm_Ok.of [(0, .ref (ad 7 0)), (1, .long w)] rfl kX7_homeNamed.2.2.2.2.2 rfl (fun A => ?_)
  have hR_ := hR
  obtain ⟨⟨n7, n18, n19, h4, h5⟩, ⟨hk40, hp12⟩, r0, r1, r2, r3, r4, hK, hP⟩ := hR_
  refine mm_lload_n (pc := 0) dX7_homeNamed_0 rfl ?_
  refine mm_ldcS (pc := 1) (i := 6) dX7_homeNamed_1 rfl ?_
  refine mm_callSN (pc := 3) (As := [_]) dX7_homeNamed_3 snl_X7_39 (sp_ok (d := d) (cs := [104, 111, 117, 115, 101]) ((lt_.of hlt hC).t (i := 6) rfl) (show ltr [104, 111, 117, 115, 101] by unfold ltr; decide)) rfl rfl (Nat.le_of_ble_eq_true rfl) ?_
  rintro _ _ ⟨rfl, rfl⟩
  refine mm_lcmp (pc := 6) dX7_homeNamed_6 ?_
  refine mm_if_ne (pc := 7) (tgt := 12) dX7_homeNamed_7 (by decide) (fun c7 => ?_) (fun c7 => ?_)
  · have hw : ¬ w = spL [104, 111, 117, 115, 101] := fun z => c7 (lc0.mpr z)
    refine mm_aload_n (pc := 12) dX7_homeNamed_12 rfl (by first | trivial | assumption | exact mm_isr_rf _) ?_
    refine cw_gi (pc := 13) 7 _ 3 hC (rfl) rfl (n7) dX7_homeNamed_13 fl_X7_27 rfl rfl rfl ?_
    refine mm_topi _ r3 ?_
    refine mm_aload_n (pc := 16) dX7_homeNamed_16 rfl (by first | trivial | assumption | exact mm_isr_rf _) ?_
    refine cw_grS (pc := 17) 7 _ 2 hC (rfl) rfl (n7) dX7_homeNamed_17 fl_X7_23 rfl rfl rfl (r2) ?_
    refine cw_alen (pc := 20) 19 _ hC (rfl) rfl (n19) dX7_homeNamed_20 rfl rfl ?_
    refine mm_mmin (pc := 21) dX7_homeNamed_21 ml_X7_43 mt_min_s mt_i mt_min_c (Nat.le_of_ble_eq_true rfl) ?_
    refine mm_topi _ (min_np hp12) ?_
    refine mm_iconst (pc := 24) (v := 1) dX7_homeNamed_24 (by decide) ?_
    refine mm_isub (pc := 25) dX7_homeNamed_25 ?_
    refine mm_istore_n (pc := 26) dX7_homeNamed_26 rfl (Nat.le_of_ble_eq_true rfl) ?_
    exact mm_weakK (hn_loop hR hw hC np (Nat.le_refl _) rfl) (And.intro rfl (And.intro rfl (And.intro rfl trivial)))
  · have hw : w = spL [104, 111, 117, 115, 101] := lc0.mp c7
    refine mm_iconst (pc := 10) (v := 0) dX7_homeNamed_10 (by decide) ?_
    refine mm_iret (pc := 11) dX7_homeNamed_11 rfl ?_
    exact ⟨rfl, by unfold hmI; rw [if_pos hw]⟩

theorem ckn_loop {G : mm_G} {L : Nat × Nat} {d : Nat} {h h0 : mm_H} {A : Nat → Prop} {ad : Nat → Nat → Nat} {C : cw_C} {M : mw_S} {nk np nn a : Nat} {w : Int64} (hR : rgR ad C M nk np) (hD : pkD ad C np nn) (hA : ∀ i, i < nn → cR C 20 np i = some (ad 4 (nk + i))) (hnm : ∀ i, i < nk + nn → i < cN C 4 ∧ cL C 4 i 0 = M.2.2.2.1 100 i) (hnn : nn ≤ 10) (n2 : 0 < cN C 2) (h22 : cR C 2 0 2 = some (ad 7 0)) (h23 : cR C 2 0 3 = some (ad 5 np)) (hC : cw ad h0 C h) (ha : a ≤ nn) : ∀ (v i : Nat) (c : Option Nat), i + v = a → kfi (M.2.2.2.1 100) w (nk + i) = c → mm_Run G mX2_kindNamed A L d 13 [(0, .ref (ad 2 0)), (1, .long w), (3, .int (nI a)), (4, va_rf (c.map (ad 4))), (5, .int (nI i))] [] h (fun r h1 => h1 = h ∧ r = some (va_rf ((kfi (M.2.2.2.1 100) w (nk + a)).map (ad 4)))) := by
  have hk40 := hR.2.1.1
  intro v
  induction v using Nat.strongRecOn with
  | _ v ih =>
    intro i c hv hz
    cases c with
    | none =>
      refine mm_iload (pc := 13) dX2_kindNamed_13 rfl ?_
      refine mm_iload_n (pc := 15) dX2_kindNamed_15 rfl ?_
      refine mm_icmp_ge (pc := 16) (tgt := 73) dX2_kindNamed_16 (by decide) (fun c16 => ?_) (fun c16 => ?_)
      · have hi : i = a := by have := (nI_leI (by omega) (by omega)).mp c16; omega
        refine mm_aload (pc := 73) dX2_kindNamed_73 rfl (by first | trivial | assumption | exact mm_isr_rf _) ?_
        refine mm_aret (pc := 75) dX2_kindNamed_75 rfl (Or.inl ⟨_, rfl⟩) (by first | trivial | assumption | exact mm_isr_rf _) ?_
        exact ⟨rfl, by rw [← hi, hz]⟩
      · have hi : i < a := Nat.not_le.mp (fun z => c16 (nI_le z (by omega)))
        refine mm_iload (pc := 19) dX2_kindNamed_19 rfl ?_
        refine mm_aload_n (pc := 21) dX2_kindNamed_21 rfl (by first | trivial | assumption | exact mm_isr_rf _) ?_
        refine cw_grS (pc := 22) 2 _ 3 hC (rfl) rfl (n2) dX2_kindNamed_22 fl_X2_22 rfl rfl rfl (h23) ?_
        refine cw_grS (pc := 25) 5 np 6 hC (rfl) rfl (hD.1) dX2_kindNamed_25 fl_X2_58 rfl rfl rfl (hD.2.2.1) ?_
        refine cw_alen (pc := 28) 20 _ hC (rfl) rfl (hD.2.1) dX2_kindNamed_28 rfl rfl ?_
        refine mm_icmp_ge (pc := 29) (tgt := 73) dX2_kindNamed_29 (by decide) (fun c29 => absurd c29 (nI_ge (b := (10 : Nat)) (by omega) (by decide))) (fun c29 => ?_)
        refine mm_aload (pc := 32) dX2_kindNamed_32 rfl (by first | trivial | assumption | exact mm_isr_rf _) ?_
        refine mm_ifnonnull (pc := 34) (tgt := 73) dX2_kindNamed_34 (by decide) (by first | trivial | assumption | exact mm_isr_rf _) (fun a34 c34 => by cases c34) (fun c34 => ?_)
        refine mm_aload_n (pc := 37) dX2_kindNamed_37 rfl (by first | trivial | assumption | exact mm_isr_rf _) ?_
        refine cw_grS (pc := 38) 2 _ 3 hC (rfl) rfl (n2) dX2_kindNamed_38 fl_X2_22 rfl rfl rfl (h23) ?_
        refine cw_grS (pc := 41) 5 np 6 hC (rfl) rfl (hD.1) dX2_kindNamed_41 fl_X2_58 rfl rfl rfl (hD.2.2.1) ?_
        refine mm_iload (pc := 44) dX2_kindNamed_44 rfl ?_
        refine cw_aald (pc := 46) (v := (.ref (ad 4 (nk + i)))) 20 np i hC (rfl) rfl (hD.2.1) dX2_kindNamed_46 rfl rfl rfl (by first | with_reducible rfl | assumption | rfl) (by show i < 10; omega) (by omega) rfl (by rw [hA i (by omega)]; rfl) ?_
        refine cw_gl (pc := 47) 4 (nk + i) 0 hC (rfl) rfl ((hnm (nk + i) (by omega)).1) dX2_kindNamed_47 fl_X2_66 rfl rfl rfl ?_
        refine mm_lload_n (pc := 50) dX2_kindNamed_50 rfl ?_
        refine mm_lcmp (pc := 51) dX2_kindNamed_51 ?_
        refine mm_if_ne (pc := 52) (tgt := 67) dX2_kindNamed_52 (by decide) (fun c52 => ?_) (fun c52 => ?_)
        · have hne : ¬ M.2.2.2.1 100 (nk + i) = w := fun z => c52 (lc0.mpr ((hnm (nk + i) (by omega)).2.trans z))
          refine mm_iinc (pc := 67) dX2_kindNamed_67 rfl rfl rfl (Nat.le_of_ble_eq_true rfl) ?_
          refine mm_goto (pc := 70) (tgt := 13) dX2_kindNamed_70 (by decide) ?_
          obtain ⟨v, rfl⟩ : ∃ x, v = x + 1 := ⟨v - 1, by omega⟩
          exact mm_weakK (ih v (by omega) (i + 1) none (by omega) (by rw [show nk + (i + 1) = nk + i + 1 by omega, kfi_s, hz]; exact if_neg hne)) (And.intro rfl (And.intro rfl (And.intro rfl (And.intro rfl (And.intro (congrArg (fun z => some (Value.int z)) (nI_add i 1)) trivial)))))
        · have he : M.2.2.2.1 100 (nk + i) = w := by rw [← (hnm (nk + i) (by omega)).2]; exact lc0.mp c52
          refine mm_aload_n (pc := 55) dX2_kindNamed_55 rfl (by first | trivial | assumption | exact mm_isr_rf _) ?_
          refine cw_grS (pc := 56) 2 _ 3 hC (rfl) rfl (n2) dX2_kindNamed_56 fl_X2_22 rfl rfl rfl (h23) ?_
          refine cw_grS (pc := 59) 5 np 6 hC (rfl) rfl (hD.1) dX2_kindNamed_59 fl_X2_58 rfl rfl rfl (hD.2.2.1) ?_
          refine mm_iload (pc := 62) dX2_kindNamed_62 rfl ?_
          refine cw_aald (pc := 64) (v := (.ref (ad 4 (nk + i)))) 20 np i hC (rfl) rfl (hD.2.1) dX2_kindNamed_64 rfl rfl rfl (by first | with_reducible rfl | assumption | rfl) (by show i < 10; omega) (by omega) rfl (by rw [hA i (by omega)]; rfl) ?_
          refine mm_astore (pc := 65) dX2_kindNamed_65 (by first | trivial | assumption | exact mm_isr_rf _) rfl (Nat.le_of_ble_eq_true rfl) ?_
          refine mm_iinc (pc := 67) dX2_kindNamed_67 rfl rfl rfl (Nat.le_of_ble_eq_true rfl) ?_
          refine mm_goto (pc := 70) (tgt := 13) dX2_kindNamed_70 (by decide) ?_
          obtain ⟨v, rfl⟩ : ∃ x, v = x + 1 := ⟨v - 1, by omega⟩
          exact mm_weakK (ih v (by omega) (i + 1) (some (nk + i)) (by omega) (by rw [show nk + (i + 1) = nk + i + 1 by omega, kfi_s, hz]; exact if_pos he)) (And.intro rfl (And.intro rfl (And.intro rfl (And.intro rfl (And.intro (congrArg (fun z => some (Value.int z)) (nI_add i 1)) trivial)))))
    | some x =>
      refine mm_iload (pc := 13) dX2_kindNamed_13 rfl ?_
      refine mm_iload_n (pc := 15) dX2_kindNamed_15 rfl ?_
      refine mm_icmp_ge (pc := 16) (tgt := 73) dX2_kindNamed_16 (by decide) (fun c16 => ?_) (fun c16 => ?_)
      · have hi : i = a := by have := (nI_leI (by omega) (by omega)).mp c16; omega
        refine mm_aload (pc := 73) dX2_kindNamed_73 rfl (by first | trivial | assumption | exact mm_isr_rf _) ?_
        refine mm_aret (pc := 75) dX2_kindNamed_75 rfl (Or.inl ⟨_, rfl⟩) (by first | trivial | assumption | exact mm_isr_rf _) ?_
        exact ⟨rfl, by rw [kfi_mono hz (nk + a) (by omega)]⟩
      · have hi : i < a := Nat.not_le.mp (fun z => c16 (nI_le z (by omega)))
        refine mm_iload (pc := 19) dX2_kindNamed_19 rfl ?_
        refine mm_aload_n (pc := 21) dX2_kindNamed_21 rfl (by first | trivial | assumption | exact mm_isr_rf _) ?_
        refine cw_grS (pc := 22) 2 _ 3 hC (rfl) rfl (n2) dX2_kindNamed_22 fl_X2_22 rfl rfl rfl (h23) ?_
        refine cw_grS (pc := 25) 5 np 6 hC (rfl) rfl (hD.1) dX2_kindNamed_25 fl_X2_58 rfl rfl rfl (hD.2.2.1) ?_
        refine cw_alen (pc := 28) 20 _ hC (rfl) rfl (hD.2.1) dX2_kindNamed_28 rfl rfl ?_
        refine mm_icmp_ge (pc := 29) (tgt := 73) dX2_kindNamed_29 (by decide) (fun c29 => absurd c29 (nI_ge (b := (10 : Nat)) (by omega) (by decide))) (fun c29 => ?_)
        refine mm_aload (pc := 32) dX2_kindNamed_32 rfl (by first | trivial | assumption | exact mm_isr_rf _) ?_
        refine mm_ifnonnull (pc := 34) (tgt := 73) dX2_kindNamed_34 (by decide) (by first | trivial | assumption | exact mm_isr_rf _) (fun a34 c34 => ?_) (fun c34 => by cases c34)
        refine mm_aload (pc := 73) dX2_kindNamed_73 rfl (by first | trivial | assumption | exact mm_isr_rf _) ?_
        refine mm_aret (pc := 75) dX2_kindNamed_75 rfl (Or.inl ⟨_, rfl⟩) (by first | trivial | assumption | exact mm_isr_rf _) ?_
        exact ⟨rfl, by rw [kfi_mono hz (nk + a) (by omega)]⟩

theorem ckn_ok {G : mm_G} {L : Nat × Nat} {d : Nat} {h : mm_H} {h0 : mm_H} {ad : Nat → Nat → Nat} {C : cw_C} {M : mw_S} {nk np nn a : Nat} {w : Int64} (hR : rgR ad C M nk np) (hD : pkD ad C np nn) (hA : ∀ i, i < nn → cR C 20 np i = some (ad 4 (nk + i))) (hnm : ∀ i, i < nk + nn → i < cN C 4 ∧ cL C 4 i 0 = M.2.2.2.1 100 i) (hnn : nn ≤ 10) (n2 : 0 < cN C 2) (h22 : cR C 2 0 2 = some (ad 7 0)) (h23 : cR C 2 0 3 = some (ad 5 np)) (hC : cw ad h0 C h) (ha : a ≤ nn) : mm_Ok G mX2_kindNamed L (d + 1) [.ref (ad 2 0), .long w, .int (nI a)] h (fun r h1 => h1 = h ∧ r = some (va_rf ((kfi (M.2.2.2.1 100) w (nk + a)).map (ad 4)))) := by
  refine mm_Ok.of [(0, .ref (ad 2 0)), (1, .long w), (3, .int (nI a))] rfl kX2_kindNamed.2.2.2.2.2 rfl (fun A => ?_)
  refine mm_aload_n (pc := 0) dX2_kindNamed_0 rfl (by first | trivial | assumption | exact mm_isr_rf _) ?_
  refine cw_grS (pc := 1) 2 _ 2 hC (rfl) rfl (n2) dX2_kindNamed_1 fl_X2_18 rfl rfl rfl (h22) ?_
  refine mm_lload_n (pc := 4) dX2_kindNamed_4 rfl ?_
  refine mm_callV (pc := 5) (As := [_]) (kd := ?kd_5_1) (fs := ?fs_5_1) dX2_kindNamed_5 vl_X2_113 (kn_ok hR hC) ?hc_5_1 ?hk_5_1 rfl rfl (Nat.le_of_ble_eq_true rfl) ?_; (case hc_5_1 => exact cw_cell (f := 7) hC rfl rfl hR.1.1); (case hk_5_1 => rfl)
  rintro _ _ ⟨rfl, rfl⟩
  refine mm_astore (pc := 8) dX2_kindNamed_8 (by first | trivial | assumption | exact mm_isr_rf _) rfl (Nat.le_of_ble_eq_true rfl) ?_
  refine mm_iconst (pc := 10) (v := 0) dX2_kindNamed_10 (by decide) ?_
  refine mm_istore (pc := 11) dX2_kindNamed_11 (by cases kfi (M.2.2.2.1 100) w nk <;> rfl) (Nat.le_of_ble_eq_true rfl) ?_
  exact mm_weakK (ckn_loop hR hD hA hnm hnn n2 h22 h23 hC ha a 0 _ (by omega) rfl) (And.intro rfl (And.intro rfl (And.intro rfl (And.intro rfl (And.intro rfl trivial)))))

