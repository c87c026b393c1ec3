/-! all -/
def prt (p wi wo hi : Int32) : Int32 := if p = 0 then wi else if p = 1 then wo else hi
def lgP (ad : Nat → Nat → Nat) (h0 : mm_H) (C : cw_C) (h : mm_H) (s : Int64 × Nat) (r : Option Value) (h1 : mm_H) : Prop := r = some (.long s.1) ∧ cw ad h0 (cAns C s.2) h1 ∧ h1.2 = h.2
theorem lgP.aft {h0 h h1 : mm_H} {ad : Nat → Nat → Nat} {C : cw_C} {M : mw_S} {ab : Nat → Option Nat} {nk np na ne nb nt : Nat} {H : hS} {s : Int64 × Nat} {r : Option Value} {n1 n2 : Nat} (g : lgP ad h0 C h s r h1) (R : rsR ad C M ab nk np na ne nb nt H) (hs : s.2 ≤ 4) : aft ad h n1 n2 ab nk np (.long s.1) (rm_ans M s.2) r h1 :=
  ⟨g.1, h0, ad, _, na, ne, nb, nt, H, g.2.1, R.ans hs, rfl, by rw [g.2.2]; exact Nat.le_add_right _ _, by rw [g.2.2]; exact Nat.le_add_right _ _⟩
theorem ctr_0 {y wi wo hi : Int32} : ctr y wi wo hi 0 = if y = 1 then (prt 0 wi wo hi).toInt64 else 0 := by
  unfold ctr prt
  by_cases a : y = 1
  · simp [a]
  · by_cases b : y = 0 <;> simp [a, b]
theorem ctr_1 {y wi wo hi : Int32} : ctr y wi wo hi 1 = if y = 0 then (prt 0 wi wo hi).toInt64 else 0 := by
  unfold ctr prt
  by_cases a : y = 1
  · simp [a]
  · by_cases b : y = 0 <;> simp [a, b]
theorem ctr_2 {y wi wo hi : Int32} : ctr y wi wo hi 2 = if y = 0 then (prt 1 wi wo hi).toInt64 else 0 := by
  unfold ctr prt
  by_cases a : y = 1
  · simp [a]
  · by_cases b : y = 0 <;> simp [a, b]
theorem ctr_3 {y wi wo hi : Int32} : ctr y wi wo hi 3 = if y = 1 then (prt 2 wi wo hi).toInt64 else 0 := by
  unfold ctr prt
  by_cases a : y = 1
  · simp [a]
  · by_cases b : y = 0 <;> simp [a, b]
theorem ctr_4 {y wi wo hi : Int32} : ctr y wi wo hi 4 = if y = 0 then (prt 2 wi wo hi).toInt64 else 0 := by
  unfold ctr prt
  by_cases a : y = 1
  · simp [a]
  · by_cases b : y = 0 <;> simp [a, b]

theorem sv_l0 {G : mm_G} {L : Nat × Nat} {d : Nat} {A : Nat → Prop} {h h0 : mm_H} {ad : Nat → Nat → Nat} {C : cw_C} {M : mw_S} {nk na : Nat} (hv : vsR ad C M nk na) (hC : cw ad h0 C h) : ∀ (v t : Nat), t + v = na → mm_Run G mX11_sumOfVessels A L d 5 [(4, .int (nI t)), (2, .long (sp_sumTo (M.2.2.1 51) t)), (1, .int 0), (0, .ref (ad 11 0))] [] h (fun r h1 => h1 = h ∧ r = some (.long (sp_sumTo (M.2.2.1 51) na))) := by
  obtain ⟨⟨n11, n16, n9⟩, hn20, v0, v1, s48, hV⟩ := id hv
  intro v
  induction v with
  | zero =>
    intro t hv
    refine mm_iload (pc := 5) dX11_sumOfVessels_5 rfl ?_
    refine mm_aload_n (pc := 7) dX11_sumOfVessels_7 rfl (by first | trivial | assumption | exact mm_isr_rf _) ?_
    refine cw_gi (pc := 8) 11 _ 5 hC (rfl) rfl (n11) dX11_sumOfVessels_8 fl_X11_33 rfl rfl rfl ?_
    refine mm_topi _ v1 ?_
    refine mm_icmp_ge (pc := 11) (tgt := 62) dX11_sumOfVessels_11 (by decide) (fun c11 => ?_) (fun c11 => absurd ((nI_leI (by omega) (by omega)).mpr (by omega)) c11)
    refine mm_lload_n (pc := 62) dX11_sumOfVessels_62 rfl ?_
    refine mm_lret (pc := 63) dX11_sumOfVessels_63 rfl ?_
    rw [show t = na by omega]
    exact ⟨rfl, rfl⟩
  | succ v ih =>
    intro t hv
    have ht : t < na := by omega
    refine mm_iload (pc := 5) dX11_sumOfVessels_5 rfl ?_
    refine mm_aload_n (pc := 7) dX11_sumOfVessels_7 rfl (by first | trivial | assumption | exact mm_isr_rf _) ?_
    refine cw_gi (pc := 8) 11 _ 5 hC (rfl) rfl (n11) dX11_sumOfVessels_8 fl_X11_33 rfl rfl rfl ?_
    refine mm_topi _ v1 ?_
    refine mm_icmp_ge (pc := 11) (tgt := 62) dX11_sumOfVessels_11 (by decide) (fun c11 => absurd c11 (nI_ge ht (by omega))) (fun c11 => ?_)
    refine mm_iload (pc := 14) dX11_sumOfVessels_14 rfl ?_
    refine mm_aload_n (pc := 16) dX11_sumOfVessels_16 rfl (by first | trivial | assumption | exact mm_isr_rf _) ?_
    refine cw_grS (pc := 17) 11 _ 4 hC (rfl) rfl (n11) dX11_sumOfVessels_17 fl_X11_29 rfl rfl rfl (v0) ?_
    refine cw_alen (pc := 20) 16 _ hC (rfl) rfl (n16) dX11_sumOfVessels_20 rfl rfl ?_
    refine mm_icmp_ge (pc := 21) (tgt := 62) dX11_sumOfVessels_21 (by decide) (fun c21 => absurd c21 (nI_ge (b := (20 : Nat)) (by omega) (by decide))) (fun c21 => ?_)
    refine mm_lload_n (pc := 24) dX11_sumOfVessels_24 rfl ?_
    refine mm_iload_n (pc := 25) dX11_sumOfVessels_25 rfl ?_
    refine mm_if_eq (pc := 26) (tgt := 43) dX11_sumOfVessels_26 (by decide) (fun c26 => ?_) (fun c26 => absurd rfl c26)
    refine mm_aload_n (pc := 43) dX11_sumOfVessels_43 rfl (by first | trivial | assumption | exact mm_isr_rf _) ?_
    refine cw_grS (pc := 44) 11 _ 4 hC (rfl) rfl (n11) dX11_sumOfVessels_44 fl_X11_29 rfl rfl rfl (v0) ?_
    refine mm_iload (pc := 47) dX11_sumOfVessels_47 rfl ?_
    refine cw_aald (pc := 49) (v := (.ref (ad 9 t))) 16 0 t hC (rfl) rfl (n16) dX11_sumOfVessels_49 rfl rfl rfl (by first | with_reducible rfl | assumption | rfl) (by show t < 20; omega) (by omega) rfl (by rw [(hV t ht).1]; rfl) ?_
    refine cw_gi (pc := 50) 9 t 3 hC (rfl) rfl ((by omega)) dX11_sumOfVessels_50 fl_X11_208 rfl rfl rfl ?_
    refine mm_topi _ (hV t ht).2.2.2.2.1 ?_
    refine mm_i2l (pc := 53) dX11_sumOfVessels_53 ?_
    refine mm_ladd (pc := 54) dX11_sumOfVessels_54 ?_
    refine mm_lstore_n (pc := 55) dX11_sumOfVessels_55 rfl rfl (Nat.le_of_ble_eq_true rfl) ?_
    refine mm_iinc (pc := 56) dX11_sumOfVessels_56 rfl rfl rfl (Nat.le_of_ble_eq_true rfl) ?_
    refine mm_goto (pc := 59) (tgt := 5) dX11_sumOfVessels_59 (by decide) ?_
    exact mm_weakK (ih (t + 1) (by omega)) (And.intro (congrArg some (congrArg Value.int nI_p1)) (And.intro rfl (And.intro rfl (And.intro rfl trivial))))

theorem sv_0 {G : mm_G} {L : Nat × Nat} {d : Nat} {h : mm_H} {h0 : mm_H} {ad : Nat → Nat → Nat} {C : cw_C} {M : mw_S} {nk na : Nat} (hv : vsR ad C M nk na) (hC : cw ad h0 C h) : mm_Ok G mX11_sumOfVessels L (d) [.ref (ad 11 0), .int 0] h (fun r h1 => h1 = h ∧ r = some (.long (sp_sumTo (M.2.2.1 51) na))) := by
  refine mm_Ok.of [(0, .ref (ad 11 0)), (1, .int 0)] rfl kX11_sumOfVessels.2.2.2.2.2 rfl (fun A => ?_)
  refine mm_lconst (pc := 0) (v := 0) dX11_sumOfVessels_0 (by decide) ?_
  refine mm_lstore_n (pc := 1) dX11_sumOfVessels_1 rfl rfl (Nat.le_of_ble_eq_true rfl) ?_
  refine mm_iconst (pc := 2) (v := 0) dX11_sumOfVessels_2 (by decide) ?_
  refine mm_istore (pc := 3) dX11_sumOfVessels_3 rfl (Nat.le_of_ble_eq_true rfl) ?_
  exact mm_weakK (sv_l0 hv hC na 0 (by omega)) (And.intro rfl (And.intro rfl (And.intro rfl (And.intro rfl trivial))))

theorem sv_l1 {G : mm_G} {L : Nat × Nat} {d : Nat} {A : Nat → Prop} {h h0 : mm_H} {ad : Nat → Nat → Nat} {C : cw_C} {M : mw_S} {nk na : Nat} (hv : vsR ad C M nk na) (hC : cw ad h0 C h) : ∀ (v t : Nat), t + v = na → mm_Run G mX11_sumOfVessels A L d 5 [(4, .int (nI t)), (2, .long (sp_sumTo (M.2.2.1 52) t)), (1, .int 1), (0, .ref (ad 11 0))] [] h (fun r h1 => h1 = h ∧ r = some (.long (sp_sumTo (M.2.2.1 52) na))) := by
  obtain ⟨⟨n11, n16, n9⟩, hn20, v0, v1, s48, hV⟩ := id hv
  intro v
  induction v with
  | zero =>
    intro t hv
    refine mm_iload (pc := 5) dX11_sumOfVessels_5 rfl ?_
    refine mm_aload_n (pc := 7) dX11_sumOfVessels_7 rfl (by first | trivial | assumption | exact mm_isr_rf _) ?_
    refine cw_gi (pc := 8) 11 _ 5 hC (rfl) rfl (n11) dX11_sumOfVessels_8 fl_X11_33 rfl rfl rfl ?_
    refine mm_topi _ v1 ?_
    refine mm_icmp_ge (pc := 11) (tgt := 62) dX11_sumOfVessels_11 (by decide) (fun c11 => ?_) (fun c11 => absurd ((nI_leI (by omega) (by omega)).mpr (by omega)) c11)
    refine mm_lload_n (pc := 62) dX11_sumOfVessels_62 rfl ?_
    refine mm_lret (pc := 63) dX11_sumOfVessels_63 rfl ?_
    rw [show t = na by omega]
    exact ⟨rfl, rfl⟩
  | succ v ih =>
    intro t hv
    have ht : t < na := by omega
    refine mm_iload (pc := 5) dX11_sumOfVessels_5 rfl ?_
    refine mm_aload_n (pc := 7) dX11_sumOfVessels_7 rfl (by first | trivial | assumption | exact mm_isr_rf _) ?_
    refine cw_gi (pc := 8) 11 _ 5 hC (rfl) rfl (n11) dX11_sumOfVessels_8 fl_X11_33 rfl rfl rfl ?_
    refine mm_topi _ v1 ?_
    refine mm_icmp_ge (pc := 11) (tgt := 62) dX11_sumOfVessels_11 (by decide) (fun c11 => absurd c11 (nI_ge ht (by omega))) (fun c11 => ?_)
    refine mm_iload (pc := 14) dX11_sumOfVessels_14 rfl ?_
    refine mm_aload_n (pc := 16) dX11_sumOfVessels_16 rfl (by first | trivial | assumption | exact mm_isr_rf _) ?_
    refine cw_grS (pc := 17) 11 _ 4 hC (rfl) rfl (n11) dX11_sumOfVessels_17 fl_X11_29 rfl rfl rfl (v0) ?_
    refine cw_alen (pc := 20) 16 _ hC (rfl) rfl (n16) dX11_sumOfVessels_20 rfl rfl ?_
    refine mm_icmp_ge (pc := 21) (tgt := 62) dX11_sumOfVessels_21 (by decide) (fun c21 => absurd c21 (nI_ge (b := (20 : Nat)) (by omega) (by decide))) (fun c21 => ?_)
    refine mm_lload_n (pc := 24) dX11_sumOfVessels_24 rfl ?_
    refine mm_iload_n (pc := 25) dX11_sumOfVessels_25 rfl ?_
    refine mm_if_eq (pc := 26) (tgt := 43) dX11_sumOfVessels_26 (by decide) (fun c26 => absurd c26 (by decide)) (fun c26 => ?_)
    refine mm_aload_n (pc := 29) dX11_sumOfVessels_29 rfl (by first | trivial | assumption | exact mm_isr_rf _) ?_
    refine cw_grS (pc := 30) 11 _ 4 hC (rfl) rfl (n11) dX11_sumOfVessels_30 fl_X11_29 rfl rfl rfl (v0) ?_
    refine mm_iload (pc := 33) dX11_sumOfVessels_33 rfl ?_
    refine cw_aald (pc := 35) (v := (.ref (ad 9 t))) 16 0 t hC (rfl) rfl (n16) dX11_sumOfVessels_35 rfl rfl rfl (by first | with_reducible rfl | assumption | rfl) (by show t < 20; omega) (by omega) rfl (by rw [(hV t ht).1]; rfl) ?_
    refine cw_gi (pc := 36) 9 t 4 hC (rfl) rfl ((by omega)) dX11_sumOfVessels_36 fl_X11_211 rfl rfl rfl ?_
    refine mm_topi _ (hV t ht).2.2.2.2.2 ?_
    refine mm_i2l (pc := 39) dX11_sumOfVessels_39 ?_
    refine mm_goto (pc := 40) (tgt := 54) dX11_sumOfVessels_40 (by decide) ?_
    refine mm_ladd (pc := 54) dX11_sumOfVessels_54 ?_
    refine mm_lstore_n (pc := 55) dX11_sumOfVessels_55 rfl rfl (Nat.le_of_ble_eq_true rfl) ?_
    refine mm_iinc (pc := 56) dX11_sumOfVessels_56 rfl rfl rfl (Nat.le_of_ble_eq_true rfl) ?_
    refine mm_goto (pc := 59) (tgt := 5) dX11_sumOfVessels_59 (by decide) ?_
    exact mm_weakK (ih (t + 1) (by omega)) (And.intro (congrArg some (congrArg Value.int nI_p1)) (And.intro rfl (And.intro rfl (And.intro rfl trivial))))

theorem sv_1 {G : mm_G} {L : Nat × Nat} {d : Nat} {h : mm_H} {h0 : mm_H} {ad : Nat → Nat → Nat} {C : cw_C} {M : mw_S} {nk na : Nat} (hv : vsR ad C M nk na) (hC : cw ad h0 C h) : mm_Ok G mX11_sumOfVessels L (d) [.ref (ad 11 0), .int 1] h (fun r h1 => h1 = h ∧ r = some (.long (sp_sumTo (M.2.2.1 52) na))) := by
  refine mm_Ok.of [(0, .ref (ad 11 0)), (1, .int 1)] rfl kX11_sumOfVessels.2.2.2.2.2 rfl (fun A => ?_)
  refine mm_lconst (pc := 0) (v := 0) dX11_sumOfVessels_0 (by decide) ?_
  refine mm_lstore_n (pc := 1) dX11_sumOfVessels_1 rfl rfl (Nat.le_of_ble_eq_true rfl) ?_
  refine mm_iconst (pc := 2) (v := 0) dX11_sumOfVessels_2 (by decide) ?_
  refine mm_istore (pc := 3) dX11_sumOfVessels_3 rfl (Nat.le_of_ble_eq_true rfl) ?_
  exact mm_weakK (sv_l1 hv hC na 0 (by omega)) (And.intro rfl (And.intro rfl (And.intro rfl (And.intro rfl trivial))))

theorem po_ok {G : mm_G} {L : Nat × Nat} {d : Nat} {h : mm_H} {h0 : mm_H} {ad : Nat → Nat → Nat} {C : cw_C} {e : Nat} {p : Int32} (n3 : e < cN C 3) (hC : cw ad h0 C h) : mm_Ok G mX3_partOf L (d) [.ref (ad 3 e), .int p] h (fun r h1 => h1 = h ∧ r = some (.int (prt p (cI C 3 e 4) (cI C 3 e 5) (cI C 3 e 6)))) := by
  refine mm_Ok.of [(0, .ref (ad 3 e)), (1, .int p)] rfl kX3_partOf.2.2.2.2.2 rfl (fun A => ?_)
  refine mm_iload_n (pc := 0) dX3_partOf_0 rfl ?_
  refine mm_if_ne (pc := 1) (tgt := 9) dX3_partOf_1 (by decide) (fun c1 => ?_) (fun c1 => ?_)
  · refine mm_iload_n (pc := 9) dX3_partOf_9 rfl ?_
    refine mm_iconst (pc := 10) (v := 1) dX3_partOf_10 (by decide) ?_
    refine mm_icmp_ne (pc := 11) (tgt := 21) dX3_partOf_11 (by decide) (fun c11 => ?_) (fun c11 => ?_)
    · refine mm_aload_n (pc := 21) dX3_partOf_21 rfl (by first | trivial | assumption | exact mm_isr_rf _) ?_
      refine cw_gi (pc := 22) 3 e 6 hC (rfl) rfl (n3) dX3_partOf_22 fl_X3_29 rfl rfl rfl ?_
      refine mm_iret (pc := 25) dX3_partOf_25 rfl ?_
      exact ⟨rfl, by unfold prt; rw [if_neg c1, if_neg c11]⟩
    · refine mm_aload_n (pc := 14) dX3_partOf_14 rfl (by first | trivial | assumption | exact mm_isr_rf _) ?_
      refine cw_gi (pc := 15) 3 e 5 hC (rfl) rfl (n3) dX3_partOf_15 fl_X3_26 rfl rfl rfl ?_
      refine mm_goto (pc := 18) (tgt := 25) dX3_partOf_18 (by decide) ?_
      refine mm_iret (pc := 25) dX3_partOf_25 rfl ?_
      exact ⟨rfl, by unfold prt; rw [if_neg c1, if_pos c11]⟩
  · refine mm_aload_n (pc := 4) dX3_partOf_4 rfl (by first | trivial | assumption | exact mm_isr_rf _) ?_
    refine cw_gi (pc := 5) 3 e 4 hC (rfl) rfl (n3) dX3_partOf_5 fl_X3_23 rfl rfl rfl ?_
    refine mm_iret (pc := 8) dX3_partOf_8 rfl ?_
    exact ⟨rfl, by unfold prt; rw [if_pos c1]⟩

theorem se_l {G : mm_G} {L : Nat × Nat} {d : Nat} {A : Nat → Prop} {h0 : mm_H} {ad : Nat → Nat → Nat} {C : cw_C} {M : mw_S} {na ne c : Nat} {p y : Int32} {Sm : Nat → Nat → Int64} (he : enR ad C M na ne) (hS : ∀ t, t < ne → Sm (t + 1) c = Sm t c + ctr (cI C 3 t 0) (cI C 3 t 4) (cI C 3 t 5) (cI C 3 t 6) c) (hc : ∀ {u wi wo hi : Int32}, ctr u wi wo hi c = if u = y then (prt p wi wo hi).toInt64 else 0) (n11 : 0 < cN C 11) : ∀ (v t : Nat) (h : mm_H), cw ad h0 C h → t + v = ne → mm_Run G mX11_sumOfEntries A L (d + 1) 5 [(5, .int (nI t)), (3, .long (Sm t c)), (2, .int p), (1, .int y), (0, .ref (ad 11 0))] [] h (fun r h1 => h1 = h ∧ r = some (.long (Sm ne c))) := by
  obtain ⟨⟨n17, n3⟩, hn512, z7, z8, s54, hN⟩ := id he
  intro v
  induction v with
  | zero =>
    intro t h hC hv
    refine mm_iload (pc := 5) dX11_sumOfEntries_5 rfl ?_
    refine mm_aload_n (pc := 7) dX11_sumOfEntries_7 rfl (by first | trivial | assumption | exact mm_isr_rf _) ?_
    refine cw_gi (pc := 8) 11 _ 8 hC (rfl) rfl (n11) dX11_sumOfEntries_8 fl_X11_49 rfl rfl rfl ?_
    refine mm_topi _ z8 ?_
    refine mm_icmp_ge (pc := 11) (tgt := 59) dX11_sumOfEntries_11 (by decide) (fun c11 => ?_) (fun c11 => absurd ((nI_leI (by omega) (by omega)).mpr (by omega)) c11)
    refine mm_lload_n (pc := 59) dX11_sumOfEntries_59 rfl ?_
    refine mm_lret (pc := 60) dX11_sumOfEntries_60 rfl ?_
    rw [show t = ne by omega]
    exact ⟨rfl, rfl⟩
  | succ v ih =>
    intro t h hC hv
    have ht : t < ne := by omega
    have n3t : t < cN C 3 := by omega
    refine mm_iload (pc := 5) dX11_sumOfEntries_5 rfl ?_
    refine mm_aload_n (pc := 7) dX11_sumOfEntries_7 rfl (by first | trivial | assumption | exact mm_isr_rf _) ?_
    refine cw_gi (pc := 8) 11 _ 8 hC (rfl) rfl (n11) dX11_sumOfEntries_8 fl_X11_49 rfl rfl rfl ?_
    refine mm_topi _ z8 ?_
    refine mm_icmp_ge (pc := 11) (tgt := 59) dX11_sumOfEntries_11 (by decide) (fun c11 => absurd c11 (nI_ge ht (by omega))) (fun c11 => ?_)
    refine mm_iload (pc := 14) dX11_sumOfEntries_14 rfl ?_
    refine mm_aload_n (pc := 16) dX11_sumOfEntries_16 rfl (by first | trivial | assumption | exact mm_isr_rf _) ?_
    refine cw_grS (pc := 17) 11 _ 7 hC (rfl) rfl (n11) dX11_sumOfEntries_17 fl_X11_45 rfl rfl rfl (z7) ?_
    refine cw_alen (pc := 20) 17 _ hC (rfl) rfl (n17) dX11_sumOfEntries_20 rfl rfl ?_
    refine mm_icmp_ge (pc := 21) (tgt := 59) dX11_sumOfEntries_21 (by decide) (fun c21 => absurd c21 (nI_ge (b := (512 : Nat)) (by omega) (by decide))) (fun c21 => ?_)
    refine mm_aload_n (pc := 24) dX11_sumOfEntries_24 rfl (by first | trivial | assumption | exact mm_isr_rf _) ?_
    refine cw_grS (pc := 25) 11 _ 7 hC (rfl) rfl (n11) dX11_sumOfEntries_25 fl_X11_45 rfl rfl rfl (z7) ?_
    refine mm_iload (pc := 28) dX11_sumOfEntries_28 rfl ?_
    refine cw_aald (pc := 30) (v := (.ref (ad 3 t))) 17 0 t hC (rfl) rfl (n17) dX11_sumOfEntries_30 rfl rfl rfl (by first | with_reducible rfl | assumption | rfl) (by show t < 512; omega) (by omega) rfl (by rw [(hN t ht).1]; rfl) ?_
    refine cw_gi (pc := 31) 3 t 0 hC (rfl) rfl (n3t) dX11_sumOfEntries_31 fl_X11_271 rfl rfl rfl ?_
    refine mm_iload_n (pc := 34) dX11_sumOfEntries_34 rfl ?_
    refine mm_icmp_ne (pc := 35) (tgt := 53) dX11_sumOfEntries_35 (by decide) (fun c35 => ?_) (fun c35 => ?_)
    · refine mm_iinc (pc := 53) dX11_sumOfEntries_53 rfl rfl rfl (Nat.le_of_ble_eq_true rfl) ?_
      refine mm_goto (pc := 56) (tgt := 5) dX11_sumOfEntries_56 (by decide) ?_
      exact mm_weakK (ih (t + 1) _ hC (by omega)) (And.intro (congrArg some (congrArg Value.int nI_p1)) (And.intro (congrArg some (congrArg Value.long (by rw [hS t ht, hc, if_neg c35, Int64.add_zero]))) (And.intro rfl (And.intro rfl (And.intro rfl trivial)))))
    · refine mm_lload_n (pc := 38) dX11_sumOfEntries_38 rfl ?_
      refine mm_aload_n (pc := 39) dX11_sumOfEntries_39 rfl (by first | trivial | assumption | exact mm_isr_rf _) ?_
      refine cw_grS (pc := 40) 11 _ 7 hC (rfl) rfl (n11) dX11_sumOfEntries_40 fl_X11_45 rfl rfl rfl (z7) ?_
      refine mm_iload (pc := 43) dX11_sumOfEntries_43 rfl ?_
      refine cw_aald (pc := 45) (v := (.ref (ad 3 t))) 17 0 t hC (rfl) rfl (n17) dX11_sumOfEntries_45 rfl rfl rfl (by first | with_reducible rfl | assumption | rfl) (by show t < 512; omega) (by omega) rfl (by rw [(hN t ht).1]; rfl) ?_
      refine mm_iload_n (pc := 46) dX11_sumOfEntries_46 rfl ?_
      refine mm_callV (pc := 47) (As := [_]) (kd := ?kd_47_1) (fs := ?fs_47_1) dX11_sumOfEntries_47 vl_X11_285 (po_ok n3t hC) ?hc_47_1 ?hk_47_1 rfl rfl (Nat.le_of_ble_eq_true rfl) ?_; (case hc_47_1 => exact cw_cell (f := 3) hC rfl rfl n3t); (case hk_47_1 => rfl)
      rintro _ h47 ⟨rfl, rfl⟩
      refine mm_i2l (pc := 50) dX11_sumOfEntries_50 ?_
      refine mm_ladd (pc := 51) dX11_sumOfEntries_51 ?_
      refine mm_lstore_n (pc := 52) dX11_sumOfEntries_52 rfl rfl (Nat.le_of_ble_eq_true rfl) ?_
      refine mm_iinc (pc := 53) dX11_sumOfEntries_53 rfl rfl rfl (Nat.le_of_ble_eq_true rfl) ?_
      refine mm_goto (pc := 56) (tgt := 5) dX11_sumOfEntries_56 (by decide) ?_
      exact mm_weakK (ih (t + 1) _ hC (by omega)) (And.intro (congrArg some (congrArg Value.int nI_p1)) (And.intro (congrArg some (congrArg Value.long (by rw [hS t ht, hc, if_pos c35]))) (And.intro rfl (And.intro rfl (And.intro rfl trivial)))))

theorem se_ok {G : mm_G} {L : Nat × Nat} {d : Nat} {h : mm_H} {h0 : mm_H} {ad : Nat → Nat → Nat} {C : cw_C} {M : mw_S} {na ne c : Nat} {p y : Int32} {Sm : Nat → Nat → Int64} (he : enR ad C M na ne) (hS : ∀ t, t < ne → Sm (t + 1) c = Sm t c + ctr (cI C 3 t 0) (cI C 3 t 4) (cI C 3 t 5) (cI C 3 t 6) c) (hc : ∀ {u wi wo hi : Int32}, ctr u wi wo hi c = if u = y then (prt p wi wo hi).toInt64 else 0) (n11 : 0 < cN C 11) (h00 : Sm 0 c = 0) (hC : cw ad h0 C h) : mm_Ok G mX11_sumOfEntries L (d + 1) [.ref (ad 11 0), .int y, .int p] h (fun r h1 => h1 = h ∧ r = some (.long (Sm ne c))) := by
  refine mm_Ok.of [(0, .ref (ad 11 0)), (1, .int y), (2, .int p)] rfl kX11_sumOfEntries.2.2.2.2.2 rfl (fun A => ?_)
  refine mm_lconst (pc := 0) (v := 0) dX11_sumOfEntries_0 (by decide) ?_
  refine mm_lstore_n (pc := 1) dX11_sumOfEntries_1 rfl rfl (Nat.le_of_ble_eq_true rfl) ?_
  refine mm_iconst (pc := 2) (v := 0) dX11_sumOfEntries_2 (by decide) ?_
  refine mm_istore (pc := 3) dX11_sumOfEntries_3 rfl (Nat.le_of_ble_eq_true rfl) ?_
  exact mm_weakK (se_l he hS hc n11 ne 0 h hC (by omega)) (And.intro rfl (And.intro (congrArg some (congrArg Value.long h00.symm)) (And.intro rfl (And.intro rfl (And.intro rfl trivial)))))

theorem al_ok {G : mm_G} {L : Nat × Nat} {d : Nat} {h : mm_H} {h0 : mm_H} {ad : Nat → Nat → Nat} {C : cw_C} {M : mw_S} {ab : Nat → Option Nat} {nk np : Nat} {na ne nb nt : Nat} {H : hS} {w : Int32} (R : rsR ad C M ab nk np na ne nb nt H) (hC : cw ad h0 C h) : mm_Ok G mX11_all L (d + 2) [.ref (ad 11 0), .int w] h (fun r h1 => lgP ad h0 C h (sp_all M na w) r h1) := by
  refine mm_Ok.of [(0, .ref (ad 11 0)), (1, .int w)] rfl kX11_all.2.2.2.2.2 rfl (fun A => ?_)
  have hG := R.g
  obtain ⟨hR, hE, ⟨n11, n13⟩, f3, f9, s3, s19⟩ := id hG
  have hd := R.d
  have hS : ∀ c, c < 5 → ∀ t, t < ne → H.2.2 (t + 1) c = H.2.2 t c + ctr (cI C 3 t 0) (cI C 3 t 4) (cI C 3 t 5) (cI C 3 t 6) c := fun c hc t ht => by
    obtain ⟨_, _, _, _, _, _, _, _, _, _, _, k⟩ := hd.2.2 t ht
    exact (k c hc).2
  refine mm_iload_n (pc := 0) dX11_all_0 rfl ?_
  refine mm_sw (pc := 1) [44, 50, 57, 64, 71, 77, 84] 91 dX11_all_1 (by decide) (by decide) (by decide) (fun i_ t_ ht_ hx_ => ?_) (fun c1 => ?_)
  · match i_, ht_ with
    | 0, ht_ =>
      cases ht_
      have c1 := mm_swe (v := 0) hx_ (by decide)
      refine mm_aload_n (pc := 44) dX11_all_44 rfl (by first | trivial | assumption | exact mm_isr_rf _) ?_
      refine mm_iconst (pc := 45) (v := 0) dX11_all_45 (by decide) ?_
      refine mm_callV (pc := 46) (As := [_]) (kd := ?kd_46_2) (fs := ?fs_46_2) dX11_all_46 vl_X11_263 (sv_0 R.v hC) ?hc_46_2 ?hk_46_2 rfl rfl (Nat.le_of_ble_eq_true rfl) ?_; (case hc_46_2 => exact cw_cell (f := 11) hC rfl rfl n11); (case hk_46_2 => rfl)
      rintro _ hh_ ⟨rfl, rfl⟩
      refine mm_lret (pc := 49) dX11_all_49 rfl ?_
      have eA : sp_all M na w = (sp_sumTo (M.2.2.1 51) na, 0) := by subst c1; unfold sp_all; rw [if_neg (by decide), if_pos (by decide), if_pos rfl]
      rw [eA]
      exact ⟨rfl, hC, rfl⟩
    | 1, ht_ =>
      cases ht_
      have c1 := mm_swe (v := 1) hx_ (by decide)
      refine mm_aload_n (pc := 50) dX11_all_50 rfl (by first | trivial | assumption | exact mm_isr_rf _) ?_
      refine mm_iconst (pc := 51) (v := 1) dX11_all_51 (by decide) ?_
      refine mm_iconst (pc := 52) (v := 0) dX11_all_52 (by decide) ?_
      refine mm_callV (pc := 53) (As := [_, _]) (kd := ?kd_53_3) (fs := ?fs_53_3) dX11_all_53 vl_X11_267 (se_ok (c := 0) (Sm := H.2.2) R.e (hS 0 (by decide)) ctr_0 n11 (hd.2.1 0 (by decide)).1 hC) ?hc_53_3 ?hk_53_3 rfl rfl (Nat.le_of_ble_eq_true rfl) ?_; (case hc_53_3 => exact cw_cell (f := 11) hC rfl rfl n11); (case hk_53_3 => rfl)
      rintro _ hh_ ⟨rfl, rfl⟩
      refine mm_lret (pc := 56) dX11_all_56 rfl ?_
      have eA : sp_all M na w = (M.2.2.2.1 53 0, 0) := by subst c1; unfold sp_all; rw [if_neg (by decide), if_pos (by decide), if_neg (by decide), if_neg (by decide), if_neg (by decide)]; rfl
      rw [eA]
      exact ⟨by rw [(hd.2.1 0 (by decide)).2], hC, rfl⟩
    | 2, ht_ =>
      cases ht_
      have c1 := mm_swe (v := 2) hx_ (by decide)
      refine mm_aload_n (pc := 57) dX11_all_57 rfl (by first | trivial | assumption | exact mm_isr_rf _) ?_
      refine mm_iconst (pc := 58) (v := 0) dX11_all_58 (by decide) ?_
      refine mm_iconst (pc := 59) (v := 0) dX11_all_59 (by decide) ?_
      refine mm_callV (pc := 60) (As := [_, _]) (kd := ?kd_60_4) (fs := ?fs_60_4) dX11_all_60 vl_X11_267 (se_ok (c := 1) (Sm := H.2.2) R.e (hS 1 (by decide)) ctr_1 n11 (hd.2.1 1 (by decide)).1 hC) ?hc_60_4 ?hk_60_4 rfl rfl (Nat.le_of_ble_eq_true rfl) ?_; (case hc_60_4 => exact cw_cell (f := 11) hC rfl rfl n11); (case hk_60_4 => rfl)
      rintro _ hh_ ⟨rfl, rfl⟩
      refine mm_lret (pc := 63) dX11_all_63 rfl ?_
      have eA : sp_all M na w = (M.2.2.2.1 53 1, 0) := by subst c1; unfold sp_all; rw [if_neg (by decide), if_pos (by decide), if_neg (by decide), if_neg (by decide), if_neg (by decide)]; rfl
      rw [eA]
      exact ⟨by rw [(hd.2.1 1 (by decide)).2], hC, rfl⟩
    | 3, ht_ =>
      cases ht_
      have c1 := mm_swe (v := 3) hx_ (by decide)
      refine mm_aload_n (pc := 64) dX11_all_64 rfl (by first | trivial | assumption | exact mm_isr_rf _) ?_
      refine mm_iconst (pc := 65) (v := 0) dX11_all_65 (by decide) ?_
      refine mm_iconst (pc := 66) (v := 1) dX11_all_66 (by decide) ?_
      refine mm_callV (pc := 67) (As := [_, _]) (kd := ?kd_67_5) (fs := ?fs_67_5) dX11_all_67 vl_X11_267 (se_ok (c := 2) (Sm := H.2.2) R.e (hS 2 (by decide)) ctr_2 n11 (hd.2.1 2 (by decide)).1 hC) ?hc_67_5 ?hk_67_5 rfl rfl (Nat.le_of_ble_eq_true rfl) ?_; (case hc_67_5 => exact cw_cell (f := 11) hC rfl rfl n11); (case hk_67_5 => rfl)
      rintro _ hh_ ⟨rfl, rfl⟩
      refine mm_lret (pc := 70) dX11_all_70 rfl ?_
      have eA : sp_all M na w = (M.2.2.2.1 53 2, 0) := by subst c1; unfold sp_all; rw [if_neg (by decide), if_pos (by decide), if_neg (by decide), if_neg (by decide), if_neg (by decide)]; rfl
      rw [eA]
      exact ⟨by rw [(hd.2.1 2 (by decide)).2], hC, rfl⟩
    | 4, ht_ =>
      cases ht_
      have c1 := mm_swe (v := 4) hx_ (by decide)
      refine mm_aload_n (pc := 71) dX11_all_71 rfl (by first | trivial | assumption | exact mm_isr_rf _) ?_
      refine mm_iconst (pc := 72) (v := 1) dX11_all_72 (by decide) ?_
      refine mm_callV (pc := 73) (As := [_]) (kd := ?kd_73_6) (fs := ?fs_73_6) dX11_all_73 vl_X11_263 (sv_1 R.v hC) ?hc_73_6 ?hk_73_6 rfl rfl (Nat.le_of_ble_eq_true rfl) ?_; (case hc_73_6 => exact cw_cell (f := 11) hC rfl rfl n11); (case hk_73_6 => rfl)
      rintro _ hh_ ⟨rfl, rfl⟩
      refine mm_lret (pc := 76) dX11_all_76 rfl ?_
      have eA : sp_all M na w = (sp_sumTo (M.2.2.1 52) na, 0) := by subst c1; unfold sp_all; rw [if_neg (by decide), if_pos (by decide), if_neg (by decide), if_pos rfl]
      rw [eA]
      exact ⟨rfl, hC, rfl⟩
    | 5, ht_ =>
      cases ht_
      have c1 := mm_swe (v := 5) hx_ (by decide)
      refine mm_aload_n (pc := 77) dX11_all_77 rfl (by first | trivial | assumption | exact mm_isr_rf _) ?_
      refine mm_iconst (pc := 78) (v := 1) dX11_all_78 (by decide) ?_
      refine mm_iconst (pc := 79) (v := 2) dX11_all_79 (by decide) ?_
      refine mm_callV (pc := 80) (As := [_, _]) (kd := ?kd_80_7) (fs := ?fs_80_7) dX11_all_80 vl_X11_267 (se_ok (c := 3) (Sm := H.2.2) R.e (hS 3 (by decide)) ctr_3 n11 (hd.2.1 3 (by decide)).1 hC) ?hc_80_7 ?hk_80_7 rfl rfl (Nat.le_of_ble_eq_true rfl) ?_; (case hc_80_7 => exact cw_cell (f := 11) hC rfl rfl n11); (case hk_80_7 => rfl)
      rintro _ hh_ ⟨rfl, rfl⟩
      refine mm_lret (pc := 83) dX11_all_83 rfl ?_
      have eA : sp_all M na w = (M.2.2.2.1 53 3, 0) := by subst c1; unfold sp_all; rw [if_neg (by decide), if_pos (by decide), if_neg (by decide), if_neg (by decide), if_pos (by decide)]; rfl
      rw [eA]
      exact ⟨by rw [(hd.2.1 3 (by decide)).2], hC, rfl⟩
    | 6, ht_ =>
      cases ht_
      have c1 := mm_swe (v := 6) hx_ (by decide)
      refine mm_aload_n (pc := 84) dX11_all_84 rfl (by first | trivial | assumption | exact mm_isr_rf _) ?_
      refine mm_iconst (pc := 85) (v := 0) dX11_all_85 (by decide) ?_
      refine mm_iconst (pc := 86) (v := 2) dX11_all_86 (by decide) ?_
      refine mm_callV (pc := 87) (As := [_, _]) (kd := ?kd_87_8) (fs := ?fs_87_8) dX11_all_87 vl_X11_267 (se_ok (c := 4) (Sm := H.2.2) R.e (hS 4 (by decide)) ctr_4 n11 (hd.2.1 4 (by decide)).1 hC) ?hc_87_8 ?hk_87_8 rfl rfl (Nat.le_of_ble_eq_true rfl) ?_; (case hc_87_8 => exact cw_cell (f := 11) hC rfl rfl n11); (case hk_87_8 => rfl)
      rintro _ hh_ ⟨rfl, rfl⟩
      refine mm_lret (pc := 90) dX11_all_90 rfl ?_
      have eA : sp_all M na w = (M.2.2.2.1 53 4, 0) := by subst c1; unfold sp_all; rw [if_neg (by decide), if_pos (by decide), if_neg (by decide), if_neg (by decide), if_pos (by decide)]; rfl
      rw [eA]
      exact ⟨by rw [(hd.2.1 4 (by decide)).2], hC, rfl⟩
    | n_ + 7, ht_ => cases ht_
  · refine mm_aload_n (pc := 91) dX11_all_91 rfl (by first | trivial | assumption | exact mm_isr_rf _) ?_
    refine mm_iconst (pc := 92) (v := (-1)) dX11_all_92 (by decide) ?_
    refine mm_callV (pc := 93) (As := [_]) (kd := ?kd_93_9) (fs := ?fs_93_9) dX11_all_93 vl_X11_96 (tl_ok (c := 1) n11 n13 f9 rfl (by decide) (by decide) hC) ?hc_93_9 ?hk_93_9 rfl rfl (Nat.le_of_ble_eq_true rfl) ?_; (case hc_93_9 => exact cw_cell (f := 11) hC rfl rfl n11); (case hk_93_9 => rfl)
    rintro _ h93 ⟨hC, e93, rfl⟩
    refine mm_i2l (pc := 96) dX11_all_96 ?_
    refine mm_lret (pc := 97) dX11_all_97 rfl ?_
    have hw0 : ¬ w < 0 → ¬ w ≤ 6 := sw_out (m := 6) (by decide) c1
    have eA : sp_all M na w = (-1, 1) := by
      unfold sp_all
      by_cases z : w < 0
      · rw [if_pos z]
      · rw [if_neg z, if_neg (hw0 z)]
    rw [eA]
    exact ⟨rfl, by unfold cAns; rw [if_neg (by decide)]; exact hC, e93⟩

theorem al_aft {G : mm_G} {L : Nat × Nat} {d : Nat} {h h0 : mm_H} {ad : Nat → Nat → Nat} {C : cw_C} {M : mw_S} {ab : Nat → Option Nat} {nk np na ne nb nt : Nat} {H : hS} {w : Int32} (R : rsR ad C M ab nk np na ne nb nt H) (hC : cw ad h0 C h) : mm_Ok G mX11_all L (d + 2) [.ref (ad 11 0), .int w] h (aft ad h 0 0 ab nk np (.long (sp_all M na w).1) (rm_ans M (sp_all M na w).2)) := by
  refine mm_Ok.post (al_ok R hC) (fun r h1 z => z.aft R ?_)
  have : ∀ (c : Prop) [Decidable c] (a b : Int64 × Nat), a.2 ≤ 4 → b.2 ≤ 4 → (if c then a else b).2 ≤ 4 := fun c _ a b h1 h2 => by split <;> assumption
  unfold sp_all
  exact this _ _ _ (by decide) (this _ _ _ (this _ _ _ (Nat.zero_le _) (this _ _ _ (Nat.zero_le _) (this _ _ _ (Nat.zero_le _) (Nat.zero_le _)))) (by decide))

