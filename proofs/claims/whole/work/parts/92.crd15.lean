/-! the class's packs: a new one, a kind more -/
theorem oK.le {N N' : Nat → Nat} {ad ad1 : Nat → Nat → Nat} {C C1 : cw_C} (h : oK N' ad C ad1 C1) (hl : ∀ f, N f ≤ N' f) : oK N ad C ad1 C1 := fun g => ⟨Nat.le_trans (hl g) (h g).1, fun i hi => (h g).2 i (Nat.lt_of_lt_of_le hi (hl g))⟩
theorem oK.I {N : Nat → Nat} {ad ad1 : Nat → Nat → Nat} {C C1 : cw_C} {f i j : Nat} (h : oK N ad C ad1 C1) (hi : i < N f) : cI C1 f i j = cI C f i j := congrFun ((h f).2 i hi).2.1 j
theorem oK.L {N : Nat → Nat} {ad ad1 : Nat → Nat → Nat} {C C1 : cw_C} {f i j : Nat} (h : oK N ad C ad1 C1) (hi : i < N f) (hf : ¬ f = 0) : cL C1 f i j = cL C f i j := congrFun (((h f).2 i hi).2.2.1 hf) j
theorem oK.R {N : Nat → Nat} {ad ad1 : Nat → Nat → Nat} {C C1 : cw_C} {f i j : Nat} (h : oK N ad C ad1 C1) (hi : i < N f) : cR C1 f i j = cR C f i j := congrFun ((h f).2 i hi).2.2.2 j
theorem oK.A {N : Nat → Nat} {ad ad1 : Nat → Nat → Nat} {C C1 : cw_C} {f i : Nat} (h : oK N ad C ad1 C1) (hi : i < N f) : ad1 f i = ad f i := ((h f).2 i hi).1
def pIn (C : cw_C) (ad1 : Nat → Nat → Nat) (C1 : cw_C) (k : Nat) : Prop := (∀ f, ¬ f = 5 → ¬ f = 20 → C1 f = C f) ∧ cN C1 5 = cN C 5 ∧ C1 20 = cw_new C 20 20 ∧ (∀ i j, ¬ i = k → cI C1 5 i j = cI C 5 i j ∧ cL C1 5 i j = cL C 5 i j ∧ cR C1 5 i j = cR C 5 i j) ∧ cI C1 5 k 1 = 0 ∧ cI C1 5 k 5 = 0 ∧ cR C1 5 k 6 = some (ad1 20 (cN C 20)) ∧ cI C1 5 k 7 = 0
def p6 (C : cw_C) (k : Nat) : cw_C := cw_sI (cw_sI (cw_sI (cw_sL (cw_sI (cw_sL C 5 k 0 0) 5 k 1 0) 5 k 2 0) 5 k 3 0) 5 k 4 0) 5 k 5 0
theorem p6_o {C : cw_C} {k f : Nat} (h : ¬ f = 5) : p6 C k f = C f := by unfold p6; rw [cw_sI_o h, cw_sI_o h, cw_sI_o h, cw_sL_o h, cw_sI_o h, cw_sL_o h]
theorem p6_N {C : cw_C} {k f : Nat} : cN (p6 C k) f = cN C f := by unfold p6; rw [cw_sI_N, cw_sI_N, cw_sI_N, cw_sL_N, cw_sI_N, cw_sL_N]
theorem pIn_of {C : cw_C} {ad1 : Nat → Nat → Nat} {k b : Nat} (hb : ad1 20 (cN C 20) = b) : pIn C ad1 (cw_sI (cw_sR (cw_new (p6 C k) 20) 5 k 6 (some b)) 5 k 7 0) k := by
  have e4 : cw_new (p6 C k) 20 5 = p6 C k 5 := cw_ext_o (by decide)
  refine ⟨fun f h4 h21 => ?_, ?_, ?_, fun i j hi => ⟨?_, ?_, ?_⟩, ?_, ?_, ?_, ?_⟩
  · rw [cw_sI_o h4, cw_sR_o h4]; exact (cw_ext_o h21).trans (p6_o h4)
  · rw [cw_sI_N, cw_sR_N, cN_o e4, p6_N]
  · rw [cw_sI_o (by decide), cw_sR_o (by decide)]
    unfold cw_new
    rw [cw_ext_f, cw_ext_f, p6_o (by decide), p6_N]
  · rw [cI_sI_n (by omega), cI_sR, cI_o e4]
    unfold p6
    rw [cI_sI_n (by omega), cI_sI_n (by omega), cI_sI_n (by omega), cI_sL, cI_sI_n (by omega), cI_sL]
  · rw [cL_sI, cL_sR, cL_o e4]
    unfold p6
    rw [cL_sI, cL_sI, cL_sI, cL_sL_n (by omega), cL_sI, cL_sL_n (by omega)]
  · rw [cR_sI, cR_sR_n (by omega), cR_o e4]
    unfold p6
    rw [cR_sI, cR_sI, cR_sI, cR_sL, cR_sI, cR_sL]
  · rw [cI_sI_n (by omega), cI_sR, cI_o e4]
    unfold p6
    rw [cI_sI_n (by omega), cI_sI_n (by omega), cI_sI_n (by omega), cI_sL, cI_sI_e]
  · rw [cI_sI_n (by omega), cI_sR, cI_o e4]
    unfold p6
    rw [cI_sI_e]
  · rw [cR_sI, cR_sR_e, hb]
  · rw [cI_sI_e]

theorem x5_init {G : mm_G} {L : Nat × Nat} {d : Nat} {h : mm_H} {h0 : mm_H} {ad : Nat → Nat → Nat} {C : cw_C} {k : Nat} (n5 : k < cN C 5) (hL1 : h.2.1 + 1 ≤ L.1) (hL2 : h.2.2 + 10 ≤ L.2) (hC : cw ad h0 C h) : mm_Ok G mX5_init L (d + 1) [.ref (ad 5 k)] h (fun r h1 => ∃ ad1 C1, cw ad1 h0 C1 h1 ∧ (∀ f i, i < cN C f → ad1 f i = ad f i) ∧ pIn C ad1 C1 k ∧ h1.2 = (h.2.1 + 1, h.2.2 + 10) ∧ r = none) := by
  refine mm_Ok.of [(0, .ref (ad 5 k))] rfl kX5_init.2.2.2.2.2 rfl (fun A => ?_)
  refine mm_aload_n (pc := 0) dX5_init_0 rfl (by first | trivial | assumption | exact mm_isr_rf _) ?_
  refine mm_objInit (pc := 1) dX5_init_1 ol_X5_3 mm_objI mm_objC (Nat.le_of_ble_eq_true rfl) ?_
  refine mm_aload_n (pc := 4) dX5_init_4 rfl (by first | trivial | assumption | exact mm_isr_rf _) ?_
  refine mm_lconst (pc := 5) (v := 0) dX5_init_5 (by decide) ?_
  refine cw_pl (pc := 6) 5 _ 0 hC (rfl) rfl (n5) dX5_init_6 (pl_X5_9 _) rfl rfl (fun h6 hC e6 => ?_)
  refine mm_aload_n (pc := 9) dX5_init_9 rfl (by first | trivial | assumption | exact mm_isr_rf _) ?_
  refine mm_iconst (pc := 10) (v := 0) dX5_init_10 (by decide) ?_
  refine cw_pi (pc := 11) 5 _ 1 hC (rfl) rfl (by rw [cw_sL_N]; exact n5) dX5_init_11 (pl_X5_15 _) rfl rfl (rfl) (rfl) (fun h11 hC e11 => ?_)
  refine mm_aload_n (pc := 14) dX5_init_14 rfl (by first | trivial | assumption | exact mm_isr_rf _) ?_
  refine mm_lconst (pc := 15) (v := 0) dX5_init_15 (by decide) ?_
  refine cw_pl (pc := 16) 5 _ 2 hC (rfl) rfl (by rw [cw_sI_N, cw_sL_N]; exact n5) dX5_init_16 (pl_X5_19 _) rfl rfl (fun h16 hC e16 => ?_)
  refine mm_aload_n (pc := 19) dX5_init_19 rfl (by first | trivial | assumption | exact mm_isr_rf _) ?_
  refine mm_iconst (pc := 20) (v := 0) dX5_init_20 (by decide) ?_
  refine cw_pi (pc := 21) 5 _ 3 hC (rfl) rfl (by rw [cw_sL_N, cw_sI_N, cw_sL_N]; exact n5) dX5_init_21 (pl_X5_22 _) rfl rfl (rfl) (rfl) (fun h21 hC e21 => ?_)
  refine mm_aload_n (pc := 24) dX5_init_24 rfl (by first | trivial | assumption | exact mm_isr_rf _) ?_
  refine mm_iconst (pc := 25) (v := 0) dX5_init_25 (by decide) ?_
  refine cw_pi (pc := 26) 5 _ 4 hC (rfl) rfl (by rw [cw_sI_N, cw_sL_N, cw_sI_N, cw_sL_N]; exact n5) dX5_init_26 (pl_X5_26 _) rfl rfl (rfl) (rfl) (fun h26 hC e26 => ?_)
  refine mm_aload_n (pc := 29) dX5_init_29 rfl (by first | trivial | assumption | exact mm_isr_rf _) ?_
  refine mm_iconst (pc := 30) (v := 0) dX5_init_30 (by decide) ?_
  refine cw_pi (pc := 31) 5 _ 5 hC (rfl) rfl (by rw [cw_sI_N, cw_sI_N, cw_sL_N, cw_sI_N, cw_sL_N]; exact n5) dX5_init_31 (pl_X5_29 _) rfl rfl (rfl) (rfl) (fun h31 hC e31 => ?_)
  have hC : cw ad h0 (p6 C k) h31 := hC
  have e31_ : h31.2 = h.2 := by rw [e31, e26, e21, e16, e11, e6]
  refine mm_aload_n (pc := 34) dX5_init_34 rfl (by first | trivial | assumption | exact mm_isr_rf _) ?_
  refine mm_bipush (pc := 35) (v := 10) dX5_init_35 (by decide) ?_
  refine mm_anew (pc := 37) (N := 10) (t := 4) (i := 0) dX5_init_37 al_X5_32 rfl rfl (by decide) (by decide) (by decide) ((by rw [e31_]; exact hL1)) ((by rw [e31_]; exact hL2)) ?_
  have hC := hC.new 20 (by decide) rfl rfl
  rw [show h31.2.1 = h.2.1 by rw [e31_]] at hC ⊢
  have en : cw_ad ad (p6 C k) 20 h.2.1 20 (cN C 20) = h.2.1 := by rw [← p6_N (C := C) (k := k)]; exact cw_ad_n
  have ek : cw_ad ad (p6 C k) 20 h.2.1 5 k = ad 5 k := cw_ad_o (by rw [p6_N]; exact n5)
  have ea : ∀ f i, i < cN C f → cw_ad ad (p6 C k) 20 h.2.1 f i = ad f i := fun f i hi => cw_ad_o (by rw [p6_N]; exact hi)
  have n4c : k < cN (cw_new (p6 C k) 20) 5 := by rw [show cN (cw_new (p6 C k) 20) 5 = cN (p6 C k) 5 from cN_ext_o (by decide), p6_N]; exact n5
  rw [← ek]
  have es : ∀ v, (mm_push h31 v).2 = (h.2.1 + 1, h.2.2 + v.2.length) := fun v => by unfold mm_push; rw [e31_]
  generalize hg1 : cw_ad ad (p6 C k) 20 h.2.1 = ad1 at *
  refine cw_prA (pc := 40) 5 _ 6 hC (rfl) rfl (n4c) dX5_init_40 (pl_X5_34) rfl rfl rfl rfl (fun h40 hC e40 => ?_)
  refine mm_aload_n (pc := 43) dX5_init_43 rfl (by first | trivial | assumption | exact mm_isr_rf _) ?_
  refine mm_iconst (pc := 44) (v := 0) dX5_init_44 (by decide) ?_
  refine cw_pi (pc := 45) 5 _ 7 hC (rfl) rfl ((by rw [cw_sR_N]; exact n4c)) dX5_init_45 (pl_X5_38 _) rfl rfl (rfl) (rfl) (fun h45 hC e45 => ?_)
  refine mm_vret (pc := 48) dX5_init_48 rfl ?_
  exact ⟨ad1, _, hC, ea, pIn_of en, by rw [e45, e40]; exact es _, rfl⟩

theorem x5_add {G : mm_G} {L : Nat × Nat} {d : Nat} {h : mm_H} {h0 : mm_H} {ad : Nat → Nat → Nat} {C : cw_C} {p k nn : Nat} (n5 : p < cN C 5) (n20 : p < cN C 20) (n4 : k < cN C 4) (h6 : cR C 5 p 6 = some (ad 20 p)) (h7 : cI C 5 p 7 = nI nn) (hnn : nn < 10) (hC : cw ad h0 C h) : mm_Ok G mX5_add L (d) [.ref (ad 5 p), .ref (ad 4 k)] h (fun r h1 => cw ad h0 (cw_sI (cw_sR C 20 p nn (some (ad 4 k))) 5 p 7 (nI (nn + 1))) h1 ∧ h1.2 = h.2 ∧ r = none) := by
  refine mm_Ok.of [(0, .ref (ad 5 p)), (1, .ref (ad 4 k))] rfl kX5_add.2.2.2.2.2 rfl (fun A => ?_)
  refine mm_aload_n (pc := 0) dX5_add_0 rfl (by first | trivial | assumption | exact mm_isr_rf _) ?_
  refine cw_gi (pc := 1) 5 _ 7 hC (rfl) rfl (n5) dX5_add_1 fl_X5_38 rfl rfl rfl ?_
  refine mm_topi _ h7 ?_
  refine mm_aload_n (pc := 4) dX5_add_4 rfl (by first | trivial | assumption | exact mm_isr_rf _) ?_
  refine cw_grS (pc := 5) 5 _ 6 hC (rfl) rfl (n5) dX5_add_5 fl_X5_34 rfl rfl rfl (h6) ?_
  refine cw_alen (pc := 8) 20 _ hC (rfl) rfl (n20) dX5_add_8 rfl rfl ?_
  refine mm_icmp_ge (pc := 9) (tgt := 32) dX5_add_9 (by decide) (fun c9 => absurd c9 (nI_ge (b := (10 : Nat)) hnn (by decide))) (fun c9 => ?_)
  refine mm_aload_n (pc := 12) dX5_add_12 rfl (by first | trivial | assumption | exact mm_isr_rf _) ?_
  refine cw_grS (pc := 13) 5 _ 6 hC (rfl) rfl (n5) dX5_add_13 fl_X5_34 rfl rfl rfl (h6) ?_
  refine mm_aload_n (pc := 16) dX5_add_16 rfl (by first | trivial | assumption | exact mm_isr_rf _) ?_
  refine cw_gi (pc := 17) 5 _ 7 hC (rfl) rfl (n5) dX5_add_17 fl_X5_38 rfl rfl rfl ?_
  refine mm_topi _ h7 ?_
  refine mm_aload_n (pc := 20) dX5_add_20 rfl (by first | trivial | assumption | exact mm_isr_rf _) ?_
  refine cw_aast (pc := 21) 20 _ _ hC (rfl) rfl (n20) dX5_add_21 rfl rfl (cw_cell (f := 4) hC rfl rfl n4) rfl rfl (by first | with_reducible rfl | assumption | rfl) (hnn) (by omega) rfl (fun h21 hC e21 => ?_)
  refine mm_aload_n (pc := 22) dX5_add_22 rfl (by first | trivial | assumption | exact mm_isr_rf _) ?_
  refine mm_dup (pc := 23) dX5_add_23 rfl ?_
  refine cw_gi (pc := 24) 5 _ 7 hC (rfl) rfl ((by rw [cw_sR_N]; exact n5)) dX5_add_24 fl_X5_38 rfl rfl rfl ?_
  refine mm_topi _ (show cI (cw_sR C 20 p nn (some (ad 4 k))) 5 p 7 = nI nn by rw [cI_sR]; exact h7) ?_
  refine mm_iconst (pc := 27) (v := 1) dX5_add_27 (by decide) ?_
  refine mm_iadd (pc := 28) dX5_add_28 ?_
  refine cw_pi (pc := 29) 5 _ 7 hC (rfl) rfl ((by rw [cw_sR_N]; exact n5)) dX5_add_29 (pl_X5_38 _) rfl rfl (rfl) (rfl) (fun h29 hC e29 => ?_)
  refine mm_vret (pc := 32) dX5_add_32 rfl ?_
  exact ⟨by rw [← nI_add]; exact hC, by rw [e29, e21], rfl⟩

