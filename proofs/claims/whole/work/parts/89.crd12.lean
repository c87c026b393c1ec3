/-! the class's kinds: a new one -/
theorem cw_prA {G : mm_G} {y : mm_M} {A : Nat → Prop} {L : Nat × Nat} {d pc : Nat} {lv : List (Nat × Value)} {st : List Value} {h h0 : mm_H} {Q : Option Value → mm_H → Prop} {ad : Nat → Nat → Nat} {C : cw_C} {idx a b : Nat} {ty : FieldType} (f i j : Nat) (hC : cw ad h0 C h) (ha : ad f i = a) (hf : Nat.blt f 22 = true) (hi : i < cN C f) (hd : decode y.2.1 pc = .ok (.putfield idx, 3)) (hl0 : mm_pl y.1.cls y.1.name idx f j ty) (hm : cw_k f = f) (hy : cw_y f j = 2) (hn : narrow ty (.ref b) = .ref b) (ht : fits ty (.ref b) = true)
    (k : ∀ h', cw ad h0 (cw_sR C f i j (some b)) h' → h'.2 = h.2 → mm_Run G y A L d (pc + 3) lv st h' Q) : mm_Run G y A L d pc lv (.ref b :: .ref a :: st) h Q := by
  subst ha
  exact mm_put hd hl0 (cw_cell hC rfl hf hi) hm hn ht (k _ (cw_upd hC (Nat.le_of_ble_eq_true hf) hi (fun g => cw_sR_N) (fun g k e => cw_sR_v e) (by rw [mw_rangeS, show (Value.ref b) = va_rf (some b) from rfl, cw_sR_w hy])) rfl)
def kIn (C : cw_C) (ad1 : Nat → Nat → Nat) (C1 : cw_C) (k : Nat) (w : Int64) (p : Int32) : Prop := (∀ f, ¬ f = 4 → ¬ f = 21 → C1 f = C f) ∧ cN C1 4 = cN C 4 ∧ C1 21 = cw_new C 21 21 ∧ (∀ i j, ¬ i = k → cI C1 4 i j = cI C 4 i j ∧ cL C1 4 i j = cL C 4 i j ∧ cR C1 4 i j = cR C 4 i j) ∧ (cL C1 4 k 0 = w ∧ cI C1 4 k 1 = p ∧ cL C1 4 k 2 = 0 ∧ cI C1 4 k 3 = 0) ∧ cR C1 4 k 9 = none ∧ cR C1 4 k 10 = none ∧ cR C1 4 k 11 = some (ad1 21 (cN C 21))
def k9 (C : cw_C) (k : Nat) : cw_C := cw_sR (cw_sR (cw_sI (cw_sI (cw_sI (cw_sR (cw_sI (cw_sI (cw_sL C 4 k 2 0) 4 k 3 0) 4 k 4 0) 4 k 5 none) 4 k 6 0) 4 k 7 (-7)) 4 k 8 0) 4 k 9 none) 4 k 10 none
theorem k9_o {C : cw_C} {k f : Nat} (h : ¬ f = 4) : k9 C k f = C f := by unfold k9; rw [cw_sR_o h, cw_sR_o h, cw_sI_o h, cw_sI_o h, cw_sI_o h, cw_sR_o h, cw_sI_o h, cw_sI_o h, cw_sL_o h]
theorem k9_N {C : cw_C} {k f : Nat} : cN (k9 C k) f = cN C f := by unfold k9; rw [cw_sR_N, cw_sR_N, cw_sI_N, cw_sI_N, cw_sI_N, cw_sR_N, cw_sI_N, cw_sI_N, cw_sL_N]
theorem kIn_of {C : cw_C} {ad1 : Nat → Nat → Nat} {k b : Nat} {w : Int64} {p : Int32} (hb : ad1 21 (cN C 21) = b) : kIn C ad1 (cw_sI (cw_sL (cw_sR (cw_new (k9 C k) 21) 4 k 11 (some b)) 4 k 0 w) 4 k 1 p) k w p := by
  have e4 : cw_new (k9 C k) 21 4 = k9 C k 4 := cw_ext_o (by decide)
  refine ⟨fun f h4 h21 => ?_, ?_, ?_, fun i j hi => ⟨?_, ?_, ?_⟩, ⟨?_, ?_, ?_, ?_⟩, ?_, ?_, ?_⟩
  · rw [cw_sI_o h4, cw_sL_o h4, cw_sR_o h4]; exact (cw_ext_o h21).trans (k9_o h4)
  · rw [cw_sI_N, cw_sL_N, cw_sR_N, cN_o e4, k9_N]
  · rw [cw_sI_o (by decide), cw_sL_o (by decide), cw_sR_o (by decide)]
    unfold cw_new
    rw [cw_ext_f, cw_ext_f, k9_o (by decide), k9_N]
  · rw [cI_sI_n (by omega), cI_sL, cI_sR, cI_o e4]
    unfold k9
    rw [cI_sR, cI_sR, cI_sI_n (by omega), cI_sI_n (by omega), cI_sI_n (by omega), cI_sR, cI_sI_n (by omega), cI_sI_n (by omega), cI_sL]
  · rw [cL_sI, cL_sL_n (by omega), cL_sR, cL_o e4]
    unfold k9
    rw [cL_sR, cL_sR, cL_sI, cL_sI, cL_sI, cL_sR, cL_sI, cL_sI, cL_sL_n (by omega)]
  · rw [cR_sI, cR_sL, cR_sR_n (by omega), cR_o e4]
    unfold k9
    rw [cR_sR_n (by omega), cR_sR_n (by omega), cR_sI, cR_sI, cR_sI, cR_sR_n (by omega), cR_sI, cR_sI, cR_sL]
  · rw [cL_sI, cL_sL_e]
  · rw [cI_sI_e]
  · rw [cL_sI, cL_sL_n (by omega), cL_sR, cL_o e4]
    unfold k9
    rw [cL_sR, cL_sR, cL_sI, cL_sI, cL_sI, cL_sR, cL_sI, cL_sI, cL_sL_e]
  · rw [cI_sI_n (by omega), cI_sL, cI_sR, cI_o e4]
    unfold k9
    rw [cI_sR, cI_sR, cI_sI_n (by omega), cI_sI_n (by omega), cI_sI_n (by omega), cI_sR, cI_sI_n (by omega), cI_sI_e]
  · rw [cR_sI, cR_sL, cR_sR_n (by omega), cR_o e4]
    unfold k9
    rw [cR_sR_n (by omega), cR_sR_e]
  · rw [cR_sI, cR_sL, cR_sR_n (by omega), cR_o e4]
    unfold k9
    rw [cR_sR_e]
  · rw [cR_sI, cR_sL, cR_sR_e, hb]

theorem x4_init {G : mm_G} {L : Nat × Nat} {d : Nat} {h : mm_H} {h0 : mm_H} {ad : Nat → Nat → Nat} {C : cw_C} {k : Nat} {w : Int64} {p : Int32} (n4 : k < cN C 4) (hL1 : h.2.1 + 1 ≤ L.1) (hL2 : h.2.2 + 6 ≤ L.2) (hC : cw ad h0 C h) : mm_Ok G mX4_init L (d + 1) [.ref (ad 4 k), .long w, .int p] h (fun r h1 => ∃ ad1 C1, cw ad1 h0 C1 h1 ∧ (∀ f i, i < cN C f → ad1 f i = ad f i) ∧ kIn C ad1 C1 k w p ∧ h1.2 = (h.2.1 + 1, h.2.2 + 6) ∧ r = none) := by
  refine mm_Ok.of [(0, .ref (ad 4 k)), (1, .long w), (3, .int p)] rfl kX4_init.2.2.2.2.2 rfl (fun A => ?_)
  refine mm_aload_n (pc := 0) dX4_init_0 rfl (by first | trivial | assumption | exact mm_isr_rf _) ?_
  refine mm_objInit (pc := 1) dX4_init_1 ol_X4_3 mm_objI mm_objC (Nat.le_of_ble_eq_true rfl) ?_
  refine mm_aload_n (pc := 4) dX4_init_4 rfl (by first | trivial | assumption | exact mm_isr_rf _) ?_
  refine mm_lconst (pc := 5) (v := 0) dX4_init_5 (by decide) ?_
  refine cw_pl (pc := 6) 4 _ 2 hC (rfl) rfl (n4) dX4_init_6 (pl_X4_9 _) rfl rfl (fun h6 hC e6 => ?_)
  refine mm_aload_n (pc := 9) dX4_init_9 rfl (by first | trivial | assumption | exact mm_isr_rf _) ?_
  refine mm_iconst (pc := 10) (v := 0) dX4_init_10 (by decide) ?_
  refine cw_pi (pc := 11) 4 _ 3 hC (rfl) rfl (by rw [cw_sL_N]; exact n4) dX4_init_11 (pl_X4_15 _) rfl rfl (rfl) (rfl) (fun h11 hC e11 => ?_)
  refine mm_aload_n (pc := 14) dX4_init_14 rfl (by first | trivial | assumption | exact mm_isr_rf _) ?_
  refine mm_iconst (pc := 15) (v := 0) dX4_init_15 (by decide) ?_
  refine cw_pi (pc := 16) 4 _ 4 hC (rfl) rfl (by rw [cw_sI_N, cw_sL_N]; exact n4) dX4_init_16 (pl_X4_19 _) rfl rfl (rfl) (rfl) (fun h16 hC e16 => ?_)
  refine mm_aload_n (pc := 19) dX4_init_19 rfl (by first | trivial | assumption | exact mm_isr_rf _) ?_
  refine mm_null (pc := 20) dX4_init_20 ?_
  refine cw_pr (pc := 21) (x := none) 4 _ 5 hC (rfl) rfl (by rw [cw_sI_N, cw_sI_N, cw_sL_N]; exact n4) dX4_init_21 (pl_X4_22 _) rfl rfl (rfl) (fun h21 hC e21 => ?_)
  refine mm_aload_n (pc := 24) dX4_init_24 rfl (by first | trivial | assumption | exact mm_isr_rf _) ?_
  refine mm_iconst (pc := 25) (v := 0) dX4_init_25 (by decide) ?_
  refine cw_pi (pc := 26) 4 _ 6 hC (rfl) rfl (by rw [cw_sR_N, cw_sI_N, cw_sI_N, cw_sL_N]; exact n4) dX4_init_26 (pl_X4_26 _) rfl rfl (rfl) (rfl) (fun h26 hC e26 => ?_)
  refine mm_aload_n (pc := 29) dX4_init_29 rfl (by first | trivial | assumption | exact mm_isr_rf _) ?_
  refine mm_bipush (pc := 30) (v := (-7)) dX4_init_30 (by decide) ?_
  refine cw_pi (pc := 32) 4 _ 7 hC (rfl) rfl (by rw [cw_sI_N, cw_sR_N, cw_sI_N, cw_sI_N, cw_sL_N]; exact n4) dX4_init_32 (pl_X4_29 _) rfl rfl (rfl) (rfl) (fun h32 hC e32 => ?_)
  refine mm_aload_n (pc := 35) dX4_init_35 rfl (by first | trivial | assumption | exact mm_isr_rf _) ?_
  refine mm_iconst (pc := 36) (v := 0) dX4_init_36 (by decide) ?_
  refine cw_pi (pc := 37) 4 _ 8 hC (rfl) rfl (by rw [cw_sI_N, cw_sI_N, cw_sR_N, cw_sI_N, cw_sI_N, cw_sL_N]; exact n4) dX4_init_37 (pl_X4_32 _) rfl rfl (rfl) (rfl) (fun h37 hC e37 => ?_)
  refine mm_aload_n (pc := 40) dX4_init_40 rfl (by first | trivial | assumption | exact mm_isr_rf _) ?_
  refine mm_null (pc := 41) dX4_init_41 ?_
  refine cw_pr (pc := 42) (x := none) 4 _ 9 hC (rfl) rfl (by rw [cw_sI_N, cw_sI_N, cw_sI_N, cw_sR_N, cw_sI_N, cw_sI_N, cw_sL_N]; exact n4) dX4_init_42 (pl_X4_35 _) rfl rfl (rfl) (fun h42 hC e42 => ?_)
  refine mm_aload_n (pc := 45) dX4_init_45 rfl (by first | trivial | assumption | exact mm_isr_rf _) ?_
  refine mm_null (pc := 46) dX4_init_46 ?_
  refine cw_pr (pc := 47) (x := none) 4 _ 10 hC (rfl) rfl (by rw [cw_sR_N, cw_sI_N, cw_sI_N, cw_sI_N, cw_sR_N, cw_sI_N, cw_sI_N, cw_sL_N]; exact n4) dX4_init_47 (pl_X4_39 _) rfl rfl (rfl) (fun h47 hC e47 => ?_)
  have hC : cw ad h0 (k9 C k) h47 := hC
  have e47_ : h47.2 = h.2 := by rw [e47, e42, e37, e32, e26, e21, e16, e11, e6]
  refine mm_aload_n (pc := 50) dX4_init_50 rfl (by first | trivial | assumption | exact mm_isr_rf _) ?_
  refine mm_bipush (pc := 51) (v := 6) dX4_init_51 (by decide) ?_
  refine mm_anew (pc := 53) (N := 6) (t := 6) (i := 4) dX4_init_53 al_X4_42 rfl rfl (by decide) (by decide) (by decide) ((by rw [show h47.2 = h.2 by rw [e47, e42, e37, e32, e26, e21, e16, e11, e6]]; exact hL1)) ((by rw [show h47.2 = h.2 by rw [e47, e42, e37, e32, e26, e21, e16, e11, e6]]; exact hL2)) ?_
  have hC := hC.new 21 (by decide) rfl rfl
  rw [show h47.2.1 = h.2.1 by rw [e47_]] at hC ⊢
  have en : cw_ad ad (k9 C k) 21 h.2.1 21 (cN C 21) = h.2.1 := by rw [← k9_N (C := C) (k := k)]; exact cw_ad_n
  have ek : cw_ad ad (k9 C k) 21 h.2.1 4 k = ad 4 k := cw_ad_o (by rw [k9_N]; exact n4)
  have ea : ∀ f i, i < cN C f → cw_ad ad (k9 C k) 21 h.2.1 f i = ad f i := fun f i hi => cw_ad_o (by rw [k9_N]; exact hi)
  have n4c : k < cN (cw_new (k9 C k) 21) 4 := by rw [show cN (cw_new (k9 C k) 21) 4 = cN (k9 C k) 4 from cN_ext_o (by decide), k9_N]; exact n4
  rw [← ek]
  have es : ∀ v, (mm_push h47 v).2 = (h.2.1 + 1, h.2.2 + v.2.length) := fun v => by unfold mm_push; rw [e47_]
  generalize hg1 : cw_ad ad (k9 C k) 21 h.2.1 = ad1 at *
  refine cw_prA (pc := 56) 4 _ 11 hC (rfl) rfl (n4c) dX4_init_56 (pl_X4_44) rfl rfl rfl rfl (fun h56 hC e56 => ?_)
  refine mm_aload_n (pc := 59) dX4_init_59 rfl (by first | trivial | assumption | exact mm_isr_rf _) ?_
  refine mm_lload_n (pc := 60) dX4_init_60 rfl ?_
  refine cw_pl (pc := 61) 4 _ 0 hC (rfl) rfl ((by rw [cw_sR_N]; exact n4c)) dX4_init_61 (pl_X4_48) rfl rfl (fun h61 hC e61 => ?_)
  refine mm_aload_n (pc := 64) dX4_init_64 rfl (by first | trivial | assumption | exact mm_isr_rf _) ?_
  refine mm_iload_n (pc := 65) dX4_init_65 rfl ?_
  refine cw_pi (pc := 66) 4 _ 1 hC (rfl) rfl ((by rw [cw_sL_N, cw_sR_N]; exact n4c)) dX4_init_66 (pl_X4_51) rfl rfl (rfl) (rfl) (fun h66 hC e66 => ?_)
  refine mm_vret (pc := 69) dX4_init_69 rfl ?_
  exact ⟨ad1, _, hC, ea, kIn_of en, by rw [e66, e61, e56]; exact es _, rfl⟩

