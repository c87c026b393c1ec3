theorem rb_dead {G : mm_G} {L : Nat × Nat} {d : Nat} {h : mm_H} {h0 : mm_H} {ad : Nat → Nat → Nat} {C : cw_C} {b : Nat} {x : Int32} (n1 : b < cN C 1) {p : Nat} (hr : rD ad C p) (hC : cw ad h0 C h) : mm_Ok G mX6_readBlock L (d + 2) [.ref (ad 6 0), .ref (ad 1 b), .int x] h (fun r h1 => h1 = h ∧ r = some .null) := by
  refine mm_Ok.of [(0, .ref (ad 6 0)), (1, .ref (ad 1 b)), (2, .int x)] rfl kX6_readBlock.2.2.2.2.2 rfl (fun A => ?_)
  obtain ⟨n6, hf, hp8, t, hnow, n10⟩ := id hr
  refine mm_iload_n (pc := 0) dX6_readBlock_0 rfl ?_
  refine mm_bipush (pc := 1) (v := 6) dX6_readBlock_1 (by decide) ?_
  refine mm_icmp_le (pc := 3) (tgt := 12) dX6_readBlock_3 (by decide) (fun c3 => ?_) (fun c3 => ?_)
  · refine mm_aload_n (pc := 12) dX6_readBlock_12 rfl (by first | trivial | assumption | exact mm_isr_rf _) ?_
    refine mm_iconst (pc := 13) (v := 4) dX6_readBlock_13 (by decide) ?_
    refine mm_callV (pc := 14) (As := [_]) (kd := ?kd_14_1) (fs := ?fs_14_1) dX6_readBlock_14 vl_X6_31 (tk_dead hr hC) ?hc_14_1 ?hk_14_1 rfl rfl (Nat.le_of_ble_eq_true rfl) ?_; (case hc_14_1 => exact cw_cell (f := 6) hC rfl rfl n6); (case hk_14_1 => rfl)
    rintro _ _ ⟨rfl, v14, rfl⟩
    refine mm_pop2 (pc := 17) dX6_readBlock_17 rfl ?_
    refine mm_null (pc := 18) dX6_readBlock_18 ?_
    refine mm_astore_n (pc := 19) dX6_readBlock_19 (by first | trivial | assumption | exact mm_isr_rf _) rfl (Nat.le_of_ble_eq_true rfl) ?_
    refine mm_null (pc := 20) dX6_readBlock_20 ?_
    refine mm_astore (pc := 21) dX6_readBlock_21 (by first | trivial | assumption | exact mm_isr_rf _) rfl (Nat.le_of_ble_eq_true rfl) ?_
    refine mm_iconst (pc := 23) (v := 0) dX6_readBlock_23 (by decide) ?_
    refine mm_istore (pc := 24) dX6_readBlock_24 rfl (Nat.le_of_ble_eq_true rfl) ?_
    refine mm_iload (pc := 26) dX6_readBlock_26 rfl ?_
    refine mm_bipush (pc := 28) (v := 60) dX6_readBlock_28 (by decide) ?_
    refine mm_icmp_ge (pc := 30) (tgt := 85) dX6_readBlock_30 (by decide) (fun c30 => absurd c30 (by decide)) (fun c30 => ?_)
    refine mm_aload_n (pc := 33) dX6_readBlock_33 rfl (by first | trivial | assumption | exact mm_isr_rf _) ?_
    refine cw_gi (pc := 34) 1 _ 6 hC (rfl) rfl (n1) dX6_readBlock_34 fl_X6_106 rfl rfl rfl ?_
    refine mm_bipush (pc := 37) (v := 60) dX6_readBlock_37 (by decide) ?_
    refine mm_icmp_ge (pc := 39) (tgt := 85) dX6_readBlock_39 (by decide) (fun c39 => ?_) (fun c39 => ?_)
    · refine mm_aload_n (pc := 85) dX6_readBlock_85 rfl (by first | trivial | assumption | exact mm_isr_rf _) ?_
      refine mm_iconst (pc := 86) (v := 5) dX6_readBlock_86 (by decide) ?_
      refine mm_callV (pc := 87) (As := [_]) (kd := ?kd_87_2) (fs := ?fs_87_2) dX6_readBlock_87 vl_X6_31 (tk_dead hr hC) ?hc_87_2 ?hk_87_2 rfl rfl (Nat.le_of_ble_eq_true rfl) ?_; (case hc_87_2 => exact cw_cell (f := 6) hC rfl rfl n6); (case hk_87_2 => rfl)
      rintro _ _ ⟨rfl, v87, rfl⟩
      refine mm_pop2 (pc := 90) dX6_readBlock_90 rfl ?_
      refine mm_aload_n (pc := 91) dX6_readBlock_91 rfl (by first | trivial | assumption | exact mm_isr_rf _) ?_
      refine mm_aret (pc := 92) dX6_readBlock_92 rfl (Or.inl ⟨_, rfl⟩) (by first | trivial | assumption | exact mm_isr_rf _) ?_
      exact ⟨rfl, rfl⟩
    · refine mm_aload_n (pc := 42) dX6_readBlock_42 rfl (by first | trivial | assumption | exact mm_isr_rf _) ?_
      refine mm_callV (pc := 43) (As := []) (kd := ?kd_43_3) (fs := ?fs_43_3) dX6_readBlock_43 vl_X6_109 (ba_dead hr hC) ?hc_43_3 ?hk_43_3 rfl rfl (Nat.le_of_ble_eq_true rfl) ?_; (case hc_43_3 => exact cw_cell (f := 6) hC rfl rfl n6); (case hk_43_3 => rfl)
      rintro _ _ ⟨rfl, rfl⟩
      refine mm_if_eq (pc := 46) (tgt := 85) dX6_readBlock_46 (by decide) (fun c46 => ?_) (fun c46 => absurd rfl c46)
      refine mm_aload_n (pc := 85) dX6_readBlock_85 rfl (by first | trivial | assumption | exact mm_isr_rf _) ?_
      refine mm_iconst (pc := 86) (v := 5) dX6_readBlock_86 (by decide) ?_
      refine mm_callV (pc := 87) (As := [_]) (kd := ?kd_87_4) (fs := ?fs_87_4) dX6_readBlock_87 vl_X6_31 (tk_dead hr hC) ?hc_87_4 ?hk_87_4 rfl rfl (Nat.le_of_ble_eq_true rfl) ?_; (case hc_87_4 => exact cw_cell (f := 6) hC rfl rfl n6); (case hk_87_4 => rfl)
      rintro _ _ ⟨rfl, v87, rfl⟩
      refine mm_pop2 (pc := 90) dX6_readBlock_90 rfl ?_
      refine mm_aload_n (pc := 91) dX6_readBlock_91 rfl (by first | trivial | assumption | exact mm_isr_rf _) ?_
      refine mm_aret (pc := 92) dX6_readBlock_92 rfl (Or.inl ⟨_, rfl⟩) (by first | trivial | assumption | exact mm_isr_rf _) ?_
      exact ⟨rfl, rfl⟩
  · refine mm_aload_n (pc := 6) dX6_readBlock_6 rfl (by first | trivial | assumption | exact mm_isr_rf _) ?_
    refine mm_callV (pc := 7) (As := []) (kd := ?kd_7_5) (fs := ?fs_7_5) dX6_readBlock_7 vl_X6_103 (sp_dead hr hC) ?hc_7_5 ?hk_7_5 rfl rfl (Nat.le_of_ble_eq_true rfl) ?_; (case hc_7_5 => exact cw_cell (f := 6) hC rfl rfl n6); (case hk_7_5 => rfl)
    rintro _ _ ⟨rfl, rfl⟩
    refine mm_null (pc := 10) dX6_readBlock_10 ?_
    refine mm_aret (pc := 11) dX6_readBlock_11 rfl (Or.inl ⟨_, rfl⟩) (by first | trivial | assumption | exact mm_isr_rf _) ?_
    exact ⟨rfl, rfl⟩

theorem tn_any {G : mm_G} {L : Nat × Nat} {d : Nat} {h : mm_H} {h0 : mm_H} {ad : Nat → Nat → Nat} {C : cw_C} {tb : Nat → Nat} {n t : Nat} (htb : ∀ i, tb i < 256) (hr : rL ad C tb n t) (hn : n ≤ 800) (hC : cw ad h0 C h) : mm_Ok G mX6_takeNumber L (d + 1) [.ref (ad 6 0)] h (fun r h1 => ∃ C1, cw ad h0 C1 h1 ∧ k6 C C1 ∧ h1.2 = h.2 ∧ ∃ x : Int32, r = some (.int x) ∧ ((rL ad C1 tb n (t + 1) ∧ ((cd tb n t = 32 ∧ x = -1) ∨ (cd tb n t = 3 ∧ x = nI (nu tb n t)))) ∨ (¬ cd tb n t = 32 ∧ ¬ cd tb n t = 3 ∧ rD ad C1 (qs tb n t)))) := by
  by_cases e : cd tb n t = 32
  · refine mm_Ok.post (tn_a hr hn hC e) ?_
    rintro r h1 ⟨C1, a, b, c_, f, g⟩
    exact ⟨C1, a, b, c_, _, g, Or.inl ⟨f, Or.inl ⟨e, rfl⟩⟩⟩
  · by_cases e3 : cd tb n t = 3
    · refine mm_Ok.post (tn_n htb hr hn hC e3) ?_
      rintro r h1 ⟨C1, a, b, c_, f, g⟩
      exact ⟨C1, a, b, c_, _, g, Or.inl ⟨f, Or.inr ⟨e3, rfl⟩⟩⟩
    · refine mm_Ok.post (tn_bad hr hn hC e3 e) ?_
      rintro r h1 ⟨C1, a, b, c_, f, x, g⟩
      exact ⟨C1, a, b, c_, x, g, Or.inr ⟨e, e3, f⟩⟩
theorem th_any {G : mm_G} {L : Nat × Nat} {d : Nat} {h : mm_H} {h0 : mm_H} {ad : Nat → Nat → Nat} {C : cw_C} {tb : Nat → Nat} {n t : Nat} (hr : rL ad C tb n t) (hn : n ≤ 800) (hC : cw ad h0 C h) : mm_Ok G mX6_takeHook L (d + 1) [.ref (ad 6 0)] h (fun r h1 => ∃ C1, cw ad h0 C1 h1 ∧ k6 C C1 ∧ h1.2 = h.2 ∧ ∃ x : Int32, r = some (.int x) ∧ (((7 ≤ cd tb n t ∧ cd tb n t < 13) ∧ rL ad C1 tb n (t + 1) ∧ x = nI (cd tb n t - 7)) ∨ (¬ (7 ≤ cd tb n t ∧ cd tb n t < 13) ∧ rD ad C1 (qs tb n t) ∧ x = 0))) := by
  by_cases e : 7 ≤ cd tb n t ∧ cd tb n t < 13
  · refine mm_Ok.post (th_ok hr hn hC e) ?_
    rintro r h1 ⟨C1, a, b, c_, f, g⟩
    exact ⟨C1, a, b, c_, _, g, Or.inl ⟨e, f, rfl⟩⟩
  · refine mm_Ok.post (th_bad hr hn hC e) ?_
    rintro r h1 ⟨C1, a, b, c_, f, g⟩
    exact ⟨C1, a, b, c_, _, g, Or.inr ⟨e, f, rfl⟩⟩
def acc0 : mm_C := (0, [.int 0, .int 0, .int 0, .null, .null, .null])
theorem sBd.take {ad : Nat → Nat → Nat} {C C2 : cw_C} {tb : Nat → Nat} {n t b : Nat} {M M' : mw_S} {t' : Nat} (h : sBd ad C tb n M t b) (k : k6 C C2) (hr : rL ad C2 tb n t') (h13 : M'.1 13 = M.1 13) (h47 : M'.1 47 = M.1 47) (h14 : M'.2.2.1 14 = M.2.2.1 14) (h15 : M'.2.2.1 15 = M.2.2.1 15) (h16 : M'.2.2.1 16 = M.2.2.1 16) (h17 : M'.2.2.1 17 = M.2.2.1 17) (h18 : M'.2.2.1 18 = M.2.2.1 18) (h83 : M'.2.2.1 83 = M.2.2.1 83) : sBd ad C2 tb n M' t' b := by
  refine ⟨hr, h.2.1.same ((k 0).1 (by decide)) (fun _ _ => rfl) h13 h14 h15 h16 h17 h18 h83, ?_, ?_⟩
  · unfold cN; rw [(k 1).1 (by decide)]; exact h.2.2.1
  · unfold cI b47; rw [(k 1).1 (by decide), h47]; exact h.2.2.2
/-- inside an action: all is well so far -/
def lS (h0 : mm_H) (A0 : Nat) (ad : Nat → Nat → Nat) (C : cw_C) (b : Nat) (B : Nat × Nat) (tb : Nat → Nat) (n a0 t a : Nat) (ad1 : Nat → Nat → Nat) (C1 : cw_C) (h1 : mm_H) (Mx : mw_S) (tx : Nat) : Prop :=
  cw ad1 h0 C1 h1 ∧ fB A0 ad C ad1 C1 b ∧ sBd ad1 C1 tb n Mx tx b ∧ rmB n B h1 (qs tb n tx) ∧ a < cN C1 0 ∧ cI C1 0 a 0 = nI (cd tb n t) ∧ cR C1 0 a 4 = none ∧ pI tb n a0 Mx tx ∧ t + 1 ≤ tx
/-- inside an action: a fault was found -/
def dS (h0 : mm_H) (A0 : Nat) (ad : Nat → Nat → Nat) (C : cw_C) (b : Nat) (B : Nat × Nat) (n a : Nat) (Z : pr_T) (ad1 : Nat → Nat → Nat) (C1 : cw_C) (h1 : mm_H) : Prop :=
  cw ad1 h0 C1 h1 ∧ fB A0 ad C ad1 C1 b ∧ (∃ p, rD ad1 C1 p ∧ Z.2.1.1 24 = nI p) ∧ Z.1 = -1 ∧ rmB n B h1 n ∧ a < cN C1 0 ∧ b < cN C1 1
theorem k6.N {C C1 : cw_C} (k : k6 C C1) {g : Nat} (h : ¬ g = 6) : cN C1 g = cN C g := (k g).2
theorem cI_o {C C1 : cw_C} {g i j : Nat} (h : C1 g = C g) : cI C1 g i j = cI C g i j := by unfold cI; rw [h]
theorem cR_o {C C1 : cw_C} {g i j : Nat} (h : C1 g = C g) : cR C1 g i j = cR C g i j := by unfold cR; rw [h]
theorem cL_o {C C1 : cw_C} {g i j : Nat} (h : C1 g = C g) : cL C1 g i j = cL C g i j := by unfold cL; rw [h]
theorem cN_o {C C1 : cw_C} {g : Nat} (h : C1 g = C g) : cN C1 g = cN C g := by unfold cN; rw [h]

theorem ra_d216 {G : mm_G} {L : Nat × Nat} {h0 : mm_H} {tb : Nat → Nat} {n k q f d deep t b A0 : Nat} {M : mw_S} {ad : Nat → Nat → Nat} {C : cw_C} {B : Nat × Nat} {A : Nat → Prop} {a : Nat}  {ad1 : Nat → Nat → Nat} {C1 : cw_C} {h1 : mm_H} (hs : dS h0 A0 ad C b B n a (pA tb n (pL tb n k q f) k q M t deep) ad1 C1 h1) (hA : A0 ≤ a) : mm_Run G mX6_readAction A L (d + 4) 216 [(3, .ref (ad1 0 a)), (0, .ref (ad1 6 0)), (1, .ref (ad1 1 b)), (2, .int (nI deep))] [] h1 (aQ h0 A0 ad C b B tb n (-1) (pA tb n (pL tb n k q f) k q M t deep)) := by
  obtain ⟨hC, fb, ⟨p, hr, hp⟩, hz, hrm, n0, n1⟩ := hs
  have n6 := hr.1
  refine mm_aload_n (pc := 216) dX6_readAction_216 rfl (by first | trivial | assumption | exact mm_isr_rf _) ?_
  refine mm_bipush (pc := 217) (v := 6) dX6_readAction_217 (by decide) ?_
  refine mm_callV (pc := 219) (As := [_]) (kd := ?kd_219_6) (fs := ?fs_219_6) dX6_readAction_219 vl_X6_31 (tk_dead hr hC) ?hc_219_6 ?hk_219_6 rfl rfl (Nat.le_of_ble_eq_true rfl) ?_; (case hc_219_6 => exact cw_cell (f := 6) hC rfl rfl n6); (case hk_219_6 => rfl)
  rintro _ _ ⟨rfl, v219, rfl⟩
  refine mm_pop2 (pc := 222) dX6_readAction_222 rfl ?_
  refine mm_aload_n (pc := 223) dX6_readAction_223 rfl (by first | trivial | assumption | exact mm_isr_rf _) ?_
  refine mm_aret (pc := 224) dX6_readAction_224 rfl (Or.inl ⟨_, rfl⟩) (by first | trivial | assumption | exact mm_isr_rf _) ?_
  exact ⟨_, _, hC, fb, Or.inr ⟨hz, p, hr, hp, hrm.mono (Nat.le_refl _) rfl, _, show _ = some (va_rf (some _)) from rfl⟩⟩

theorem ra_d213 {G : mm_G} {L : Nat × Nat} {h0 : mm_H} {tb : Nat → Nat} {n k q f d deep t b A0 : Nat} {M : mw_S} {ad : Nat → Nat → Nat} {C : cw_C} {B : Nat × Nat} {A : Nat → Prop} {a : Nat} {x : Int32} {ad1 : Nat → Nat → Nat} {C1 : cw_C} {h1 : mm_H} (hs : dS h0 A0 ad C b B n a (pA tb n (pL tb n k q f) k q M t deep) ad1 C1 h1) (hA : A0 ≤ a) : mm_Run G mX6_readAction A L (d + 4) 213 [(3, .ref (ad1 0 a)), (0, .ref (ad1 6 0)), (1, .ref (ad1 1 b)), (2, .int (nI deep))] [.int x, .ref (ad1 0 a)] h1 (aQ h0 A0 ad C b B tb n (-1) (pA tb n (pL tb n k q f) k q M t deep)) := by
  obtain ⟨hC, fb, ⟨p, hr, hp⟩, hz, hrm, n0, n1⟩ := hs
  have n6 := hr.1
  refine cw_pi (pc := 213) 0 _ 2 hC (rfl) rfl (n0) dX6_readAction_213 (pl_X6_130 _) rfl rfl (rfl) (rfl) (fun h213 hC e213 => ?_)
  exact ra_d216 ⟨hC, fb.sI0 hA, ⟨p, hr.same (cw_sI_o (by decide)) (cw_sI_o (by decide)) (fun _ _ => rfl), hp⟩, hz, hrm.mono (Nat.le_refl _) e213, by rw [cw_sI_N]; exact n0, by rw [cw_sI_N]; exact n1⟩ hA

theorem ra_d202 {G : mm_G} {L : Nat × Nat} {h0 : mm_H} {tb : Nat → Nat} {n k q f d deep t b A0 : Nat} {M : mw_S} {ad : Nat → Nat → Nat} {C : cw_C} {B : Nat × Nat} {A : Nat → Prop} {a : Nat} {x : Int32} {ad1 : Nat → Nat → Nat} {C1 : cw_C} {h1 : mm_H} (hs : dS h0 A0 ad C b B n a (pA tb n (pL tb n k q f) k q M t deep) ad1 C1 h1) (hA : A0 ≤ a) : mm_Run G mX6_readAction A L (d + 4) 202 [(3, .ref (ad1 0 a)), (0, .ref (ad1 6 0)), (1, .ref (ad1 1 b)), (2, .int (nI deep))] [.int x, .ref (ad1 0 a)] h1 (aQ h0 A0 ad C b B tb n (-1) (pA tb n (pL tb n k q f) k q M t deep)) := by
  obtain ⟨hC, fb, ⟨p, hr, hp⟩, hz, hrm, n0, n1⟩ := hs
  have n6 := hr.1
  refine cw_pi (pc := 202) 0 _ 2 hC (rfl) rfl (n0) dX6_readAction_202 (pl_X6_130 _) rfl rfl (rfl) (rfl) (fun h202 hC e202 => ?_)
  refine mm_goto (pc := 205) (tgt := 216) dX6_readAction_205 (by decide) ?_
  exact ra_d216 ⟨hC, fb.sI0 hA, ⟨p, hr.same (cw_sI_o (by decide)) (cw_sI_o (by decide)) (fun _ _ => rfl), hp⟩, hz, hrm.mono (Nat.le_refl _) e202, by rw [cw_sI_N]; exact n0, by rw [cw_sI_N]; exact n1⟩ hA

theorem ra_d145 {G : mm_G} {L : Nat × Nat} {h0 : mm_H} {tb : Nat → Nat} {n k q f d deep t b A0 : Nat} {M : mw_S} {ad : Nat → Nat → Nat} {C : cw_C} {B : Nat × Nat} {A : Nat → Prop} {a : Nat} {o : Option Nat} {ad1 : Nat → Nat → Nat} {C1 : cw_C} {h1 : mm_H} (hs : dS h0 A0 ad C b B n a (pA tb n (pL tb n k q f) k q M t deep) ad1 C1 h1) (hA : A0 ≤ a) : mm_Run G mX6_readAction A L (d + 4) 145 [(3, .ref (ad1 0 a)), (0, .ref (ad1 6 0)), (1, .ref (ad1 1 b)), (2, .int (nI deep))] [va_rf o, .ref (ad1 0 a)] h1 (aQ h0 A0 ad C b B tb n (-1) (pA tb n (pL tb n k q f) k q M t deep)) := by
  obtain ⟨hC, fb, ⟨p, hr, hp⟩, hz, hrm, n0, n1⟩ := hs
  have n6 := hr.1
  refine cw_pr (pc := 145) (x := o) 0 _ 4 hC (rfl) rfl (n0) dX6_readAction_145 (pl_X6_136 _) rfl rfl (rfl) (fun h145 hC e145 => ?_)
  refine mm_aload_n (pc := 148) dX6_readAction_148 rfl (by first | trivial | assumption | exact mm_isr_rf _) ?_
  refine mm_aret (pc := 149) dX6_readAction_149 rfl (Or.inl ⟨_, rfl⟩) (by first | trivial | assumption | exact mm_isr_rf _) ?_
  exact ⟨_, _, hC, fb.sR0 hA, Or.inr ⟨hz, p, hr.same (cw_sR_o (by decide)) (cw_sR_o (by decide)) (fun _ _ => rfl), hp, hrm.mono (Nat.le_refl _) e145, _, show _ = some (va_rf (some _)) from rfl⟩⟩

theorem ra_d178 {G : mm_G} {L : Nat × Nat} {h0 : mm_H} {tb : Nat → Nat} {n k q f d deep t b A0 : Nat} {M : mw_S} {ad : Nat → Nat → Nat} {C : cw_C} {B : Nat × Nat} {A : Nat → Prop} {a : Nat} {o : Option Nat} {ad1 : Nat → Nat → Nat} {C1 : cw_C} {h1 : mm_H} (hs : dS h0 A0 ad C b B n a (pA tb n (pL tb n k q f) k q M t deep) ad1 C1 h1) (hA : A0 ≤ a) : mm_Run G mX6_readAction A L (d + 4) 178 [(3, .ref (ad1 0 a)), (0, .ref (ad1 6 0)), (1, .ref (ad1 1 b)), (2, .int (nI deep))] [va_rf o, .ref (ad1 0 a)] h1 (aQ h0 A0 ad C b B tb n (-1) (pA tb n (pL tb n k q f) k q M t deep)) := by
  obtain ⟨hC, fb, ⟨p, hr, hp⟩, hz, hrm, n0, n1⟩ := hs
  have n6 := hr.1
  refine cw_pr (pc := 178) (x := o) 0 _ 4 hC (rfl) rfl (n0) dX6_readAction_178 (pl_X6_136 _) rfl rfl (rfl) (fun h178 hC e178 => ?_)
  refine mm_aload_n (pc := 181) dX6_readAction_181 rfl (by first | trivial | assumption | exact mm_isr_rf _) ?_
  refine mm_aret (pc := 182) dX6_readAction_182 rfl (Or.inl ⟨_, rfl⟩) (by first | trivial | assumption | exact mm_isr_rf _) ?_
  exact ⟨_, _, hC, fb.sR0 hA, Or.inr ⟨hz, p, hr.same (cw_sR_o (by decide)) (cw_sR_o (by decide)) (fun _ _ => rfl), hp, hrm.mono (Nat.le_refl _) e178, _, show _ = some (va_rf (some _)) from rfl⟩⟩

theorem ra_d117 {G : mm_G} {L : Nat × Nat} {h0 : mm_H} {tb : Nat → Nat} {n k q f d deep t b A0 : Nat} {M : mw_S} {ad : Nat → Nat → Nat} {C : cw_C} {B : Nat × Nat} {A : Nat → Prop} {a : Nat} {o : Option Nat} {ad1 : Nat → Nat → Nat} {C1 : cw_C} {h1 : mm_H} (hs : dS h0 A0 ad C b B n a (pA tb n (pL tb n k q f) k q M t deep) ad1 C1 h1) (hA : A0 ≤ a) : mm_Run G mX6_readAction A L (d + 4) 117 [(3, .ref (ad1 0 a)), (0, .ref (ad1 6 0)), (1, .ref (ad1 1 b)), (2, .int (nI deep))] [va_rf o, .ref (ad1 0 a)] h1 (aQ h0 A0 ad C b B tb n (-1) (pA tb n (pL tb n k q f) k q M t deep)) := by
  obtain ⟨hC, fb, ⟨p, hr, hp⟩, hz, hrm, n0, n1⟩ := hs
  have n6 := hr.1
  refine cw_pr (pc := 117) (x := o) 0 _ 3 hC (rfl) rfl (n0) dX6_readAction_117 (pl_X6_133 _) rfl rfl (rfl) (fun h117 hC e117 => ?_)
  refine mm_aload_n (pc := 120) dX6_readAction_120 rfl (by first | trivial | assumption | exact mm_isr_rf _) ?_
  refine mm_bipush (pc := 121) (v := 30) dX6_readAction_121 (by decide) ?_
  refine mm_callV (pc := 123) (As := [_]) (kd := ?kd_123_7) (fs := ?fs_123_7) dX6_readAction_123 vl_X6_39 (se_dead (hr.same (cw_sR_o (by decide)) (cw_sR_o (by decide)) (fun _ _ => rfl)) hC) ?hc_123_7 ?hk_123_7 rfl rfl (Nat.le_of_ble_eq_true rfl) ?_; (case hc_123_7 => exact cw_cell (f := 6) hC rfl rfl n6); (case hk_123_7 => rfl)
  rintro _ _ ⟨rfl, rfl⟩
  refine mm_if_eq (pc := 126) (tgt := 148) dX6_readAction_126 (by decide) (fun c126 => ?_) (fun c126 => absurd rfl c126)
  refine mm_aload_n (pc := 148) dX6_readAction_148 rfl (by first | trivial | assumption | exact mm_isr_rf _) ?_
  refine mm_aret (pc := 149) dX6_readAction_149 rfl (Or.inl ⟨_, rfl⟩) (by first | trivial | assumption | exact mm_isr_rf _) ?_
  exact ⟨_, _, hC, fb.sR0 hA, Or.inr ⟨hz, p, hr.same (cw_sR_o (by decide)) (cw_sR_o (by decide)) (fun _ _ => rfl), hp, hrm.mono (Nat.le_refl _) e117, _, show _ = some (va_rf (some _)) from rfl⟩⟩

theorem ra_d105 {G : mm_G} {L : Nat × Nat} {h0 : mm_H} {tb : Nat → Nat} {n k q f d deep t b A0 : Nat} {M : mw_S} {ad : Nat → Nat → Nat} {C : cw_C} {B : Nat × Nat} {A : Nat → Prop} {a : Nat} {x : Int32} {ad1 : Nat → Nat → Nat} {C1 : cw_C} {h1 : mm_H} (hs : dS h0 A0 ad C b B n a (pA tb n (pL tb n k q f) k q M t deep) ad1 C1 h1) (hA : A0 ≤ a) : mm_Run G mX6_readAction A L (d + 4) 105 [(3, .ref (ad1 0 a)), (0, .ref (ad1 6 0)), (1, .ref (ad1 1 b)), (2, .int (nI deep))] [.int x, .ref (ad1 0 a)] h1 (aQ h0 A0 ad C b B tb n (-1) (pA tb n (pL tb n k q f) k q M t deep)) := by
  obtain ⟨hC, fb, ⟨p, hr, hp⟩, hz, hrm, n0, n1⟩ := hs
  have n6 := hr.1
  refine cw_pi (pc := 105) 0 _ 2 hC (rfl) rfl (n0) dX6_readAction_105 (pl_X6_130 _) rfl rfl (rfl) (rfl) (fun h105 hC e105 => ?_)
  refine mm_aload_n (pc := 108) dX6_readAction_108 rfl (by first | trivial | assumption | exact mm_isr_rf _) ?_
  refine mm_aload_n (pc := 109) dX6_readAction_109 rfl (by first | trivial | assumption | exact mm_isr_rf _) ?_
  refine mm_aload_n (pc := 110) dX6_readAction_110 rfl (by first | trivial | assumption | exact mm_isr_rf _) ?_
  refine mm_iload_n (pc := 111) dX6_readAction_111 rfl ?_
  refine mm_iconst (pc := 112) (v := 1) dX6_readAction_112 (by decide) ?_
  refine mm_iadd (pc := 113) dX6_readAction_113 ?_
  refine mm_callV (pc := 114) (As := [_, _]) (kd := ?kd_114_8) (fs := ?fs_114_8) dX6_readAction_114 vl_X6_91 (rb_dead (b := b) (by rw [cw_sI_N]; exact n1) (hr.same (cw_sI_o (by decide)) (cw_sI_o (by decide)) (fun _ _ => rfl)) hC) ?hc_114_8 ?hk_114_8 rfl rfl (Nat.le_of_ble_eq_true rfl) ?_; (case hc_114_8 => exact cw_cell (f := 6) hC rfl rfl n6); (case hk_114_8 => rfl)
  rintro _ _ ⟨rfl, rfl⟩
  exact ra_d117 (o := none) ⟨hC, fb.sI0 hA, ⟨p, hr.same (cw_sI_o (by decide)) (cw_sI_o (by decide)) (fun _ _ => rfl), hp⟩, hz, hrm.mono (Nat.le_refl _) e105, by rw [cw_sI_N]; exact n0, by rw [cw_sI_N]; exact n1⟩ hA

theorem ra_d168 {G : mm_G} {L : Nat × Nat} {h0 : mm_H} {tb : Nat → Nat} {n k q f d deep t b A0 : Nat} {M : mw_S} {ad : Nat → Nat → Nat} {C : cw_C} {B : Nat × Nat} {A : Nat → Prop} {a : Nat} {v : Int64} {ad1 : Nat → Nat → Nat} {C1 : cw_C} {h1 : mm_H} (hs : dS h0 A0 ad C b B n a (pA tb n (pL tb n k q f) k q M t deep) ad1 C1 h1) (hA : A0 ≤ a) : mm_Run G mX6_readAction A L (d + 4) 168 [(3, .ref (ad1 0 a)), (0, .ref (ad1 6 0)), (1, .ref (ad1 1 b)), (2, .int (nI deep))] [.long v] h1 (aQ h0 A0 ad C b B tb n (-1) (pA tb n (pL tb n k q f) k q M t deep)) := by
  obtain ⟨hC, fb, ⟨p, hr, hp⟩, hz, hrm, n0, n1⟩ := hs
  have n6 := hr.1
  refine mm_pop2 (pc := 168) dX6_readAction_168 rfl ?_
  refine mm_aload_n (pc := 169) dX6_readAction_169 rfl (by first | trivial | assumption | exact mm_isr_rf _) ?_
  refine mm_aload_n (pc := 170) dX6_readAction_170 rfl (by first | trivial | assumption | exact mm_isr_rf _) ?_
  refine mm_aload_n (pc := 171) dX6_readAction_171 rfl (by first | trivial | assumption | exact mm_isr_rf _) ?_
  refine mm_iload_n (pc := 172) dX6_readAction_172 rfl ?_
  refine mm_iconst (pc := 173) (v := 1) dX6_readAction_173 (by decide) ?_
  refine mm_iadd (pc := 174) dX6_readAction_174 ?_
  refine mm_callV (pc := 175) (As := [_, _]) (kd := ?kd_175_9) (fs := ?fs_175_9) dX6_readAction_175 vl_X6_91 (rb_dead (b := b) n1 hr hC) ?hc_175_9 ?hk_175_9 rfl rfl (Nat.le_of_ble_eq_true rfl) ?_; (case hc_175_9 => exact cw_cell (f := 6) hC rfl rfl n6); (case hk_175_9 => rfl)
  rintro _ _ ⟨rfl, rfl⟩
  exact ra_d178 (o := none) ⟨hC, fb, ⟨p, hr, hp⟩, hz, hrm, n0, n1⟩ hA

theorem ra_d159 {G : mm_G} {L : Nat × Nat} {h0 : mm_H} {tb : Nat → Nat} {n k q f d deep t b A0 : Nat} {M : mw_S} {ad : Nat → Nat → Nat} {C : cw_C} {B : Nat × Nat} {A : Nat → Prop} {a : Nat} {o : Option Nat} {ad1 : Nat → Nat → Nat} {C1 : cw_C} {h1 : mm_H} (hs : dS h0 A0 ad C b B n a (pA tb n (pL tb n k q f) k q M t deep) ad1 C1 h1) (hA : A0 ≤ a) : mm_Run G mX6_readAction A L (d + 4) 159 [(3, .ref (ad1 0 a)), (0, .ref (ad1 6 0)), (1, .ref (ad1 1 b)), (2, .int (nI deep))] [va_rf o, .ref (ad1 0 a)] h1 (aQ h0 A0 ad C b B tb n (-1) (pA tb n (pL tb n k q f) k q M t deep)) := by
  obtain ⟨hC, fb, ⟨p, hr, hp⟩, hz, hrm, n0, n1⟩ := hs
  have n6 := hr.1
  refine cw_pr (pc := 159) (x := o) 0 _ 3 hC (rfl) rfl (n0) dX6_readAction_159 (pl_X6_133 _) rfl rfl (rfl) (fun h159 hC e159 => ?_)
  refine mm_aload_n (pc := 162) dX6_readAction_162 rfl (by first | trivial | assumption | exact mm_isr_rf _) ?_
  refine mm_bipush (pc := 163) (v := 31) dX6_readAction_163 (by decide) ?_
  refine mm_callV (pc := 165) (As := [_]) (kd := ?kd_165_10) (fs := ?fs_165_10) dX6_readAction_165 vl_X6_31 (tk_dead (hr.same (cw_sR_o (by decide)) (cw_sR_o (by decide)) (fun _ _ => rfl)) hC) ?hc_165_10 ?hk_165_10 rfl rfl (Nat.le_of_ble_eq_true rfl) ?_; (case hc_165_10 => exact cw_cell (f := 6) hC rfl rfl n6); (case hk_165_10 => rfl)
  rintro _ _ ⟨rfl, v165, rfl⟩
  exact ra_d168 ⟨hC, fb.sR0 hA, ⟨p, hr.same (cw_sR_o (by decide)) (cw_sR_o (by decide)) (fun _ _ => rfl), hp⟩, hz, hrm.mono (Nat.le_refl _) e159, by rw [cw_sR_N]; exact n0, by rw [cw_sR_N]; exact n1⟩ hA

theorem ra_l216 {G : mm_G} {L : Nat × Nat} {h0 : mm_H} {tb : Nat → Nat} {n k q f d deep t b A0 : Nat} {M : mw_S} {ad : Nat → Nat → Nat} {C : cw_C} {B : Nat × Nat} {A : Nat → Prop} {a : Nat}  {a0 : Nat} {ad1 : Nat → Nat → Nat} {C1 : cw_C} {h1 : mm_H} {Mx : mw_S} {tx : Nat} (hs : lS h0 A0 ad C b B tb n a0 t a ad1 C1 h1 Mx tx) (hA : A0 ≤ a) (hz : (pA tb n (pL tb n k q f) k q M t deep) = pE a (pT tb n Mx tx 6)) (ha4 : a < 4000) : mm_Run G mX6_readAction A L (d + 4) 216 [(3, .ref (ad1 0 a)), (0, .ref (ad1 6 0)), (1, .ref (ad1 1 b)), (2, .int (nI deep))] [] h1 (aQ h0 A0 ad C b B tb n (-1) (pA tb n (pL tb n k q f) k q M t deep)) := by
  obtain ⟨hC, fb, sb, hrm, n0, hw0, hw4, hI, htx⟩ := hs
  have hr := sb.1
  have n6 := hr.1
  have n1 := sb.2.2.1
  have hn8 : n ≤ 800 := by have := hI.n7; omega
  refine mm_aload_n (pc := 216) dX6_readAction_216 rfl (by first | trivial | assumption | exact mm_isr_rf _) ?_
  refine mm_bipush (pc := 217) (v := 6) dX6_readAction_217 (by decide) ?_
  refine mm_callV (pc := 219) (As := [_]) (kd := ?kd_219_11) (fs := ?fs_219_11) dX6_readAction_219 vl_X6_31 (tk_any (c := 6) hr hn8 hC (by decide) (by decide)) ?hc_219_11 ?hk_219_11 rfl rfl (Nat.le_of_ble_eq_true rfl) ?_; (case hc_219_11 => exact cw_cell (f := 6) hC rfl rfl n6); (case hk_219_11 => rfl)
  rintro _ h219 ⟨C2, hC, k_, e_, ⟨v_, rfl, -⟩, ⟨cm, hr2⟩ | ⟨cm, hr2⟩⟩
  · have hz2 : (pA tb n (pL tb n k q f) k q M t deep) = (nI a, pw tb n Mx tx, tx + 1) := by rw [hz]; unfold pE pT; rw [if_pos cm]; rfl
    refine mm_pop2 (pc := 222) dX6_readAction_222 rfl ?_
    refine mm_aload_n (pc := 223) dX6_readAction_223 rfl (by first | trivial | assumption | exact mm_isr_rf _) ?_
    refine mm_aret (pc := 224) dX6_readAction_224 rfl (Or.inl ⟨_, rfl⟩) (by first | trivial | assumption | exact mm_isr_rf _) ?_
    refine ⟨ad1, C2, hC, fb.six k_, Or.inl ⟨?_, ?_, ?_, some (ad1 0 a), rfl, ?_⟩⟩
    · rw [hz2]; intro z; exact nI_pos (show a < 2 ^ 31 by omega) (by rw [show nI a = -1 from z]; decide)
    · rw [hz2]; exact sb.take k_ hr2 rfl rfl rfl rfl rfl rfl rfl rfl
    · rw [hz2]; exact hrm.mono (qs_le_of (Nat.le_succ tx)) e_
    · rw [hz2]; exact Or.inr ⟨a, by rw [k_.N (by decide)]; exact n0, rfl, rfl⟩
  · have hz2 : (pA tb n (pL tb n k q f) k q M t deep) = (-1, pf tb n Mx tx, tx) := by rw [hz]; unfold pE pT; rw [if_neg cm]; rfl
    refine mm_pop2 (pc := 222) dX6_readAction_222 rfl ?_
    refine mm_aload_n (pc := 223) dX6_readAction_223 rfl (by first | trivial | assumption | exact mm_isr_rf _) ?_
    refine mm_aret (pc := 224) dX6_readAction_224 rfl (Or.inl ⟨_, rfl⟩) (by first | trivial | assumption | exact mm_isr_rf _) ?_
    refine ⟨ad1, C2, hC, fb.six k_, Or.inr ⟨by rw [hz2], qs tb n tx, hr2, by rw [hz2]; rfl, hrm.mono (qs_le tx) e_, some (ad1 0 a), rfl⟩⟩

theorem ra_l208 {G : mm_G} {L : Nat × Nat} {h0 : mm_H} {tb : Nat → Nat} {n k q f d deep t b A0 : Nat} {M : mw_S} {ad : Nat → Nat → Nat} {C : cw_C} {B : Nat × Nat} {A : Nat → Prop} {a : Nat}  {a0 : Nat} {ad1 : Nat → Nat → Nat} {C1 : cw_C} {h1 : mm_H} {Mx : mw_S} {tx : Nat} (hs : lS h0 A0 ad C b B tb n a0 t a ad1 C1 h1 Mx tx) (hA : A0 ≤ a) (htb : ∀ i, tb i < 256) {o : Int32} (hz : (pA tb n (pL tb n k q f) k q M t deep) = pA2 tb n (pL tb n k q f) o a deep (pNum tb n Mx tx a)) (ho9 : ¬ o = 9) (ha4 : a < 4000) : mm_Run G mX6_readAction A L (d + 4) 208 [(3, .ref (ad1 0 a)), (0, .ref (ad1 6 0)), (1, .ref (ad1 1 b)), (2, .int (nI deep))] [] h1 (aQ h0 A0 ad C b B tb n (-1) (pA tb n (pL tb n k q f) k q M t deep)) := by
  obtain ⟨hC, fb, sb, hrm, n0, hw0, hw4, hI, htx⟩ := hs
  have hr := sb.1
  have n6 := hr.1
  have n1 := sb.2.2.1
  have hn8 : n ≤ 800 := by have := hI.n7; omega
  refine mm_aload_n (pc := 208) dX6_readAction_208 rfl (by first | trivial | assumption | exact mm_isr_rf _) ?_
  refine mm_aload_n (pc := 209) dX6_readAction_209 rfl (by first | trivial | assumption | exact mm_isr_rf _) ?_
  refine mm_callV (pc := 210) (As := []) (kd := ?kd_210_12) (fs := ?fs_210_12) dX6_readAction_210 vl_X6_127 (tn_any htb hr hn8 hC) ?hc_210_12 ?hk_210_12 rfl rfl (Nat.le_of_ble_eq_true rfl) ?_; (case hc_210_12 => exact cw_cell (f := 6) hC rfl rfl n6); (case hk_210_12 => rfl)
  rintro _ h210 ⟨C2, hC, k_, e_, x_, rfl, ⟨hr2, hx_⟩ | ⟨c32, c3, hr2⟩⟩
  · have hnum : pNum tb n Mx tx a = (1, pw tb n (mw_setV Mx 15 a x_) tx, tx + 1) := by
      unfold pNum
      rcases hx_ with ⟨z1, z2⟩ | ⟨z1, z2⟩
      · rw [if_pos z1, z2]
      · rw [if_neg (by omega), if_pos z1, z2]
    refine cw_pi (pc := 213) 0 _ 2 hC (rfl) rfl ((by rw [k_.N (by decide)]; exact n0)) dX6_readAction_213 (pl_X6_130 _) rfl rfl (rfl) (rfl) (fun h213 hC e213 => ?_)
    refine ra_l216 (Mx := pw tb n (mw_setV Mx 15 a x_) tx) (tx := tx + 1) ⟨hC, (fb.six k_).sI0 hA, ⟨hr2.same (cw_sI_o (by decide)) (cw_sI_o (by decide)) (fun _ _ => rfl), ((sb.2.1.same ((k_ 0).1 (by decide)) (fun _ _ => rfl) rfl rfl rfl rfl rfl rfl rfl).num a x_).same rfl (fun _ _ => rfl) rfl rfl rfl rfl rfl rfl rfl, by rw [cw_sI_N, k_.N (by decide)]; exact n1, by rw [cI_sI_n (by omega), cI_o ((k_ 1).1 (by decide))]; exact sb.2.2.2⟩, hrm.mono (qs_le_of (Nat.le_succ tx)) (by rw [e213, e_]), by rw [cw_sI_N, k_.N (by decide)]; exact n0, by rw [cI_sI_n (by omega), cI_o ((k_ 0).1 (by decide))]; exact hw0, by rw [cR_sI, cR_o ((k_ 0).1 (by decide))]; exact hw4, (hI.sV rfl).w, by omega⟩ hA (by rw [hz, hnum]; unfold pA2; rw [if_neg (show ¬ (1 : Int32) = 0 by decide), if_neg ho9]) ha4
  · have hnum : pNum tb n Mx tx a = (0, pf tb n Mx tx, tx) := by unfold pNum; rw [if_neg c32, if_neg c3]
    exact ra_d213 ⟨hC, fb.six k_, ⟨qs tb n tx, hr2, by rw [hz, hnum]; rfl⟩, by rw [hz, hnum]; rfl, hrm.mono (qs_le tx) e_, by rw [k_.N (by decide)]; exact n0, by rw [k_.N (by decide)]; exact n1⟩ hA

theorem ra_l186 {G : mm_G} {L : Nat × Nat} {h0 : mm_H} {tb : Nat → Nat} {n k q f d deep t b A0 : Nat} {M : mw_S} {ad : Nat → Nat → Nat} {C : cw_C} {B : Nat × Nat} {A : Nat → Prop} {a : Nat}  {a0 : Nat} {ad1 : Nat → Nat → Nat} {C1 : cw_C} {h1 : mm_H} {Mx : mw_S} {tx : Nat} (hs : lS h0 A0 ad C b B tb n a0 t a ad1 C1 h1 Mx tx) (hA : A0 ≤ a) (hz : (pA tb n (pL tb n k q f) k q M t deep) = pC tb n k q Mx tx a) (ha4 : a < 4000) : mm_Run G mX6_readAction A L (d + 4) 186 [(3, .ref (ad1 0 a)), (0, .ref (ad1 6 0)), (1, .ref (ad1 1 b)), (2, .int (nI deep))] [] h1 (aQ h0 A0 ad C b B tb n (-1) (pA tb n (pL tb n k q f) k q M t deep)) := by
  obtain ⟨hC, fb, sb, hrm, n0, hw0, hw4, hI, htx⟩ := hs
  have hr := sb.1
  have n6 := hr.1
  have n1 := sb.2.2.1
  have hn8 : n ≤ 800 := by have := hI.n7; omega
  obtain ⟨-, hf6, hnow, hrc, hwd⟩ := id hr
  obtain ⟨n10, hw, -, -⟩ := hwd.at hrc
  refine mm_aload_n (pc := 186) dX6_readAction_186 rfl (by first | trivial | assumption | exact mm_isr_rf _) ?_
  refine mm_aload_n (pc := 187) dX6_readAction_187 rfl (by first | trivial | assumption | exact mm_isr_rf _) ?_
  refine cw_grS (pc := 188) 6 _ 1 hC (rfl) rfl (n6) dX6_readAction_188 fl_X6_20 rfl rfl rfl (hnow) ?_
  refine cw_gi (pc := 191) 10 tx 1 hC (rfl) rfl (n10) dX6_readAction_191 fl_X6_47 rfl rfl rfl ?_
  refine mm_topi _ hw.2.1 ?_
  refine cw_pi (pc := 194) 0 _ 1 hC (rfl) rfl (n0) dX6_readAction_194 (pl_X6_139 _) rfl rfl (rfl) (rfl) (fun h194 hC e194 => ?_)
  have sb := (show sBd ad1 (cw_sI C1 0 a 1 (nI (qs tb n tx))) tb n (mw_setV Mx 83 a (nI (qs tb n tx))) tx b from ⟨hr.same (cw_sI_o (by decide)) (cw_sI_o (by decide)) (fun _ _ => rfl), sb.2.1.plc a _, by rw [cw_sI_N]; exact n1, by rw [cI_sI_n (by omega)]; exact sb.2.2.2⟩)
  have fb := fb.sI0 (l := 1) (x := nI (qs tb n tx)) hA
  have hr := sb.1
  have hw0 : cI (cw_sI C1 0 a 1 (nI (qs tb n tx))) 0 a 0 = nI (cd tb n t) := by rw [cI_sI_n (by omega)]; exact hw0
  have hw4 : cR (cw_sI C1 0 a 1 (nI (qs tb n tx))) 0 a 4 = none := by rw [cR_sI]; exact hw4
  have hrm := hrm.mono (Nat.le_refl _) e194
  have n0 : a < cN (cw_sI C1 0 a 1 (nI (qs tb n tx))) 0 := by rw [cw_sI_N]; exact n0
  have n1 : b < cN (cw_sI C1 0 a 1 (nI (qs tb n tx))) 1 := by rw [cw_sI_N]; exact n1
  refine mm_aload_n (pc := 197) dX6_readAction_197 rfl (by first | trivial | assumption | exact mm_isr_rf _) ?_
  refine mm_aload_n (pc := 198) dX6_readAction_198 rfl (by first | trivial | assumption | exact mm_isr_rf _) ?_
  refine mm_callV (pc := 199) (As := []) (kd := ?kd_199_13) (fs := ?fs_199_13) dX6_readAction_199 vl_X6_84 (th_any hr hn8 hC) ?hc_199_13 ?hk_199_13 rfl rfl (Nat.le_of_ble_eq_true rfl) ?_; (case hc_199_13 => exact cw_cell (f := 6) hC rfl rfl n6); (case hk_199_13 => rfl)
  rintro _ h199 ⟨C2, hC, k_, e_, x_, rfl, ⟨h7, hr2, hx_⟩ | ⟨h7, hr2, hx_⟩⟩
  · have hhk : hkI (cd tb n tx) = x_ := by unfold hkI; rw [if_pos (by omega), hx_]
    have hz2 : (pA tb n (pL tb n k q f) k q M t deep) = pE a (pT tb n (pw tb n (rm_useG (mw_setV (mw_setV Mx 15 a x_) 83 a (nI (qs tb n tx))) a (nI k) (nI q) 2 x_) tx) (tx + 1) 6) := by
      rw [hz]; unfold pC; rw [hhk, if_neg (by rw [hx_]; exact nI_pos (by omega))]
    refine cw_pi (pc := 202) 0 _ 2 hC (rfl) rfl ((by rw [k_.N (by decide)]; exact n0)) dX6_readAction_202 (pl_X6_130 _) rfl rfl (rfl) (rfl) (fun h202 hC e202 => ?_)
    refine mm_goto (pc := 205) (tgt := 216) dX6_readAction_205 (by decide) ?_
    refine ra_l216 (Mx := pw tb n (rm_useG (mw_setV (mw_setV Mx 15 a x_) 83 a (nI (qs tb n tx))) a (nI k) (nI q) 2 x_) tx) (tx := tx + 1) ⟨hC, (fb.six k_).sI0 hA, ⟨hr2.same (cw_sI_o (by decide)) (cw_sI_o (by decide)) (fun _ _ => rfl), ((sb.2.1.same ((k_ 0).1 (by decide)) (fun _ _ => rfl) rfl rfl rfl rfl rfl rfl rfl).num a x_).same rfl (fun _ _ => rfl) rfl rfl rfl rfl rfl rfl rfl, by rw [cw_sI_N, k_.N (by decide)]; exact n1, by rw [cI_sI_n (by omega), cI_o ((k_ 1).1 (by decide))]; exact sb.2.2.2⟩, hrm.mono (qs_le_of (Nat.le_succ tx)) (by rw [e202, e_]), by rw [cw_sI_N, k_.N (by decide)]; exact n0, by rw [cI_sI_n (by omega), cI_o ((k_ 0).1 (by decide))]; exact hw0, by rw [cR_sI, cR_o ((k_ 0).1 (by decide))]; exact hw4, ((hI.sV rfl).sV rfl).use (by omega), by omega⟩ hA hz2 ha4
  · have hz2 : (pA tb n (pL tb n k q f) k q M t deep) = (-1, pf tb n (mw_setV Mx 15 a (hkI (cd tb n tx))) tx, tx) := by
      rw [hz]; unfold pC; rw [if_pos (by unfold hkI; rw [if_neg (by omega)]; decide)]
    exact ra_d202 ⟨hC, fb.six k_, ⟨qs tb n tx, hr2, by rw [hz2]; rfl⟩, by rw [hz2], hrm.mono (qs_le tx) e_, by rw [k_.N (by decide)]; exact n0, by rw [k_.N (by decide)]; exact n1⟩ hA

