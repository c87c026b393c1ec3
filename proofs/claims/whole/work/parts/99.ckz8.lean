theorem etC_o {ad : Nat → Nat → Nat} {C : cw_C} {ne x f : Nat} {I : Nat → Int32} {Rr : Nat → Option Nat} (h3 : ¬ f = 3) (h11 : ¬ f = 11) (h17 : ¬ f = 17) : etC ad C ne I Rr x f = C f := (cw_sI_o h11).trans ((cw_sR_o h17).trans ((cw_row_o h3).trans (cw_ext_o h3)))
/-- what charge enters -/
def chI (w x : Int32) (j : Nat) : Int32 := [1, 0, 0, w, w, 0, x].getD j 0
def chR (v : Nat) (j : Nat) : Option Nat := [none, some v, none].getD j none
def egP (ad : Nat → Nat → Nat) (h0 : mm_H) (C : cw_C) (h : mm_H) (ne a : Nat) (w x : Int32) (r : Option Value) (h1 : mm_H) : Prop := r = some (.int (cI C 9 a 3)) ∧ cw (cw_ad ad C 3 h.2.1) h0 (etC ad C ne (chI w x) (chR (cw_ad ad C 3 h.2.1 9 a)) h.2.1) h1 ∧ h1.2 = (h.2.1 + 1, h.2.2 + 7)

theorem cg_89 {G : mm_G} {L : Nat × Nat} {d : Nat} {A : Nat → Prop} {h h0 : mm_H} {ad : Nat → Nat → Nat} {C : cw_C} {ne a : Nat} {w x : Int32} (h3N : cN C 3 = ne) (hn : ne < 512) (n11 : 0 < cN C 11) (n17 : 0 < cN C 17) (n9 : a < cN C 9) (z7 : cR C 11 0 7 = some (ad 17 0)) (z8 : cI C 11 0 8 = nI ne) (hL1 : h.2.1 + 1 ≤ L.1) (hL2 : h.2.2 + 7 ≤ L.2) (hC : cw ad h0 C h) : mm_Run G mX11_charge A L (d + 2) 89 [(0, .ref (ad 11 0)), (2, .int w), (3, .int x), (4, .ref (ad 9 a))] [] h (egP ad h0 C h ne a w x) := by
  refine mm_aload_n (pc := 89) dX11_charge_89 rfl (by first | trivial | assumption | exact mm_isr_rf _) ?_
  refine mm_new (pc := 90) dX11_charge_90 nl_X11_43 (hL1) (hL2) ?_
  have hC := hC.new 3 (by decide) rfl rfl
  have en : cw_ad ad C 3 h.2.1 3 ne = h.2.1 := by rw [← h3N]; exact cw_ad_n
  have e11 : cw_ad ad C 3 h.2.1 11 0 = ad 11 0 := cw_ad_o n11
  have e9 : cw_ad ad C 3 h.2.1 9 a = ad 9 a := cw_ad_o n9
  have e17 : cw_ad ad C 3 h.2.1 17 0 = ad 17 0 := cw_ad_o n17
  rw [← en, ← e11, ← e9]
  have m3 : ne < cN (cw_new C 3) 3 := by rw [show cN (cw_new C 3) 3 = cN C 3 + 1 from cN_ext]; omega
  have m11 : 0 < cN (cw_new C 3) 11 := by rw [show cN (cw_new C 3) 11 = cN C 11 from cN_ext_o (by decide)]; exact n11
  have m17 : 0 < cN (cw_new C 3) 17 := by rw [show cN (cw_new C 3) 17 = cN C 17 from cN_ext_o (by decide)]; exact n17
  have m9 : a < cN (cw_new C 3) 9 := by rw [show cN (cw_new C 3) 9 = cN C 9 from cN_ext_o (by decide)]; exact n9
  refine mm_dup (pc := 93) dX11_charge_93 rfl ?_
  refine mm_iconst (pc := 94) (v := 1) dX11_charge_94 (by decide) ?_
  refine mm_aload (pc := 95) dX11_charge_95 rfl (by first | trivial | assumption | exact mm_isr_rf _) ?_
  refine mm_null (pc := 97) dX11_charge_97 ?_
  refine mm_iload_n (pc := 98) dX11_charge_98 rfl ?_
  refine mm_iload_n (pc := 99) dX11_charge_99 rfl ?_
  refine mm_iconst (pc := 100) (v := 0) dX11_charge_100 (by decide) ?_
  refine mm_iload_n (pc := 101) dX11_charge_101 rfl ?_
  refine mm_callI (pc := 102) (As := [_, _, _, _, _, _, _]) dX11_charge_102 il_X11_214 (ok_X3_initN (cw_cell (f := 3) hC rfl rfl m3)) rfl rfl (Nat.le_of_ble_eq_true rfl) ?_
  rintro _ h102 ⟨rfl, e102⟩
  have hC := hC.row 3 ne (by decide) m3 (chI w x) (fun _ => 0) (chR (cw_ad ad C 3 h.2.1 9 a)) e102
  have s102 : h102.2 = (h.2.1 + 1, h.2.2 + 7) := by rw [e102]; rfl
  have ro : ∀ f, ¬ f = 3 → (cw_row (cw_new C 3) 3 ne (chI w x) (fun _ => 0) (chR (cw_ad ad C 3 h.2.1 9 a))) f = C f := fun f hf => (cw_row_o hf).trans (cw_ext_o hf)
  have r7 : cR (cw_row (cw_new C 3) 3 ne (chI w x) (fun _ => 0) (chR (cw_ad ad C 3 h.2.1 9 a))) 11 0 7 = some (cw_ad ad C 3 h.2.1 17 0) := by rw [cR_o (ro 11 (by decide)), e17]; exact z7
  have r8 : cI (cw_row (cw_new C 3) 3 ne (chI w x) (fun _ => 0) (chR (cw_ad ad C 3 h.2.1 9 a))) 11 0 8 = nI ne := by rw [cI_o (ro 11 (by decide))]; exact z8
  have m11 : 0 < cN (cw_row (cw_new C 3) 3 ne (chI w x) (fun _ => 0) (chR (cw_ad ad C 3 h.2.1 9 a))) 11 := by rw [cw_row_N]; exact m11
  have m17 : 0 < cN (cw_row (cw_new C 3) 3 ne (chI w x) (fun _ => 0) (chR (cw_ad ad C 3 h.2.1 9 a))) 17 := by rw [cw_row_N]; exact m17
  have m3 : ne < cN (cw_row (cw_new C 3) 3 ne (chI w x) (fun _ => 0) (chR (cw_ad ad C 3 h.2.1 9 a))) 3 := by rw [cw_row_N]; exact m3
  have m9 : a < cN (cw_row (cw_new C 3) 3 ne (chI w x) (fun _ => 0) (chR (cw_ad ad C 3 h.2.1 9 a))) 9 := by rw [cw_row_N]; exact m9
  refine mm_callV (pc := 105) (As := [_]) (kd := ?kd_105_1) (fs := ?fs_105_1) dX11_charge_105 vl_X11_217 (et_ok (e := ne) m11 m17 m3 r7 r8 hn hC) ?hc_105_1 ?hk_105_1 rfl rfl (Nat.le_of_ble_eq_true rfl) ?_; (case hc_105_1 => exact cw_cell (f := 11) hC rfl rfl m11); (case hk_105_1 => rfl)
  rintro _ h105 ⟨hC, s105, rfl⟩
  refine mm_aload (pc := 108) dX11_charge_108 rfl (by first | trivial | assumption | exact mm_isr_rf _) ?_
  refine cw_gi (pc := 110) 9 a 3 hC (rfl) rfl ((by rw [cw_sI_N, cw_sR_N]; exact m9)) dX11_charge_110 fl_X11_208 rfl rfl rfl ?_
  refine mm_iret (pc := 113) dX11_charge_113 rfl ?_
  exact ⟨congrArg (fun z => some (Value.int z)) (cI_o (etC_o (by decide) (by decide) (by decide))), hC, by rw [s105, s102]⟩

