/-- what pour enters -/
def prI (x v : Int32) (j : Nat) : Int32 := [2, 0, 0, x, 0, x, -v].getD j 0
def prR (a b : Nat) (j : Nat) : Option Nat := [none, some a, some b].getD j none
def ppP (ad : Nat → Nat → Nat) (h0 : mm_H) (C : cw_C) (h : mm_H) (ne a b : Nat) (x v : Int32) (r : Option Value) (h1 : mm_H) : Prop := r = some (.int v) ∧ cw (cw_ad ad C 3 h.2.1) h0 (etC ad C ne (prI x v) (prR (cw_ad ad C 3 h.2.1 9 a) (cw_ad ad C 3 h.2.1 9 b)) h.2.1) h1 ∧ h1.2 = (h.2.1 + 1, h.2.2 + 7)
/-- water and heat went from a to b -/
def prV (C : cw_C) (a b : Nat) (x v : Int32) : cw_C := cw_sI (cw_sI (cw_sI (cw_sI C 9 a 3 (cI C 9 a 3 - x)) 9 a 4 (cI C 9 a 4 - v)) 9 b 3 (cI C 9 b 3 + x)) 9 b 4 (cI C 9 b 4 + v)
theorem prV_o {C : cw_C} {a b f : Nat} {x v : Int32} (h : ¬ f = 9) : prV C a b x v f = C f := (cw_sI_o h).trans ((cw_sI_o h).trans ((cw_sI_o h).trans (cw_sI_o h)))
theorem prV_N {C : cw_C} {a b f : Nat} {x v : Int32} : cN (prV C a b x v) f = cN C f := by unfold prV; rw [cw_sI_N, cw_sI_N, cw_sI_N, cw_sI_N]
def prY (ad : Nat → Nat → Nat) (h0 : mm_H) (C : cw_C) (h : mm_H) (ne a b : Nat) (x v : Int32) (r : Option Value) (h1 : mm_H) : Prop := r = some (.int v) ∧ cw (cw_ad ad (prV C a b x v) 3 h.2.1) h0 (etC ad (prV C a b x v) ne (prI x v) (prR (ad 9 a) (ad 9 b)) h.2.1) h1 ∧ h1.2 = (h.2.1 + 1, h.2.2 + 7)

theorem pr_133 {G : mm_G} {L : Nat × Nat} {d : Nat} {A : Nat → Prop} {h h0 : mm_H} {ad : Nat → Nat → Nat} {C : cw_C} {ne a b : Nat} {x v : Int32} (h3N : cN C 3 = ne) (hn : ne < 512) (n11 : 0 < cN C 11) (n17 : 0 < cN C 17) (n9 : a < cN C 9) (n9b : b < cN C 9) (z7 : cR C 11 0 7 = some (ad 17 0)) (z8 : cI C 11 0 8 = nI ne) (hL1 : h.2.1 + 1 ≤ L.1) (hL2 : h.2.2 + 7 ≤ L.2) (hC : cw ad h0 C h) : mm_Run G mX11_pour A L (d + 2) 133 [(0, .ref (ad 11 0)), (3, .int x), (4, .ref (ad 9 a)), (5, .ref (ad 9 b)), (6, .int v)] [] h (ppP ad h0 C h ne a b x v) := by
  refine mm_aload_n (pc := 133) dX11_pour_133 rfl (by first | trivial | assumption | exact mm_isr_rf _) ?_
  refine mm_new (pc := 134) dX11_pour_134 nl_X11_43 (hL1) (hL2) ?_
  have hC := hC.new 3 (by decide) rfl rfl
  have en : cw_ad ad C 3 h.2.1 3 ne = h.2.1 := by rw [← h3N]; exact cw_ad_n
  have e11 : cw_ad ad C 3 h.2.1 11 0 = ad 11 0 := cw_ad_o n11
  have e9 : cw_ad ad C 3 h.2.1 9 a = ad 9 a := cw_ad_o n9
  have e9b : cw_ad ad C 3 h.2.1 9 b = ad 9 b := cw_ad_o n9b
  have e17 : cw_ad ad C 3 h.2.1 17 0 = ad 17 0 := cw_ad_o n17
  rw [← en, ← e11, ← e9, ← e9b]
  have m3 : ne < cN (cw_new C 3) 3 := by rw [show cN (cw_new C 3) 3 = cN C 3 + 1 from cN_ext]; omega
  have m11 : 0 < cN (cw_new C 3) 11 := by rw [show cN (cw_new C 3) 11 = cN C 11 from cN_ext_o (by decide)]; exact n11
  have m17 : 0 < cN (cw_new C 3) 17 := by rw [show cN (cw_new C 3) 17 = cN C 17 from cN_ext_o (by decide)]; exact n17
  refine mm_dup (pc := 137) dX11_pour_137 rfl ?_
  refine mm_iconst (pc := 138) (v := 2) dX11_pour_138 (by decide) ?_
  refine mm_aload (pc := 139) dX11_pour_139 rfl (by first | trivial | assumption | exact mm_isr_rf _) ?_
  refine mm_aload (pc := 141) dX11_pour_141 rfl (by first | trivial | assumption | exact mm_isr_rf _) ?_
  refine mm_iload_n (pc := 143) dX11_pour_143 rfl ?_
  refine mm_iconst (pc := 144) (v := 0) dX11_pour_144 (by decide) ?_
  refine mm_iload_n (pc := 145) dX11_pour_145 rfl ?_
  refine mm_iload (pc := 146) dX11_pour_146 rfl ?_
  refine mm_ineg (pc := 148) dX11_pour_148 ?_
  refine mm_callI (pc := 149) (As := [_, _, _, _, _, _, _]) dX11_pour_149 il_X11_214 (ok_X3_init (cw_cell (f := 3) hC rfl rfl m3)) rfl rfl (Nat.le_of_ble_eq_true rfl) ?_
  rintro _ h149 ⟨rfl, e149⟩
  have hC := hC.row 3 ne (by decide) m3 (prI x v) (fun _ => 0) (prR (cw_ad ad C 3 h.2.1 9 a) (cw_ad ad C 3 h.2.1 9 b)) e149
  have s149 : h149.2 = (h.2.1 + 1, h.2.2 + 7) := by rw [e149]; rfl
  have ro : ∀ f, ¬ f = 3 → (cw_row (cw_new C 3) 3 ne (prI x v) (fun _ => 0) (prR (cw_ad ad C 3 h.2.1 9 a) (cw_ad ad C 3 h.2.1 9 b))) f = C f := fun f hf => (cw_row_o hf).trans (cw_ext_o hf)
  have r7 : cR (cw_row (cw_new C 3) 3 ne (prI x v) (fun _ => 0) (prR (cw_ad ad C 3 h.2.1 9 a) (cw_ad ad C 3 h.2.1 9 b))) 11 0 7 = some (cw_ad ad C 3 h.2.1 17 0) := by rw [cR_o (ro 11 (by decide)), e17]; exact z7
  have r8 : cI (cw_row (cw_new C 3) 3 ne (prI x v) (fun _ => 0) (prR (cw_ad ad C 3 h.2.1 9 a) (cw_ad ad C 3 h.2.1 9 b))) 11 0 8 = nI ne := by rw [cI_o (ro 11 (by decide))]; exact z8
  have m11 : 0 < cN (cw_row (cw_new C 3) 3 ne (prI x v) (fun _ => 0) (prR (cw_ad ad C 3 h.2.1 9 a) (cw_ad ad C 3 h.2.1 9 b))) 11 := by rw [cw_row_N]; exact m11
  have m17 : 0 < cN (cw_row (cw_new C 3) 3 ne (prI x v) (fun _ => 0) (prR (cw_ad ad C 3 h.2.1 9 a) (cw_ad ad C 3 h.2.1 9 b))) 17 := by rw [cw_row_N]; exact m17
  have m3 : ne < cN (cw_row (cw_new C 3) 3 ne (prI x v) (fun _ => 0) (prR (cw_ad ad C 3 h.2.1 9 a) (cw_ad ad C 3 h.2.1 9 b))) 3 := by rw [cw_row_N]; exact m3
  refine mm_callV (pc := 152) (As := [_]) (kd := ?kd_152_1) (fs := ?fs_152_1) dX11_pour_152 vl_X11_217 (et_ok (e := ne) m11 m17 m3 r7 r8 hn hC) ?hc_152_1 ?hk_152_1 rfl rfl (Nat.le_of_ble_eq_true rfl) ?_; (case hc_152_1 => exact cw_cell (f := 11) hC rfl rfl m11); (case hk_152_1 => rfl)
  rintro _ h152 ⟨hC, s152, rfl⟩
  refine mm_iload (pc := 155) dX11_pour_155 rfl ?_
  refine mm_iret (pc := 157) dX11_pour_157 rfl ?_
  exact ⟨rfl, hC, by rw [s152, s149]⟩

