/-- a vessel was made -/
def mkC (ad : Nat → Nat → Nat) (C : cw_C) (na k : Nat) (s : Int32) (x : Nat) : cw_C := cw_sI (cw_sR (cw_row (cw_new C 9) 9 na (fun j => [nI na, 0, s, 0, 0].getD j 0) (fun _ => 0) (fun j => [none, some (cw_ad ad C 9 x 4 k)].getD j none)) 16 0 na (some (cw_ad ad C 9 x 9 na))) 11 0 5 (nI (na + 1))
def mkP (ad : Nat → Nat → Nat) (h0 : mm_H) (C : cw_C) (h : mm_H) (na k : Nat) (s : Int32) (r : Option Value) (h1 : mm_H) : Prop := r = some (.int (nI na)) ∧ cw (cw_ad ad C 9 h.2.1) h0 (mkC ad C na k s h.2.1) h1 ∧ h1.2 = (h.2.1 + 1, h.2.2 + 5)

theorem nI_sub1 {n : Nat} : nI (n + 1) - 1 = nI n := by
  rw [← nI_add]
  exact Int32.add_sub_cancel _ _
theorem mk_82 {G : mm_G} {L : Nat × Nat} {d : Nat} {A : Nat → Prop} {h h0 : mm_H} {ad : Nat → Nat → Nat} {C : cw_C} {na k : Nat} {s : Int32} (h9N : cN C 9 = na) (hn : na < 20) (n11 : 0 < cN C 11) (n16 : 0 < cN C 16) (n4 : k < cN C 4) (v0 : cR C 11 0 4 = some (ad 16 0)) (v1 : cI C 11 0 5 = nI na) (hL1 : h.2.1 + 1 ≤ L.1) (hL2 : h.2.2 + 5 ≤ L.2) (hC : cw ad h0 C h) : mm_Run G mX11_make A L (d + 2) 82 [(0, .ref (ad 11 0)), (2, .int s), (3, .ref (ad 4 k))] [] h (mkP ad h0 C h na k s) := by
  refine mm_aload_n (pc := 82) dX11_make_82 rfl (by first | trivial | assumption | exact mm_isr_rf _) ?_
  refine cw_grS (pc := 83) 11 _ 4 hC (rfl) rfl (n11) dX11_make_83 fl_X11_29 rfl rfl rfl (v0) ?_
  refine mm_aload_n (pc := 86) dX11_make_86 rfl (by first | trivial | assumption | exact mm_isr_rf _) ?_
  refine cw_gi (pc := 87) 11 _ 5 hC (rfl) rfl (n11) dX11_make_87 fl_X11_33 rfl rfl rfl ?_
  refine mm_topi _ v1 ?_
  refine mm_new (pc := 90) dX11_make_90 nl_X11_27 (hL1) (hL2) ?_
  have hC := hC.new 9 (by decide) rfl rfl
  have en : cw_ad ad C 9 h.2.1 9 na = h.2.1 := by rw [← h9N]; exact cw_ad_n
  have e11 : cw_ad ad C 9 h.2.1 11 0 = ad 11 0 := cw_ad_o n11
  have e16 : cw_ad ad C 9 h.2.1 16 0 = ad 16 0 := cw_ad_o n16
  have e4 : cw_ad ad C 9 h.2.1 4 k = ad 4 k := cw_ad_o n4
  rw [← en, ← e11, ← e16, ← e4]
  have m9 : na < cN (cw_new C 9) 9 := by rw [show cN (cw_new C 9) 9 = cN C 9 + 1 from cN_ext]; omega
  have m11 : 0 < cN (cw_new C 9) 11 := by rw [show cN (cw_new C 9) 11 = cN C 11 from cN_ext_o (by decide)]; exact n11
  have m16 : 0 < cN (cw_new C 9) 16 := by rw [show cN (cw_new C 9) 16 = cN C 16 from cN_ext_o (by decide)]; exact n16
  have w1 : cI (cw_new C 9) 11 0 5 = nI na := (cI_o (cw_ext_o (by decide))).trans v1
  refine mm_dup (pc := 93) dX11_make_93 rfl ?_
  refine mm_aload_n (pc := 94) dX11_make_94 rfl (by first | trivial | assumption | exact mm_isr_rf _) ?_
  refine cw_gi (pc := 95) 11 _ 5 hC (rfl) rfl (m11) dX11_make_95 fl_X11_33 rfl rfl rfl ?_
  refine mm_topi _ w1 ?_
  refine mm_aload_n (pc := 98) dX11_make_98 rfl (by first | trivial | assumption | exact mm_isr_rf _) ?_
  refine mm_iload_n (pc := 99) dX11_make_99 rfl ?_
  refine mm_callI (pc := 100) (As := [_, _, _]) dX11_make_100 il_X11_197 (ok_X9_init (cw_cell (f := 9) hC rfl rfl m9)) rfl rfl (Nat.le_of_ble_eq_true rfl) ?_
  rintro _ h100 ⟨rfl, e100⟩
  have hC := hC.row 9 na (by decide) m9 (fun j => [nI na, 0, s, 0, 0].getD j 0) (fun _ => 0) (fun j => [none, some (cw_ad ad C 9 h.2.1 4 k)].getD j none) e100
  have s100 : h100.2 = (h.2.1 + 1, h.2.2 + 5) := by rw [e100]; rfl
  have w2 : cI (cw_row (cw_new C 9) 9 na (fun j => [nI na, 0, s, 0, 0].getD j 0) (fun _ => 0) (fun j => [none, some (cw_ad ad C 9 h.2.1 4 k)].getD j none)) 11 0 5 = nI na := (cI_o (cw_row_o (by decide))).trans w1
  have m16 := (cw_row_N (C := cw_new C 9) (f := 9) (i := na) (a := fun j => [nI na, 0, s, 0, 0].getD j 0) (b := fun _ => 0) (c := fun j => [none, some (cw_ad ad C 9 h.2.1 4 k)].getD j none) (g := 16)).symm ▸ m16
  have m9 := (cw_row_N (C := cw_new C 9) (f := 9) (i := na) (a := fun j => [nI na, 0, s, 0, 0].getD j 0) (b := fun _ => 0) (c := fun j => [none, some (cw_ad ad C 9 h.2.1 4 k)].getD j none) (g := 9)).symm ▸ m9
  have m11 := (cw_row_N (C := cw_new C 9) (f := 9) (i := na) (a := fun j => [nI na, 0, s, 0, 0].getD j 0) (b := fun _ => 0) (c := fun j => [none, some (cw_ad ad C 9 h.2.1 4 k)].getD j none) (g := 11)).symm ▸ m11
  refine cw_aast (pc := 103) 16 0 na hC (rfl) rfl (m16) dX11_make_103 rfl rfl (cw_cell (f := 9) hC rfl rfl m9) rfl rfl (by first | with_reducible rfl | assumption | rfl) (by show na < 20; exact hn) (by omega) rfl (fun h103 hC e103 => ?_)
  refine mm_aload_n (pc := 104) dX11_make_104 rfl (by first | trivial | assumption | exact mm_isr_rf _) ?_
  refine mm_dup (pc := 105) dX11_make_105 rfl ?_
  refine cw_gi (pc := 106) 11 _ 5 hC (rfl) rfl ((by rw [cw_sR_N]; exact m11)) dX11_make_106 fl_X11_33 rfl rfl rfl ?_
  refine mm_topi _ (show _ = nI na from (cI_o (cw_sR_o (by decide))).trans w2) ?_
  refine mm_iconst (pc := 109) (v := 1) dX11_make_109 (by decide) ?_
  refine mm_iadd (pc := 110) dX11_make_110 ?_
  refine mm_topi _ (show nI na + 1 = nI (na + 1) from nI_add na 1) ?_
  refine cw_pi (pc := 111) 11 _ 5 hC (rfl) rfl ((by rw [cw_sR_N]; exact m11)) dX11_make_111 (pl_X11_33 _) rfl rfl (rfl) (rfl) (fun h111 hC e111 => ?_)
  refine mm_aload_n (pc := 114) dX11_make_114 rfl (by first | trivial | assumption | exact mm_isr_rf _) ?_
  refine cw_gi (pc := 115) 11 _ 5 hC (rfl) rfl ((by rw [cw_sI_N, cw_sR_N]; exact m11)) dX11_make_115 fl_X11_33 rfl rfl rfl ?_
  refine mm_topi _ (show _ = nI (na + 1) from cI_sI_e) ?_
  refine mm_iconst (pc := 118) (v := 1) dX11_make_118 (by decide) ?_
  refine mm_isub (pc := 119) dX11_make_119 ?_
  refine mm_iret (pc := 120) dX11_make_120 rfl ?_
  exact ⟨by rw [nI_sub1], hC, by rw [e111, e103, s100]⟩

