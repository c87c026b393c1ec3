/-- a record's water and heat go back -/
def tkV (C : cw_C) (e a : Nat) : cw_C := cw_sI (cw_sI C 9 a 3 (cI C 9 a 3 + (cI C 3 e 5 - cI C 3 e 4))) 9 a 4 (cI C 9 a 4 - cI C 3 e 6)

theorem tb_1 {G : mm_G} {L : Nat × Nat} {d : Nat} {h : mm_H} {h0 : mm_H} {ad : Nat → Nat → Nat} {C : cw_C} {e a : Nat} (n3 : e < cN C 3) (n9 : a < cN C 9) (r1 : cR C 3 e 1 = some (ad 9 a)) (r2 : cR C 3 e 2 = none) (hC : cw ad h0 C h) : mm_Ok G mX3_takeBack L (d) [.ref (ad 3 e)] h (fun r h1 => cw ad h0 (tkV C e a) h1 ∧ h1.2 = h.2 ∧ r = none) := by
  refine mm_Ok.of [(0, .ref (ad 3 e))] rfl kX3_takeBack.2.2.2.2.2 rfl (fun A => ?_)
  refine mm_aload_n (pc := 0) dX3_takeBack_0 rfl (by first | trivial | assumption | exact mm_isr_rf _) ?_
  refine cw_grS (pc := 1) 3 e 1 hC (rfl) rfl (n3) dX3_takeBack_1 fl_X3_13 rfl rfl rfl (r1) ?_
  refine mm_dup (pc := 4) dX3_takeBack_4 rfl ?_
  refine cw_gi (pc := 5) 9 a 3 hC (rfl) rfl (n9) dX3_takeBack_5 fl_X3_32 rfl rfl rfl ?_
  refine mm_aload_n (pc := 8) dX3_takeBack_8 rfl (by first | trivial | assumption | exact mm_isr_rf _) ?_
  refine cw_gi (pc := 9) 3 e 5 hC (rfl) rfl (n3) dX3_takeBack_9 fl_X3_26 rfl rfl rfl ?_
  refine mm_aload_n (pc := 12) dX3_takeBack_12 rfl (by first | trivial | assumption | exact mm_isr_rf _) ?_
  refine cw_gi (pc := 13) 3 e 4 hC (rfl) rfl (n3) dX3_takeBack_13 fl_X3_23 rfl rfl rfl ?_
  refine mm_isub (pc := 16) dX3_takeBack_16 ?_
  refine mm_iadd (pc := 17) dX3_takeBack_17 ?_
  refine cw_pi (pc := 18) 9 a 3 hC (rfl) rfl (n9) dX3_takeBack_18 (pl_X3_32 _) rfl rfl (rfl) (rfl) (fun h18 hC e18 => ?_)
  refine mm_aload_n (pc := 21) dX3_takeBack_21 rfl (by first | trivial | assumption | exact mm_isr_rf _) ?_
  refine cw_grS (pc := 22) 3 e 1 hC (rfl) rfl ((by rw [cw_sI_N]; exact n3)) dX3_takeBack_22 fl_X3_13 rfl rfl rfl (((cR_o (cw_sI_o (by decide))).trans r1)) ?_
  refine mm_dup (pc := 25) dX3_takeBack_25 rfl ?_
  refine cw_gi (pc := 26) 9 a 4 hC (rfl) rfl ((by rw [cw_sI_N]; exact n9)) dX3_takeBack_26 fl_X3_37 rfl rfl rfl ?_
  refine mm_topi _ (show _ = cI C 9 a 4 from cI_sI_n (fun z => absurd z.2.2 (by decide))) ?_
  refine mm_aload_n (pc := 29) dX3_takeBack_29 rfl (by first | trivial | assumption | exact mm_isr_rf _) ?_
  refine cw_gi (pc := 30) 3 e 6 hC (rfl) rfl ((by rw [cw_sI_N]; exact n3)) dX3_takeBack_30 fl_X3_29 rfl rfl rfl ?_
  refine mm_topi _ (show _ = cI C 3 e 6 from cI_o (cw_sI_o (by decide))) ?_
  refine mm_isub (pc := 33) dX3_takeBack_33 ?_
  refine cw_pi (pc := 34) 9 a 4 hC (rfl) rfl ((by rw [cw_sI_N]; exact n9)) dX3_takeBack_34 (pl_X3_37 _) rfl rfl (rfl) (rfl) (fun h34 hC e34 => ?_)
  refine mm_aload_n (pc := 37) dX3_takeBack_37 rfl (by first | trivial | assumption | exact mm_isr_rf _) ?_
  refine cw_grN (pc := 38) 3 e 2 hC (rfl) rfl ((by rw [cw_sI_N, cw_sI_N]; exact n3)) dX3_takeBack_38 fl_X3_17 rfl rfl rfl (((cR_o (cw_sI_o (by decide))).trans ((cR_o (cw_sI_o (by decide))).trans r2))) ?_
  refine mm_ifnull (pc := 41) (tgt := 81) dX3_takeBack_41 (by decide) (by first | trivial | assumption | exact mm_isr_rf _) (fun c41 => ?_) (fun a41 c41 => by cases c41)
  refine mm_vret (pc := 81) dX3_takeBack_81 rfl ?_
  exact ⟨hC, by rw [e34, e18], rfl⟩

