/-- a pour goes back -/
def tkP (C : cw_C) (e a b : Nat) : cw_C := cw_sI (cw_sI (tkV C e a) 9 b 3 (cI C 9 b 3 - (cI C 3 e 5 - cI C 3 e 4))) 9 b 4 (cI C 9 b 4 + cI C 3 e 6)

theorem tb_2 {G : mm_G} {L : Nat × Nat} {d : Nat} {h : mm_H} {h0 : mm_H} {ad : Nat → Nat → Nat} {C : cw_C} {e a b : Nat} (n3 : e < cN C 3) (n9 : a < cN C 9) (m9 : b < cN C 9) (hab : ¬ a = b) (r1 : cR C 3 e 1 = some (ad 9 a)) (r2 : cR C 3 e 2 = some (ad 9 b)) (hC : cw ad h0 C h) : mm_Ok G mX3_takeBack L (d) [.ref (ad 3 e)] h (fun r h1 => cw ad h0 (tkP C e a b) h1 ∧ h1.2 = h.2 ∧ r = none) := by
  refine mm_Ok.of [(0, .ref (ad 3 e))] rfl kX3_takeBack.2.2.2.2.2 rfl (fun A => ?_)
  refine mm_aload_n (pc := 0) dX3_takeBack_0 rfl (by first | trivial | assumption | exact mm_isr_rf _) ?_
  refine cw_grS (pc := 1) 3 e 1 hC (rfl) rfl (n3) dX3_takeBack_1 fl_X3_13 rfl rfl rfl (r1) ?_
  refine mm_dup (pc := 4) dX3_takeBack_4 rfl ?_
  refine cw_gi (pc := 5) 9 a 3 hC (rfl) rfl (n9) dX3_takeBack_5 fl_X3_32 rfl rfl rfl ?_
  refine mm_aload_n (pc := 8) dX3_takeBack_8 rfl (by first | trivial | assumption | exact mm_isr_rf _) ?_
  refine cw_gi (pc := 9) 3 e 5 hC (rfl) rfl (n3) dX3_takeBack_9 fl_X3_26 rfl rfl rfl ?_
  refine mm_aload_n (pc := 12) dX3_takeBack_12 rfl (by first | trivial | assumption | exact mm_isr_rf _) ?_
  refine cw_gi (pc := 13) 3 e 4 hC (rfl) rfl (n3) dX3_takeBack_13 fl_X3_23 rfl rfl rfl ?_
  refine mm_isub (pc := 16) dX3_takeBack_16 ?_
  refine mm_iadd (pc := 17) dX3_takeBack_17 ?_
  refine cw_pi (pc := 18) 9 a 3 hC (rfl) rfl (n9) dX3_takeBack_18 (pl_X3_32 _) rfl rfl (rfl) (rfl) (fun h18 hC e18 => ?_)
  refine mm_aload_n (pc := 21) dX3_takeBack_21 rfl (by first | trivial | assumption | exact mm_isr_rf _) ?_
  refine cw_grS (pc := 22) 3 e 1 hC (rfl) rfl ((by rw [cw_sI_N]; exact n3)) dX3_takeBack_22 fl_X3_13 rfl rfl rfl (((cR_o (cw_sI_o (by decide))).trans r1)) ?_
  refine mm_dup (pc := 25) dX3_takeBack_25 rfl ?_
  refine cw_gi (pc := 26) 9 a 4 hC (rfl) rfl ((by rw [cw_sI_N]; exact n9)) dX3_takeBack_26 fl_X3_37 rfl rfl rfl ?_
  refine mm_topi _ (show _ = cI C 9 a 4 from cI_sI_n (fun z => absurd z.2.2 (by decide))) ?_
  refine mm_aload_n (pc := 29) dX3_takeBack_29 rfl (by first | trivial | assumption | exact mm_isr_rf _) ?_
  refine cw_gi (pc := 30) 3 e 6 hC (rfl) rfl ((by rw [cw_sI_N]; exact n3)) dX3_takeBack_30 fl_X3_29 rfl rfl rfl ?_
  refine mm_topi _ (show _ = cI C 3 e 6 from (cI_o (cw_sI_o (by decide)))) ?_
  refine mm_isub (pc := 33) dX3_takeBack_33 ?_
  refine cw_pi (pc := 34) 9 a 4 hC (rfl) rfl ((by rw [cw_sI_N]; exact n9)) dX3_takeBack_34 (pl_X3_37 _) rfl rfl (rfl) (rfl) (fun h34 hC e34 => ?_)
  refine mm_aload_n (pc := 37) dX3_takeBack_37 rfl (by first | trivial | assumption | exact mm_isr_rf _) ?_
  refine cw_grS (pc := 38) 3 e 2 hC (rfl) rfl ((by rw [cw_sI_N, cw_sI_N]; exact n3)) dX3_takeBack_38 fl_X3_17 rfl rfl rfl (((cR_o (cw_sI_o (by decide))).trans ((cR_o (cw_sI_o (by decide))).trans r2))) ?_
  refine mm_ifnull (pc := 41) (tgt := 81) dX3_takeBack_41 (by decide) (by first | trivial | assumption | exact mm_isr_rf _) (fun c41 => by cases c41) (fun a41 c41 => ?_)
  refine mm_aload_n (pc := 44) dX3_takeBack_44 rfl (by first | trivial | assumption | exact mm_isr_rf _) ?_
  refine cw_grS (pc := 45) 3 e 2 hC (rfl) rfl ((by rw [cw_sI_N, cw_sI_N]; exact n3)) dX3_takeBack_45 fl_X3_17 rfl rfl rfl (((cR_o (cw_sI_o (by decide))).trans ((cR_o (cw_sI_o (by decide))).trans r2))) ?_
  refine mm_dup (pc := 48) dX3_takeBack_48 rfl ?_
  refine cw_gi (pc := 49) 9 b 3 hC (rfl) rfl ((by rw [cw_sI_N, cw_sI_N]; exact m9)) dX3_takeBack_49 fl_X3_32 rfl rfl rfl ?_
  refine mm_topi _ (show _ = cI C 9 b 3 from (cI_sI_n (fun z => hab z.2.1.symm)).trans (cI_sI_n (fun z => hab z.2.1.symm))) ?_
  refine mm_aload_n (pc := 52) dX3_takeBack_52 rfl (by first | trivial | assumption | exact mm_isr_rf _) ?_
  refine cw_gi (pc := 53) 3 e 5 hC (rfl) rfl ((by rw [cw_sI_N, cw_sI_N]; exact n3)) dX3_takeBack_53 fl_X3_26 rfl rfl rfl ?_
  refine mm_topi _ (show _ = cI C 3 e 5 from ((cI_o (cw_sI_o (by decide))).trans (cI_o (cw_sI_o (by decide))))) ?_
  refine mm_aload_n (pc := 56) dX3_takeBack_56 rfl (by first | trivial | assumption | exact mm_isr_rf _) ?_
  refine cw_gi (pc := 57) 3 e 4 hC (rfl) rfl ((by rw [cw_sI_N, cw_sI_N]; exact n3)) dX3_takeBack_57 fl_X3_23 rfl rfl rfl ?_
  refine mm_topi _ (show _ = cI C 3 e 4 from ((cI_o (cw_sI_o (by decide))).trans (cI_o (cw_sI_o (by decide))))) ?_
  refine mm_isub (pc := 60) dX3_takeBack_60 ?_
  refine mm_isub (pc := 61) dX3_takeBack_61 ?_
  refine cw_pi (pc := 62) 9 b 3 hC (rfl) rfl ((by rw [cw_sI_N, cw_sI_N]; exact m9)) dX3_takeBack_62 (pl_X3_32 _) rfl rfl (rfl) (rfl) (fun h62 hC e62 => ?_)
  refine mm_aload_n (pc := 65) dX3_takeBack_65 rfl (by first | trivial | assumption | exact mm_isr_rf _) ?_
  refine cw_grS (pc := 66) 3 e 2 hC (rfl) rfl ((by rw [cw_sI_N, cw_sI_N, cw_sI_N]; exact n3)) dX3_takeBack_66 fl_X3_17 rfl rfl rfl (((cR_o (cw_sI_o (by decide))).trans ((cR_o (cw_sI_o (by decide))).trans ((cR_o (cw_sI_o (by decide))).trans r2)))) ?_
  refine mm_dup (pc := 69) dX3_takeBack_69 rfl ?_
  refine cw_gi (pc := 70) 9 b 4 hC (rfl) rfl ((by rw [cw_sI_N, cw_sI_N, cw_sI_N]; exact m9)) dX3_takeBack_70 fl_X3_37 rfl rfl rfl ?_
  refine mm_topi _ (show _ = cI C 9 b 4 from (cI_sI_n (fun z => absurd z.2.2 (by decide))).trans ((cI_sI_n (fun z => hab z.2.1.symm)).trans (cI_sI_n (fun z => hab z.2.1.symm)))) ?_
  refine mm_aload_n (pc := 73) dX3_takeBack_73 rfl (by first | trivial | assumption | exact mm_isr_rf _) ?_
  refine cw_gi (pc := 74) 3 e 6 hC (rfl) rfl ((by rw [cw_sI_N, cw_sI_N, cw_sI_N]; exact n3)) dX3_takeBack_74 fl_X3_29 rfl rfl rfl ?_
  refine mm_topi _ (show _ = cI C 3 e 6 from ((cI_o (cw_sI_o (by decide))).trans ((cI_o (cw_sI_o (by decide))).trans (cI_o (cw_sI_o (by decide)))))) ?_
  refine mm_iadd (pc := 77) dX3_takeBack_77 ?_
  refine cw_pi (pc := 78) 9 b 4 hC (rfl) rfl ((by rw [cw_sI_N, cw_sI_N, cw_sI_N]; exact m9)) dX3_takeBack_78 (pl_X3_37 _) rfl rfl (rfl) (rfl) (fun h78 hC e78 => ?_)
  refine mm_vret (pc := 81) dX3_takeBack_81 rfl ?_
  exact ⟨hC, by rw [e78, e62, e34, e18], rfl⟩

