theorem ok_X0_init {G : mm_G} {L : Nat × Nat} {d : Nat} {h : mm_H} {a : Nat} {w0 w1 w2 w3 w4 w5 : Value} {x1 x2 : Int32} (hc : h.1 a = some (0, [w0, w1, w2, w3, w4, w5])) : mm_Ok G mX0_init L (d + 1) [.ref a, .int x1, .int x2] h (fun r h1 => r = none ∧ h1 = mm_set h a (0, [.int x1, .int x2, .int 0, .null, .null, .null])) := by
  refine mm_Ok.of [(0, .ref a), (1, .int x1), (2, .int x2)] rfl kX0_init.2.2.2.2.2 rfl (fun A => ?_)
  refine mm_aload_n (pc := 0) dX0_init_0 rfl (by first | trivial | assumption) ?_
  refine mm_objInit (pc := 1) dX0_init_1 ol_X0_1 mm_objI mm_objC (Nat.le_of_ble_eq_true rfl) ?_
  refine mm_aload_n (pc := 4) dX0_init_4 rfl (by first | trivial | assumption) ?_
  refine mm_iconst (pc := 5) (v := 0) dX0_init_5 (by decide) ?_
  refine mm_put (pc := 6) (kd := ?kd_6) (fs := ?fs_6) dX0_init_6 (pl_X0_7 _) ?hc_6 ?hk_6 ?hn_6 ?hf_6 ?_; (case hc_6 => first | assumption | (first | exact mm_set_eq | exact mm_push_eq | (refine mm_set_ne ?_ ?_ <;> first | assumption | (intro mm_e; subst mm_e; simp_all; done)))); (case hk_6 => rfl); (case hn_6 => rfl); (case hf_6 => rfl)
  refine mm_aload_n (pc := 9) dX0_init_9 rfl (by first | trivial | assumption) ?_
  refine mm_null (pc := 10) dX0_init_10 ?_
  refine mm_put_s (pc := 11) dX0_init_11 (pl_X0_13 _) ?hk_11 ?hn_11 ?hf_11 ?_; (case hk_11 => rfl); (case hn_11 => rfl); (case hf_11 => rfl)
  refine mm_aload_n (pc := 14) dX0_init_14 rfl (by first | trivial | assumption) ?_
  refine mm_null (pc := 15) dX0_init_15 ?_
  refine mm_put_s (pc := 16) dX0_init_16 (pl_X0_17 _) ?hk_16 ?hn_16 ?hf_16 ?_; (case hk_16 => rfl); (case hn_16 => rfl); (case hf_16 => rfl)
  refine mm_aload_n (pc := 19) dX0_init_19 rfl (by first | trivial | assumption) ?_
  refine mm_null (pc := 20) dX0_init_20 ?_
  refine mm_put_s (pc := 21) dX0_init_21 (pl_X0_20 _) ?hk_21 ?hn_21 ?hf_21 ?_; (case hk_21 => rfl); (case hn_21 => rfl); (case hf_21 => rfl)
  refine mm_aload_n (pc := 24) dX0_init_24 rfl (by first | trivial | assumption) ?_
  refine mm_iload_n (pc := 25) dX0_init_25 rfl ?_
  refine mm_put_s (pc := 26) dX0_init_26 (pl_X0_23) ?hk_26 ?hn_26 ?hf_26 ?_; (case hk_26 => rfl); (case hn_26 => rfl); (case hf_26 => rfl)
  refine mm_aload_n (pc := 29) dX0_init_29 rfl (by first | trivial | assumption) ?_
  refine mm_iload_n (pc := 30) dX0_init_30 rfl ?_
  refine mm_put_s (pc := 31) dX0_init_31 (pl_X0_26 _) ?hk_31 ?hn_31 ?hf_31 ?_; (case hk_31 => rfl); (case hn_31 => rfl); (case hf_31 => rfl)
  refine mm_vret (pc := 34) dX0_init_34 rfl ?_
  exact ⟨rfl, rfl⟩

theorem ok_X1_init {G : mm_G} {L : Nat × Nat} {d : Nat} {h : mm_H} {a : Nat} {w0 w1 w2 w3 w4 w5 w6 w7 w8 : Value} {k1 : Nat} {x1 x2 x3 z1 : Int32} (hz : z1 = 0 ∨ z1 = 1) (hc : h.1 a = some (1, [w0, w1, w2, w3, w4, w5, w6, w7, w8])) : mm_Ok G mX1_init L (d + 1) [.ref a, .ref k1, .int x1, .int x2, .int z1, .int x3] h (fun r h1 => r = none ∧ h1 = mm_set h a (1, [.ref k1, .int x1, .int x2, .int z1, .int x3, .null, .int 0, .long 0, .null])) := by
  refine mm_Ok.of [(0, .ref a), (1, .ref k1), (2, .int x1), (3, .int x2), (4, .int z1), (5, .int x3)] rfl kX1_init.2.2.2.2.2 rfl (fun A => ?_)
  refine mm_aload_n (pc := 0) dX1_init_0 rfl (by first | trivial | assumption) ?_
  refine mm_objInit (pc := 1) dX1_init_1 ol_X1_1 mm_objI mm_objC (Nat.le_of_ble_eq_true rfl) ?_
  refine mm_aload_n (pc := 4) dX1_init_4 rfl (by first | trivial | assumption) ?_
  refine mm_null (pc := 5) dX1_init_5 ?_
  refine mm_put (pc := 6) (kd := ?kd_6) (fs := ?fs_6) dX1_init_6 (pl_X1_7 _) ?hc_6 ?hk_6 ?hn_6 ?hf_6 ?_; (case hc_6 => first | assumption | (first | exact mm_set_eq | exact mm_push_eq | (refine mm_set_ne ?_ ?_ <;> first | assumption | (intro mm_e; subst mm_e; simp_all; done)))); (case hk_6 => rfl); (case hn_6 => rfl); (case hf_6 => rfl)
  refine mm_aload_n (pc := 9) dX1_init_9 rfl (by first | trivial | assumption) ?_
  refine mm_iconst (pc := 10) (v := 0) dX1_init_10 (by decide) ?_
  refine mm_put_s (pc := 11) dX1_init_11 (pl_X1_13 _) ?hk_11 ?hn_11 ?hf_11 ?_; (case hk_11 => rfl); (case hn_11 => rfl); (case hf_11 => rfl)
  refine mm_aload_n (pc := 14) dX1_init_14 rfl (by first | trivial | assumption) ?_
  refine mm_lconst (pc := 15) (v := 0) dX1_init_15 (by decide) ?_
  refine mm_put_s (pc := 16) dX1_init_16 (pl_X1_17 _) ?hk_16 ?hn_16 ?hf_16 ?_; (case hk_16 => rfl); (case hn_16 => rfl); (case hf_16 => rfl)
  refine mm_aload_n (pc := 19) dX1_init_19 rfl (by first | trivial | assumption) ?_
  refine mm_null (pc := 20) dX1_init_20 ?_
  refine mm_put_s (pc := 21) dX1_init_21 (pl_X1_21 _) ?hk_21 ?hn_21 ?hf_21 ?_; (case hk_21 => rfl); (case hn_21 => rfl); (case hf_21 => rfl)
  refine mm_aload_n (pc := 24) dX1_init_24 rfl (by first | trivial | assumption) ?_
  refine mm_aload_n (pc := 25) dX1_init_25 rfl (by first | trivial | assumption) ?_
  refine mm_put_s (pc := 26) dX1_init_26 (pl_X1_25) ?hk_26 ?hn_26 ?hf_26 ?_; (case hk_26 => rfl); (case hn_26 => rfl); (case hf_26 => rfl)
  refine mm_aload_n (pc := 29) dX1_init_29 rfl (by first | trivial | assumption) ?_
  refine mm_iload_n (pc := 30) dX1_init_30 rfl ?_
  refine mm_put_s (pc := 31) dX1_init_31 (pl_X1_29) ?hk_31 ?hn_31 ?hf_31 ?_; (case hk_31 => rfl); (case hn_31 => rfl); (case hf_31 => rfl)
  refine mm_aload_n (pc := 34) dX1_init_34 rfl (by first | trivial | assumption) ?_
  refine mm_iload_n (pc := 35) dX1_init_35 rfl ?_
  refine mm_put_s (pc := 36) dX1_init_36 (pl_X1_32) ?hk_36 ?hn_36 ?hf_36 ?_; (case hk_36 => rfl); (case hn_36 => rfl); (case hf_36 => rfl)
  refine mm_aload_n (pc := 39) dX1_init_39 rfl (by first | trivial | assumption) ?_
  refine mm_iload (pc := 40) dX1_init_40 rfl ?_
  refine mm_put_s (pc := 42) dX1_init_42 (pl_X1_35) ?hk_42 ?hn_42 ?hf_42 ?_; (case hk_42 => rfl); (case hn_42 => rcases hz with rfl | rfl <;> rfl); (case hf_42 => rcases hz with rfl | rfl <;> rfl)
  refine mm_aload_n (pc := 45) dX1_init_45 rfl (by first | trivial | assumption) ?_
  refine mm_iload (pc := 46) dX1_init_46 rfl ?_
  refine mm_put_s (pc := 48) dX1_init_48 (pl_X1_39) ?hk_48 ?hn_48 ?hf_48 ?_; (case hk_48 => rfl); (case hn_48 => rfl); (case hf_48 => rfl)
  refine mm_vret (pc := 51) dX1_init_51 rfl ?_
  exact ⟨rfl, rfl⟩

theorem ok_X2_init {G : mm_G} {L : Nat × Nat} {d : Nat} {h : mm_H} {a : Nat} {w0 w1 w2 w3 : Value} {k1 k2 : Nat} (hc : h.1 a = some (2, [w0, w1, w2, w3])) : mm_Ok G mX2_init L (d + 1) [.ref a, .ref k1, .ref k2] h (fun r h1 => r = none ∧ h1 = mm_set h a (2, [.int 0, .int (-1), .ref k1, .ref k2])) := by
  refine mm_Ok.of [(0, .ref a), (1, .ref k1), (2, .ref k2)] rfl kX2_init.2.2.2.2.2 rfl (fun A => ?_)
  refine mm_aload_n (pc := 0) dX2_init_0 rfl (by first | trivial | assumption) ?_
  refine mm_objInit (pc := 1) dX2_init_1 ol_X2_3 mm_objI mm_objC (Nat.le_of_ble_eq_true rfl) ?_
  refine mm_aload_n (pc := 4) dX2_init_4 rfl (by first | trivial | assumption) ?_
  refine mm_iconst (pc := 5) (v := 0) dX2_init_5 (by decide) ?_
  refine mm_put (pc := 6) (kd := ?kd_6) (fs := ?fs_6) dX2_init_6 (pl_X2_9 _) ?hc_6 ?hk_6 ?hn_6 ?hf_6 ?_; (case hc_6 => first | assumption | (first | exact mm_set_eq | exact mm_push_eq | (refine mm_set_ne ?_ ?_ <;> first | assumption | (intro mm_e; subst mm_e; simp_all; done)))); (case hk_6 => rfl); (case hn_6 => rfl); (case hf_6 => rfl)
  refine mm_aload_n (pc := 9) dX2_init_9 rfl (by first | trivial | assumption) ?_
  refine mm_iconst (pc := 10) (v := (-1)) dX2_init_10 (by decide) ?_
  refine mm_put_s (pc := 11) dX2_init_11 (pl_X2_15 _) ?hk_11 ?hn_11 ?hf_11 ?_; (case hk_11 => rfl); (case hn_11 => rfl); (case hf_11 => rfl)
  refine mm_aload_n (pc := 14) dX2_init_14 rfl (by first | trivial | assumption) ?_
  refine mm_aload_n (pc := 15) dX2_init_15 rfl (by first | trivial | assumption) ?_
  refine mm_put_s (pc := 16) dX2_init_16 (pl_X2_18) ?hk_16 ?hn_16 ?hf_16 ?_; (case hk_16 => rfl); (case hn_16 => rfl); (case hf_16 => rfl)
  refine mm_aload_n (pc := 19) dX2_init_19 rfl (by first | trivial | assumption) ?_
  refine mm_aload_n (pc := 20) dX2_init_20 rfl (by first | trivial | assumption) ?_
  refine mm_put_s (pc := 21) dX2_init_21 (pl_X2_22) ?hk_21 ?hn_21 ?hf_21 ?_; (case hk_21 => rfl); (case hn_21 => rfl); (case hf_21 => rfl)
  refine mm_vret (pc := 24) dX2_init_24 rfl ?_
  exact ⟨rfl, rfl⟩

theorem ok_X3_initN {G : mm_G} {L : Nat × Nat} {d : Nat} {h : mm_H} {a : Nat} {w0 w1 w2 w3 w4 w5 w6 : Value} {x1 x2 x3 x4 x5 : Int32} {k1 : Nat} (hc : h.1 a = some (3, [w0, w1, w2, w3, w4, w5, w6])) : mm_Ok G mX3_init L (d + 1) [.ref a, .int x1, .ref k1, .null, .int x2, .int x3, .int x4, .int x5] h (fun r h1 => r = none ∧ h1 = mm_set h a (3, [.int x1, .ref k1, .null, .int x2, .int x3, .int x4, .int x5])) := by
  refine mm_Ok.of [(0, .ref a), (1, .int x1), (2, .ref k1), (3, .null), (4, .int x2), (5, .int x3), (6, .int x4), (7, .int x5)] rfl kX3_init.2.2.2.2.2 rfl (fun A => ?_)
  refine mm_aload_n (pc := 0) dX3_init_0 rfl (by first | trivial | assumption) ?_
  refine mm_objInit (pc := 1) dX3_init_1 ol_X3_1 mm_objI mm_objC (Nat.le_of_ble_eq_true rfl) ?_
  refine mm_aload_n (pc := 4) dX3_init_4 rfl (by first | trivial | assumption) ?_
  refine mm_iload_n (pc := 5) dX3_init_5 rfl ?_
  refine mm_put (pc := 6) (kd := ?kd_6) (fs := ?fs_6) dX3_init_6 (pl_X3_7) ?hc_6 ?hk_6 ?hn_6 ?hf_6 ?_; (case hc_6 => first | assumption | (first | exact mm_set_eq | exact mm_push_eq | (refine mm_set_ne ?_ ?_ <;> first | assumption | (intro mm_e; subst mm_e; simp_all; done)))); (case hk_6 => rfl); (case hn_6 => rfl); (case hf_6 => rfl)
  refine mm_aload_n (pc := 9) dX3_init_9 rfl (by first | trivial | assumption) ?_
  refine mm_aload_n (pc := 10) dX3_init_10 rfl (by first | trivial | assumption) ?_
  refine mm_put_s (pc := 11) dX3_init_11 (pl_X3_13) ?hk_11 ?hn_11 ?hf_11 ?_; (case hk_11 => rfl); (case hn_11 => rfl); (case hf_11 => rfl)
  refine mm_aload_n (pc := 14) dX3_init_14 rfl (by first | trivial | assumption) ?_
  refine mm_aload_n (pc := 15) dX3_init_15 rfl (by first | trivial | assumption) ?_
  refine mm_put_s (pc := 16) dX3_init_16 (pl_X3_17) ?hk_16 ?hn_16 ?hf_16 ?_; (case hk_16 => rfl); (case hn_16 => rfl); (case hf_16 => rfl)
  refine mm_aload_n (pc := 19) dX3_init_19 rfl (by first | trivial | assumption) ?_
  refine mm_iload (pc := 20) dX3_init_20 rfl ?_
  refine mm_put_s (pc := 22) dX3_init_22 (pl_X3_20) ?hk_22 ?hn_22 ?hf_22 ?_; (case hk_22 => rfl); (case hn_22 => rfl); (case hf_22 => rfl)
  refine mm_aload_n (pc := 25) dX3_init_25 rfl (by first | trivial | assumption) ?_
  refine mm_iload (pc := 26) dX3_init_26 rfl ?_
  refine mm_put_s (pc := 28) dX3_init_28 (pl_X3_23) ?hk_28 ?hn_28 ?hf_28 ?_; (case hk_28 => rfl); (case hn_28 => rfl); (case hf_28 => rfl)
  refine mm_aload_n (pc := 31) dX3_init_31 rfl (by first | trivial | assumption) ?_
  refine mm_iload (pc := 32) dX3_init_32 rfl ?_
  refine mm_put_s (pc := 34) dX3_init_34 (pl_X3_26) ?hk_34 ?hn_34 ?hf_34 ?_; (case hk_34 => rfl); (case hn_34 => rfl); (case hf_34 => rfl)
  refine mm_aload_n (pc := 37) dX3_init_37 rfl (by first | trivial | assumption) ?_
  refine mm_iload (pc := 38) dX3_init_38 rfl ?_
  refine mm_put_s (pc := 40) dX3_init_40 (pl_X3_29) ?hk_40 ?hn_40 ?hf_40 ?_; (case hk_40 => rfl); (case hn_40 => rfl); (case hf_40 => rfl)
  refine mm_vret (pc := 43) dX3_init_43 rfl ?_
  exact ⟨rfl, rfl⟩

theorem ok_X3_init {G : mm_G} {L : Nat × Nat} {d : Nat} {h : mm_H} {a : Nat} {w0 w1 w2 w3 w4 w5 w6 : Value} {x1 x2 x3 x4 x5 : Int32} {k1 k2 : Nat} (hc : h.1 a = some (3, [w0, w1, w2, w3, w4, w5, w6])) : mm_Ok G mX3_init L (d + 1) [.ref a, .int x1, .ref k1, .ref k2, .int x2, .int x3, .int x4, .int x5] h (fun r h1 => r = none ∧ h1 = mm_set h a (3, [.int x1, .ref k1, .ref k2, .int x2, .int x3, .int x4, .int x5])) := by
  refine mm_Ok.of [(0, .ref a), (1, .int x1), (2, .ref k1), (3, .ref k2), (4, .int x2), (5, .int x3), (6, .int x4), (7, .int x5)] rfl kX3_init.2.2.2.2.2 rfl (fun A => ?_)
  refine mm_aload_n (pc := 0) dX3_init_0 rfl (by first | trivial | assumption) ?_
  refine mm_objInit (pc := 1) dX3_init_1 ol_X3_1 mm_objI mm_objC (Nat.le_of_ble_eq_true rfl) ?_
  refine mm_aload_n (pc := 4) dX3_init_4 rfl (by first | trivial | assumption) ?_
  refine mm_iload_n (pc := 5) dX3_init_5 rfl ?_
  refine mm_put (pc := 6) (kd := ?kd_6) (fs := ?fs_6) dX3_init_6 (pl_X3_7) ?hc_6 ?hk_6 ?hn_6 ?hf_6 ?_; (case hc_6 => first | assumption | (first | exact mm_set_eq | exact mm_push_eq | (refine mm_set_ne ?_ ?_ <;> first | assumption | (intro mm_e; subst mm_e; simp_all; done)))); (case hk_6 => rfl); (case hn_6 => rfl); (case hf_6 => rfl)
  refine mm_aload_n (pc := 9) dX3_init_9 rfl (by first | trivial | assumption) ?_
  refine mm_aload_n (pc := 10) dX3_init_10 rfl (by first | trivial | assumption) ?_
  refine mm_put_s (pc := 11) dX3_init_11 (pl_X3_13) ?hk_11 ?hn_11 ?hf_11 ?_; (case hk_11 => rfl); (case hn_11 => rfl); (case hf_11 => rfl)
  refine mm_aload_n (pc := 14) dX3_init_14 rfl (by first | trivial | assumption) ?_
  refine mm_aload_n (pc := 15) dX3_init_15 rfl (by first | trivial | assumption) ?_
  refine mm_put_s (pc := 16) dX3_init_16 (pl_X3_17) ?hk_16 ?hn_16 ?hf_16 ?_; (case hk_16 => rfl); (case hn_16 => rfl); (case hf_16 => rfl)
  refine mm_aload_n (pc := 19) dX3_init_19 rfl (by first | trivial | assumption) ?_
  refine mm_iload (pc := 20) dX3_init_20 rfl ?_
  refine mm_put_s (pc := 22) dX3_init_22 (pl_X3_20) ?hk_22 ?hn_22 ?hf_22 ?_; (case hk_22 => rfl); (case hn_22 => rfl); (case hf_22 => rfl)
  refine mm_aload_n (pc := 25) dX3_init_25 rfl (by first | trivial | assumption) ?_
  refine mm_iload (pc := 26) dX3_init_26 rfl ?_
  refine mm_put_s (pc := 28) dX3_init_28 (pl_X3_23) ?hk_28 ?hn_28 ?hf_28 ?_; (case hk_28 => rfl); (case hn_28 => rfl); (case hf_28 => rfl)
  refine mm_aload_n (pc := 31) dX3_init_31 rfl (by first | trivial | assumption) ?_
  refine mm_iload (pc := 32) dX3_init_32 rfl ?_
  refine mm_put_s (pc := 34) dX3_init_34 (pl_X3_26) ?hk_34 ?hn_34 ?hf_34 ?_; (case hk_34 => rfl); (case hn_34 => rfl); (case hf_34 => rfl)
  refine mm_aload_n (pc := 37) dX3_init_37 rfl (by first | trivial | assumption) ?_
  refine mm_iload (pc := 38) dX3_init_38 rfl ?_
  refine mm_put_s (pc := 40) dX3_init_40 (pl_X3_29) ?hk_40 ?hn_40 ?hf_40 ?_; (case hk_40 => rfl); (case hn_40 => rfl); (case hf_40 => rfl)
  refine mm_vret (pc := 43) dX3_init_43 rfl ?_
  exact ⟨rfl, rfl⟩

theorem ok_X9_init {G : mm_G} {L : Nat × Nat} {d : Nat} {h : mm_H} {a : Nat} {w0 w1 w2 w3 w4 : Value} {x1 x2 : Int32} {k1 : Nat} (hc : h.1 a = some (9, [w0, w1, w2, w3, w4])) : mm_Ok G mX9_init L (d + 1) [.ref a, .int x1, .ref k1, .int x2] h (fun r h1 => r = none ∧ h1 = mm_set h a (9, [.int x1, .ref k1, .int x2, .int 0, .int 0])) := by
  refine mm_Ok.of [(0, .ref a), (1, .int x1), (2, .ref k1), (3, .int x2)] rfl kX9_init.2.2.2.2.2 rfl (fun A => ?_)
  refine mm_aload_n (pc := 0) dX9_init_0 rfl (by first | trivial | assumption) ?_
  refine mm_objInit (pc := 1) dX9_init_1 ol_X9_3 mm_objI mm_objC (Nat.le_of_ble_eq_true rfl) ?_
  refine mm_aload_n (pc := 4) dX9_init_4 rfl (by first | trivial | assumption) ?_
  refine mm_iconst (pc := 5) (v := 0) dX9_init_5 (by decide) ?_
  refine mm_put (pc := 6) (kd := ?kd_6) (fs := ?fs_6) dX9_init_6 (pl_X9_9 _) ?hc_6 ?hk_6 ?hn_6 ?hf_6 ?_; (case hc_6 => first | assumption | (first | exact mm_set_eq | exact mm_push_eq | (refine mm_set_ne ?_ ?_ <;> first | assumption | (intro mm_e; subst mm_e; simp_all; done)))); (case hk_6 => rfl); (case hn_6 => rfl); (case hf_6 => rfl)
  refine mm_aload_n (pc := 9) dX9_init_9 rfl (by first | trivial | assumption) ?_
  refine mm_iconst (pc := 10) (v := 0) dX9_init_10 (by decide) ?_
  refine mm_put_s (pc := 11) dX9_init_11 (pl_X9_15 _) ?hk_11 ?hn_11 ?hf_11 ?_; (case hk_11 => rfl); (case hn_11 => rfl); (case hf_11 => rfl)
  refine mm_aload_n (pc := 14) dX9_init_14 rfl (by first | trivial | assumption) ?_
  refine mm_iload_n (pc := 15) dX9_init_15 rfl ?_
  refine mm_put_s (pc := 16) dX9_init_16 (pl_X9_18) ?hk_16 ?hn_16 ?hf_16 ?_; (case hk_16 => rfl); (case hn_16 => rfl); (case hf_16 => rfl)
  refine mm_aload_n (pc := 19) dX9_init_19 rfl (by first | trivial | assumption) ?_
  refine mm_aload_n (pc := 20) dX9_init_20 rfl (by first | trivial | assumption) ?_
  refine mm_put_s (pc := 21) dX9_init_21 (pl_X9_21) ?hk_21 ?hn_21 ?hf_21 ?_; (case hk_21 => rfl); (case hn_21 => rfl); (case hf_21 => rfl)
  refine mm_aload_n (pc := 24) dX9_init_24 rfl (by first | trivial | assumption) ?_
  refine mm_iload_n (pc := 25) dX9_init_25 rfl ?_
  refine mm_put_s (pc := 26) dX9_init_26 (pl_X9_25) ?hk_26 ?hn_26 ?hf_26 ?_; (case hk_26 => rfl); (case hn_26 => rfl); (case hf_26 => rfl)
  refine mm_vret (pc := 29) dX9_init_29 rfl ?_
  exact ⟨rfl, rfl⟩

theorem ok_X10_init {G : mm_G} {L : Nat × Nat} {d : Nat} {h : mm_H} {a : Nat} {w0 w1 w2 w3 w4 : Value} {x1 x2 x3 : Int32} {x4 : Int64} (hc : h.1 a = some (10, [w0, w1, w2, w3, w4])) : mm_Ok G mX10_init L (d + 1) [.ref a, .int x1, .int x2, .int x3, .long x4] h (fun r h1 => r = none ∧ h1 = mm_set h a (10, [.int x1, .int x2, .int x3, .long x4, .null])) := by
  refine mm_Ok.of [(0, .ref a), (1, .int x1), (2, .int x2), (3, .int x3), (4, .long x4)] rfl kX10_init.2.2.2.2.2 rfl (fun A => ?_)
  refine mm_aload_n (pc := 0) dX10_init_0 rfl (by first | trivial | assumption) ?_
  refine mm_objInit (pc := 1) dX10_init_1 ol_X10_3 mm_objI mm_objC (Nat.le_of_ble_eq_true rfl) ?_
  refine mm_aload_n (pc := 4) dX10_init_4 rfl (by first | trivial | assumption) ?_
  refine mm_null (pc := 5) dX10_init_5 ?_
  refine mm_put (pc := 6) (kd := ?kd_6) (fs := ?fs_6) dX10_init_6 (pl_X10_9 _) ?hc_6 ?hk_6 ?hn_6 ?hf_6 ?_; (case hc_6 => first | assumption | (first | exact mm_set_eq | exact mm_push_eq | (refine mm_set_ne ?_ ?_ <;> first | assumption | (intro mm_e; subst mm_e; simp_all; done)))); (case hk_6 => rfl); (case hn_6 => rfl); (case hf_6 => rfl)
  refine mm_aload_n (pc := 9) dX10_init_9 rfl (by first | trivial | assumption) ?_
  refine mm_iload_n (pc := 10) dX10_init_10 rfl ?_
  refine mm_put_s (pc := 11) dX10_init_11 (pl_X10_15) ?hk_11 ?hn_11 ?hf_11 ?_; (case hk_11 => rfl); (case hn_11 => rfl); (case hf_11 => rfl)
  refine mm_aload_n (pc := 14) dX10_init_14 rfl (by first | trivial | assumption) ?_
  refine mm_iload_n (pc := 15) dX10_init_15 rfl ?_
  refine mm_put_s (pc := 16) dX10_init_16 (pl_X10_19) ?hk_16 ?hn_16 ?hf_16 ?_; (case hk_16 => rfl); (case hn_16 => rfl); (case hf_16 => rfl)
  refine mm_aload_n (pc := 19) dX10_init_19 rfl (by first | trivial | assumption) ?_
  refine mm_iload_n (pc := 20) dX10_init_20 rfl ?_
  refine mm_put_s (pc := 21) dX10_init_21 (pl_X10_22) ?hk_21 ?hn_21 ?hf_21 ?_; (case hk_21 => rfl); (case hn_21 => rfl); (case hf_21 => rfl)
  refine mm_aload_n (pc := 24) dX10_init_24 rfl (by first | trivial | assumption) ?_
  refine mm_lload (pc := 25) dX10_init_25 rfl ?_
  refine mm_put_s (pc := 27) dX10_init_27 (pl_X10_25) ?hk_27 ?hn_27 ?hf_27 ?_; (case hk_27 => rfl); (case hn_27 => rfl); (case hf_27 => rfl)
  refine mm_vret (pc := 30) dX10_init_30 rfl ?_
  exact ⟨rfl, rfl⟩

theorem ok_X11_isHook {G : mm_G} {L : Nat × Nat} {d : Nat} {h : mm_H} {x : Int32} : mm_Ok G mX11_isHook L (d) [.int x] h (fun r h1 => h1 = h ∧ r = some (.int (if x < 0 then 0 else if 6 ≤ x then 0 else 1))) := by
  refine mm_Ok.of [(0, .int x)] rfl kX11_isHook.2.2.2.2.2 rfl (fun A => ?_)
  refine mm_iload_n (pc := 0) dX11_isHook_0 rfl ?_
  refine mm_if_lt (pc := 1) (tgt := 14) dX11_isHook_1 (by decide) (fun c1 => ?_) (fun c1 => ?_)
  · refine mm_iconst (pc := 14) (v := 0) dX11_isHook_14 (by decide) ?_
    refine mm_zret (pc := 15) dX11_isHook_15 rfl (by first | rfl | decide) ?_
    exact ⟨rfl, by rw [if_pos c1]⟩
  · refine mm_iload_n (pc := 4) dX11_isHook_4 rfl ?_
    refine mm_bipush (pc := 5) (v := 6) dX11_isHook_5 (by decide) ?_
    refine mm_icmp_ge (pc := 7) (tgt := 14) dX11_isHook_7 (by decide) (fun c7 => ?_) (fun c7 => ?_)
    · refine mm_iconst (pc := 14) (v := 0) dX11_isHook_14 (by decide) ?_
      refine mm_zret (pc := 15) dX11_isHook_15 rfl (by first | rfl | decide) ?_
      exact ⟨rfl, by rw [if_neg c1, if_pos c7]⟩
    · refine mm_iconst (pc := 10) (v := 1) dX11_isHook_10 (by decide) ?_
      refine mm_goto (pc := 11) (tgt := 15) dX11_isHook_11 (by decide) ?_
      refine mm_zret (pc := 15) dX11_isHook_15 rfl (by first | rfl | decide) ?_
      exact ⟨rfl, by rw [if_neg c1, if_neg c7]⟩

theorem ok_X4_bit {G : mm_G} {L : Nat × Nat} {d : Nat} {h : mm_H} {a : Nat} {num : Int32} {w0 w1 w2 w3 w5 w6 w7 w8 w9 w10 w11 : Value} (hc : h.1 a = some (4, [w0, w1, w2, w3, .int num, w5, w6, w7, w8, w9, w10, w11])) : mm_Ok G mX4_bit L (d) [.ref a] h (fun r h1 => h1 = h ∧ r = some (.long ((1 : Int64) <<< (num.toInt64 &&& 63)))) := by
  refine mm_Ok.of [(0, .ref a)] rfl kX4_bit.2.2.2.2.2 rfl (fun A => ?_)
  refine mm_lconst (pc := 0) (v := 1) dX4_bit_0 (by decide) ?_
  refine mm_aload_n (pc := 1) dX4_bit_1 rfl (by first | trivial | assumption) ?_
  refine mm_get (pc := 2) (kd := ?kd_2) (fs := ?fs_2) (v := ?v_2) dX4_bit_2 fl_X4_19 ?hc_2 ?hk_2 ?hv_2 ?_; (case hc_2 => first | assumption | (first | exact mm_set_eq | exact mm_push_eq | (refine mm_set_ne ?_ ?_ <;> first | assumption | (intro mm_e; subst mm_e; simp_all; done)))); (case hk_2 => rfl); (case hv_2 => rfl)
  refine mm_lshl (pc := 5) dX4_bit_5 ?_
  refine mm_lret (pc := 6) dX4_bit_6 rfl ?_
  exact ⟨rfl, rfl⟩

theorem ok_X1_standsFor {G : mm_G} {L : Nat × Nat} {d : Nat} {h : mm_H} {a k : Nat} {num : Int32} {ov : Int64} {w0 w1 w2 w3 w5 w6 w7 w8 w9 w10 w11 : Value} {b0 b1 b2 b3 b4 b5 b6 b8 : Value} (hb : h.1 a = some (1, [b0, b1, b2, b3, b4, b5, b6, .long ov, b8])) (hc : h.1 k = some (4, [w0, w1, w2, w3, .int num, w5, w6, w7, w8, w9, w10, w11])) : mm_Ok G mX1_standsFor L (d + 1) [.ref a, .ref k] h (fun r h1 => h1 = h ∧ r = some (.int (if lg_cmp (ov &&& ((1 : Int64) <<< (num.toInt64 &&& 63))) 0 = 0 then 0 else 1))) := by
  refine mm_Ok.of [(0, .ref a), (1, .ref k)] rfl kX1_standsFor.2.2.2.2.2 rfl (fun A => ?_)
  refine mm_aload_n (pc := 0) dX1_standsFor_0 rfl (by first | trivial | assumption) ?_
  refine mm_get (pc := 1) (kd := ?kd_1) (fs := ?fs_1) (v := ?v_1) dX1_standsFor_1 fl_X1_17 ?hc_1 ?hk_1 ?hv_1 ?_; (case hc_1 => first | assumption | (first | exact mm_set_eq | exact mm_push_eq | (refine mm_set_ne ?_ ?_ <;> first | assumption | (intro mm_e; subst mm_e; simp_all; done)))); (case hk_1 => rfl); (case hv_1 => rfl)
  refine mm_aload_n (pc := 4) dX1_standsFor_4 rfl (by first | trivial | assumption) ?_
  refine mm_callV (pc := 5) (As := []) (kd := ?kd_5) (fs := ?fs_5) dX1_standsFor_5 vl_X1_42 (ok_X4_bit hc) ?hc_5 ?hk_5 rfl rfl (Nat.le_of_ble_eq_true rfl) ?_; (case hc_5 => first | assumption | (first | exact mm_set_eq | exact mm_push_eq | (refine mm_set_ne ?_ ?_ <;> first | assumption | (intro mm_e; subst mm_e; simp_all; done)))); (case hk_5 => rfl)
  rintro _ _ ⟨rfl, rfl⟩
  refine mm_land (pc := 8) dX1_standsFor_8 ?_
  refine mm_lconst (pc := 9) (v := 0) dX1_standsFor_9 (by decide) ?_
  refine mm_lcmp (pc := 10) dX1_standsFor_10 ?_
  refine mm_if_eq (pc := 11) (tgt := 18) dX1_standsFor_11 (by decide) (fun c11 => ?_) (fun c11 => ?_)
  · refine mm_iconst (pc := 18) (v := 0) dX1_standsFor_18 (by decide) ?_
    refine mm_zret (pc := 19) dX1_standsFor_19 rfl (by first | rfl | decide) ?_
    exact ⟨rfl, by rw [if_pos c11]⟩
  · refine mm_iconst (pc := 14) (v := 1) dX1_standsFor_14 (by decide) ?_
    refine mm_goto (pc := 15) (tgt := 19) dX1_standsFor_15 (by decide) ?_
    refine mm_zret (pc := 19) dX1_standsFor_19 rfl (by first | rfl | decide) ?_
    exact ⟨rfl, by rw [if_neg c11]⟩

theorem ok_X4_maySee {G : mm_G} {L : Nat × Nat} {d : Nat} {h : mm_H} {a k2 b : Nat} {ho ho2 ri : Int32} {w0 w1 w2 w3 w4 w5 w7 w8 w9 w10 w11 : Value} {u0 u1 u2 u3 u4 u5 u7 u8 u9 u10 u11 : Value} {b1 b3 b4 b5 b6 b7 b8 : Value} (hc : h.1 a = some (4, [w0, w1, w2, w3, w4, w5, .int ho, w7, w8, w9, w10, w11])) (hc2 : h.1 k2 = some (4, [u0, u1, u2, u3, u4, u5, .int ho2, u7, u8, u9, u10, u11])) (hb : h.1 b = some (1, [.ref k2, b1, .int ri, b3, b4, b5, b6, b7, b8])) : mm_Ok G mX4_maySee L (d) [.ref a, .ref b] h (fun r h1 => h1 = h ∧ r = some (.int (if ri = 2 then if ho2 = ho then 1 else 0 else 1))) := by
  refine mm_Ok.of [(0, .ref a), (1, .ref b)] rfl kX4_maySee.2.2.2.2.2 rfl (fun A => ?_)
  refine mm_aload_n (pc := 0) dX4_maySee_0 rfl (by first | trivial | assumption) ?_
  refine mm_get (pc := 1) (kd := ?kd_1) (fs := ?fs_1) (v := ?v_1) dX4_maySee_1 fl_X4_83 ?hc_1 ?hk_1 ?hv_1 ?_; (case hc_1 => first | assumption | (first | exact mm_set_eq | exact mm_push_eq | (refine mm_set_ne ?_ ?_ <;> first | assumption | (intro mm_e; subst mm_e; simp_all; done)))); (case hk_1 => rfl); (case hv_1 => rfl)
  refine mm_iconst (pc := 4) (v := 2) dX4_maySee_4 (by decide) ?_
  refine mm_icmp_ne (pc := 5) (tgt := 22) dX4_maySee_5 (by decide) (fun c5 => ?_) (fun c5 => ?_)
  · refine mm_iconst (pc := 22) (v := 1) dX4_maySee_22 (by decide) ?_
    refine mm_goto (pc := 23) (tgt := 27) dX4_maySee_23 (by decide) ?_
    refine mm_zret (pc := 27) dX4_maySee_27 rfl (by first | rfl | decide) ?_
    exact ⟨rfl, by rw [if_neg c5]⟩
  · refine mm_aload_n (pc := 8) dX4_maySee_8 rfl (by first | trivial | assumption) ?_
    refine mm_get (pc := 9) (kd := ?kd_9) (fs := ?fs_9) (v := ?v_9) dX4_maySee_9 fl_X4_86 ?hc_9 ?hk_9 ?hv_9 ?_; (case hc_9 => first | assumption | (first | exact mm_set_eq | exact mm_push_eq | (refine mm_set_ne ?_ ?_ <;> first | assumption | (intro mm_e; subst mm_e; simp_all; done)))); (case hk_9 => rfl); (case hv_9 => rfl)
    refine mm_get (pc := 12) (kd := ?kd_12) (fs := ?fs_12) (v := ?v_12) dX4_maySee_12 fl_X4_26 ?hc_12 ?hk_12 ?hv_12 ?_; (case hc_12 => first | assumption | (first | exact mm_set_eq | exact mm_push_eq | (refine mm_set_ne ?_ ?_ <;> first | assumption | (intro mm_e; subst mm_e; simp_all; done)))); (case hk_12 => rfl); (case hv_12 => rfl)
    refine mm_aload_n (pc := 15) dX4_maySee_15 rfl (by first | trivial | assumption) ?_
    refine mm_get (pc := 16) (kd := ?kd_16) (fs := ?fs_16) (v := ?v_16) dX4_maySee_16 fl_X4_26 ?hc_16 ?hk_16 ?hv_16 ?_; (case hc_16 => first | assumption | (first | exact mm_set_eq | exact mm_push_eq | (refine mm_set_ne ?_ ?_ <;> first | assumption | (intro mm_e; subst mm_e; simp_all; done)))); (case hk_16 => rfl); (case hv_16 => rfl)
    refine mm_icmp_ne (pc := 19) (tgt := 26) dX4_maySee_19 (by decide) (fun c19 => ?_) (fun c19 => ?_)
    · refine mm_iconst (pc := 26) (v := 0) dX4_maySee_26 (by decide) ?_
      refine mm_zret (pc := 27) dX4_maySee_27 rfl (by first | rfl | decide) ?_
      exact ⟨rfl, by rw [if_pos c5, if_neg c19]⟩
    · refine mm_iconst (pc := 22) (v := 1) dX4_maySee_22 (by decide) ?_
      refine mm_goto (pc := 23) (tgt := 27) dX4_maySee_23 (by decide) ?_
      refine mm_zret (pc := 27) dX4_maySee_27 rfl (by first | rfl | decide) ?_
      exact ⟨rfl, by rw [if_pos c5, if_pos c19]⟩

theorem ok_X9_hasRoomFor {G : mm_G} {L : Nat × Nat} {d : Nat} {h : mm_H} {a : Nat} {sz wa he x1 x2 : Int32} {w0 w1 : Value} (hc : h.1 a = some (9, [w0, w1, .int sz, .int wa, .int he])) : mm_Ok G mX9_hasRoomFor L (d) [.ref a, .int x1, .int x2] h (fun r h1 => h1 = h ∧ r = some (.int (if sz < wa + x1 then 0 else if 100000 < he + x2 then 0 else 1))) := by
  refine mm_Ok.of [(0, .ref a), (1, .int x1), (2, .int x2)] rfl kX9_hasRoomFor.2.2.2.2.2 rfl (fun A => ?_)
  refine mm_aload_n (pc := 0) dX9_hasRoomFor_0 rfl (by first | trivial | assumption) ?_
  refine mm_get (pc := 1) (kd := ?kd_1) (fs := ?fs_1) (v := ?v_1) dX9_hasRoomFor_1 fl_X9_9 ?hc_1 ?hk_1 ?hv_1 ?_; (case hc_1 => first | assumption | (first | exact mm_set_eq | exact mm_push_eq | (refine mm_set_ne ?_ ?_ <;> first | assumption | (intro mm_e; subst mm_e; simp_all; done)))); (case hk_1 => rfl); (case hv_1 => rfl)
  refine mm_iload_n (pc := 4) dX9_hasRoomFor_4 rfl ?_
  refine mm_iadd (pc := 5) dX9_hasRoomFor_5 ?_
  refine mm_aload_n (pc := 6) dX9_hasRoomFor_6 rfl (by first | trivial | assumption) ?_
  refine mm_get (pc := 7) (kd := ?kd_7) (fs := ?fs_7) (v := ?v_7) dX9_hasRoomFor_7 fl_X9_25 ?hc_7 ?hk_7 ?hv_7 ?_; (case hc_7 => first | assumption | (first | exact mm_set_eq | exact mm_push_eq | (refine mm_set_ne ?_ ?_ <;> first | assumption | (intro mm_e; subst mm_e; simp_all; done)))); (case hk_7 => rfl); (case hv_7 => rfl)
  refine mm_icmp_gt (pc := 10) (tgt := 28) dX9_hasRoomFor_10 (by decide) (fun c10 => ?_) (fun c10 => ?_)
  · refine mm_iconst (pc := 28) (v := 0) dX9_hasRoomFor_28 (by decide) ?_
    refine mm_zret (pc := 29) dX9_hasRoomFor_29 rfl (by first | rfl | decide) ?_
    exact ⟨rfl, by rw [if_pos c10]⟩
  · refine mm_aload_n (pc := 13) dX9_hasRoomFor_13 rfl (by first | trivial | assumption) ?_
    refine mm_get (pc := 14) (kd := ?kd_14) (fs := ?fs_14) (v := ?v_14) dX9_hasRoomFor_14 fl_X9_15 ?hc_14 ?hk_14 ?hv_14 ?_; (case hc_14 => first | assumption | (first | exact mm_set_eq | exact mm_push_eq | (refine mm_set_ne ?_ ?_ <;> first | assumption | (intro mm_e; subst mm_e; simp_all; done)))); (case hk_14 => rfl); (case hv_14 => rfl)
    refine mm_iload_n (pc := 17) dX9_hasRoomFor_17 rfl ?_
    refine mm_iadd (pc := 18) dX9_hasRoomFor_18 ?_
    refine mm_ldc (pc := 19) dX9_hasRoomFor_19 cn_X9_28 ?_
    refine mm_icmp_gt (pc := 21) (tgt := 28) dX9_hasRoomFor_21 (by decide) (fun c21 => ?_) (fun c21 => ?_)
    · refine mm_iconst (pc := 28) (v := 0) dX9_hasRoomFor_28 (by decide) ?_
      refine mm_zret (pc := 29) dX9_hasRoomFor_29 rfl (by first | rfl | decide) ?_
      exact ⟨rfl, by rw [if_neg c10, if_pos c21]⟩
    · refine mm_iconst (pc := 24) (v := 1) dX9_hasRoomFor_24 (by decide) ?_
      refine mm_goto (pc := 25) (tgt := 29) dX9_hasRoomFor_25 (by decide) ?_
      refine mm_zret (pc := 29) dX9_hasRoomFor_29 rfl (by first | rfl | decide) ?_
      exact ⟨rfl, by rw [if_neg c10, if_neg c21]⟩

theorem ok_X9_heatOf {G : mm_G} {L : Nat × Nat} {d : Nat} {h : mm_H} {a : Nat} {sz wa he x1 : Int32} {w0 w1 : Value} (hc : h.1 a = some (9, [w0, w1, .int sz, .int wa, .int he])) (hw : ¬ wa.toInt64 = 0) : mm_Ok G mX9_heatOf L (d) [.ref a, .int x1] h (fun r h1 => h1 = h ∧ r = some (.int (if wa = 0 then 0 else (he.toInt64 * x1.toInt64 / wa.toInt64).toInt32))) := by
  refine mm_Ok.of [(0, .ref a), (1, .int x1)] rfl kX9_heatOf.2.2.2.2.2 rfl (fun A => ?_)
  refine mm_aload_n (pc := 0) dX9_heatOf_0 rfl (by first | trivial | assumption) ?_
  refine mm_get (pc := 1) (kd := ?kd_1) (fs := ?fs_1) (v := ?v_1) dX9_heatOf_1 fl_X9_9 ?hc_1 ?hk_1 ?hv_1 ?_; (case hc_1 => first | assumption | (first | exact mm_set_eq | exact mm_push_eq | (refine mm_set_ne ?_ ?_ <;> first | assumption | (intro mm_e; subst mm_e; simp_all; done)))); (case hk_1 => rfl); (case hv_1 => rfl)
  refine mm_if_ne (pc := 4) (tgt := 11) dX9_heatOf_4 (by decide) (fun c4 => ?_) (fun c4 => ?_)
  · refine mm_aload_n (pc := 11) dX9_heatOf_11 rfl (by first | trivial | assumption) ?_
    refine mm_get (pc := 12) (kd := ?kd_12) (fs := ?fs_12) (v := ?v_12) dX9_heatOf_12 fl_X9_15 ?hc_12 ?hk_12 ?hv_12 ?_; (case hc_12 => first | assumption | (first | exact mm_set_eq | exact mm_push_eq | (refine mm_set_ne ?_ ?_ <;> first | assumption | (intro mm_e; subst mm_e; simp_all; done)))); (case hk_12 => rfl); (case hv_12 => rfl)
    refine mm_i2l (pc := 15) dX9_heatOf_15 ?_
    refine mm_iload_n (pc := 16) dX9_heatOf_16 rfl ?_
    refine mm_i2l (pc := 17) dX9_heatOf_17 ?_
    refine mm_lmul (pc := 18) dX9_heatOf_18 ?_
    refine mm_aload_n (pc := 19) dX9_heatOf_19 rfl (by first | trivial | assumption) ?_
    refine mm_get (pc := 20) (kd := ?kd_20) (fs := ?fs_20) (v := ?v_20) dX9_heatOf_20 fl_X9_9 ?hc_20 ?hk_20 ?hv_20 ?_; (case hc_20 => first | assumption | (first | exact mm_set_eq | exact mm_push_eq | (refine mm_set_ne ?_ ?_ <;> first | assumption | (intro mm_e; subst mm_e; simp_all; done)))); (case hk_20 => rfl); (case hv_20 => rfl)
    refine mm_i2l (pc := 23) dX9_heatOf_23 ?_
    refine mm_ldiv (pc := 24) dX9_heatOf_24 hw ?_
    refine mm_l2i (pc := 25) dX9_heatOf_25 ?_
    refine mm_iret (pc := 26) dX9_heatOf_26 rfl ?_
    exact ⟨rfl, by rw [if_neg c4]⟩
  · refine mm_iconst (pc := 7) (v := 0) dX9_heatOf_7 (by decide) ?_
    refine mm_goto (pc := 8) (tgt := 26) dX9_heatOf_8 (by decide) ?_
    refine mm_iret (pc := 26) dX9_heatOf_26 rfl ?_
    exact ⟨rfl, by rw [if_pos c4]⟩

theorem ok_X4_bodyOf {G : mm_G} {L : Nat × Nat} {d : Nat} {h : mm_H} {a b j : Nat} {bs : List Value} {v : Value} {w0 w1 w2 w3 w4 w5 w6 w7 w8 w9 w10 : Value} (hc : h.1 a = some (4, [w0, w1, w2, w3, w4, w5, w6, w7, w8, w9, w10, .ref b])) (hb : h.1 b = some (106, bs)) (hl : bs.length = 6) (hj : j < 6) (hv : bs[j]? = some v) (hr : mm_isr v) : mm_Ok G mX4_bodyOf L (d) [.ref a, .int (nI j)] h (fun r h1 => h1 = h ∧ r = some v) := by
  refine mm_Ok.of [(0, .ref a), (1, .int (nI j))] rfl kX4_bodyOf.2.2.2.2.2 rfl (fun A => ?_)
  refine mm_iload_n (pc := 0) dX4_bodyOf_0 rfl ?_
  refine mm_if_lt (pc := 1) (tgt := 22) dX4_bodyOf_1 (by decide) (fun c1 => absurd c1 (nI_pos (by omega))) (fun c1 => ?_)
  refine mm_iload_n (pc := 4) dX4_bodyOf_4 rfl ?_
  refine mm_aload_n (pc := 5) dX4_bodyOf_5 rfl (by first | trivial | assumption) ?_
  refine mm_get (pc := 6) (kd := ?kd_6) (fs := ?fs_6) (v := ?v_6) dX4_bodyOf_6 fl_X4_44 ?hc_6 ?hk_6 ?hv_6 ?_; (case hc_6 => first | assumption | (first | exact mm_set_eq | exact mm_push_eq | (refine mm_set_ne ?_ ?_ <;> first | assumption | (intro mm_e; subst mm_e; simp_all; done)))); (case hk_6 => rfl); (case hv_6 => rfl)
  refine mm_alen2 (pc := 9) (kd := ?kd_9) (vs := ?vs_9) dX4_bodyOf_9 ?hc_9 ?hk_9 ?ht_9 ?_; (case hc_9 => first | assumption | (first | exact mm_set_eq | exact mm_push_eq | (refine mm_set_ne ?_ ?_ <;> first | assumption | (intro mm_e; subst mm_e; simp_all; done)))); (case hk_9 => rfl); (case ht_9 => rfl)
  refine mm_icmp_ge (pc := 10) (tgt := 22) dX4_bodyOf_10 (by decide) (fun c10 => absurd c10 (by rw [hl]; exact nI_ge hj (by omega))) (fun c10 => ?_)
  refine mm_aload_n (pc := 13) dX4_bodyOf_13 rfl (by first | trivial | assumption) ?_
  refine mm_get (pc := 14) (kd := ?kd_14) (fs := ?fs_14) (v := ?v_14) dX4_bodyOf_14 fl_X4_44 ?hc_14 ?hk_14 ?hv_14 ?_; (case hc_14 => first | assumption | (first | exact mm_set_eq | exact mm_push_eq | (refine mm_set_ne ?_ ?_ <;> first | assumption | (intro mm_e; subst mm_e; simp_all; done)))); (case hk_14 => rfl); (case hv_14 => rfl)
  refine mm_iload_n (pc := 17) dX4_bodyOf_17 rfl ?_
  refine mm_aald2 (pc := 18) (kd := ?kd_18) (vs := ?vs_18) (v := ?v_18) (ty := ?ty_18) dX4_bodyOf_18 ?hc_18 ?hk_18 ?ht_18 ?hty_18 ?h0_18 ?hv_18 ?_; (case hc_18 => first | assumption | (first | exact mm_set_eq | exact mm_push_eq | (refine mm_set_ne ?_ ?_ <;> first | assumption | (intro mm_e; subst mm_e; simp_all; done)))); (case hk_18 => rfl); (case ht_18 => rfl); (case hty_18 => rfl); (case h0_18 => exact nI_pos (by omega)); (case hv_18 => rw [nI_clamp (by omega)]; exact hv)
  refine mm_goto (pc := 19) (tgt := 23) dX4_bodyOf_19 (by decide) ?_
  refine mm_aret (pc := 23) dX4_bodyOf_23 rfl (Or.inl ⟨_, rfl⟩) (by first | trivial | assumption) ?_
  exact ⟨rfl, rfl⟩
