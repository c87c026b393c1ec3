/-! feed -/
theorem bvL (b : BitVec 64) (s : Nat) (hs : s ≤ 56) : (b.sshiftRight s).setWidth 8 = (b >>> s).setWidth 8 := by
  ext i hi
  simp [BitVec.getLsbD_sshiftRight, BitVec.getLsbD_ushiftRight]
  rw [if_pos (by omega)]
  simp [show ¬ 64 ≤ i by omega]
theorem shb0 (x : Int64) : ((x.toUInt64 >>> (0 : UInt64)).toInt64).toInt32.toInt8 = (x >>> (0 : Int64)).toInt32.toInt8 := by
  apply Int8.toBitVec_inj.mp
  simp
theorem shb1 (x : Int64) : ((x.toUInt64 >>> (8 : UInt64)).toInt64).toInt32.toInt8 = (x >>> (8 : Int64)).toInt32.toInt8 := by
  apply Int8.toBitVec_inj.mp
  have := bvL x.toBitVec 8 (by decide)
  simp
  rw [BitVec.signExtend_eq_setWidth_of_le _ (by decide), BitVec.signExtend_eq_setWidth_of_le _ (by decide)]
  exact this.symm
theorem shb2 (x : Int64) : ((x.toUInt64 >>> (16 : UInt64)).toInt64).toInt32.toInt8 = (x >>> (16 : Int64)).toInt32.toInt8 := by
  apply Int8.toBitVec_inj.mp
  have := bvL x.toBitVec 16 (by decide)
  simp
  rw [BitVec.signExtend_eq_setWidth_of_le _ (by decide), BitVec.signExtend_eq_setWidth_of_le _ (by decide)]
  exact this.symm
theorem shb3 (x : Int64) : ((x.toUInt64 >>> (24 : UInt64)).toInt64).toInt32.toInt8 = (x >>> (24 : Int64)).toInt32.toInt8 := by
  apply Int8.toBitVec_inj.mp
  have := bvL x.toBitVec 24 (by decide)
  simp
  rw [BitVec.signExtend_eq_setWidth_of_le _ (by decide), BitVec.signExtend_eq_setWidth_of_le _ (by decide)]
  exact this.symm
theorem shb4 (x : Int64) : ((x.toUInt64 >>> (32 : UInt64)).toInt64).toInt32.toInt8 = (x >>> (32 : Int64)).toInt32.toInt8 := by
  apply Int8.toBitVec_inj.mp
  have := bvL x.toBitVec 32 (by decide)
  simp
  rw [BitVec.signExtend_eq_setWidth_of_le _ (by decide), BitVec.signExtend_eq_setWidth_of_le _ (by decide)]
  exact this.symm
theorem shb5 (x : Int64) : ((x.toUInt64 >>> (40 : UInt64)).toInt64).toInt32.toInt8 = (x >>> (40 : Int64)).toInt32.toInt8 := by
  apply Int8.toBitVec_inj.mp
  have := bvL x.toBitVec 40 (by decide)
  simp
  rw [BitVec.signExtend_eq_setWidth_of_le _ (by decide), BitVec.signExtend_eq_setWidth_of_le _ (by decide)]
  exact this.symm
theorem shb6 (x : Int64) : ((x.toUInt64 >>> (48 : UInt64)).toInt64).toInt32.toInt8 = (x >>> (48 : Int64)).toInt32.toInt8 := by
  apply Int8.toBitVec_inj.mp
  have := bvL x.toBitVec 48 (by decide)
  simp
  rw [BitVec.signExtend_eq_setWidth_of_le _ (by decide), BitVec.signExtend_eq_setWidth_of_le _ (by decide)]
  exact this.symm
theorem shb7 (x : Int64) : ((x.toUInt64 >>> (56 : UInt64)).toInt64).toInt32.toInt8 = (x >>> (56 : Int64)).toInt32.toInt8 := by
  apply Int8.toBitVec_inj.mp
  have := bvL x.toBitVec 56 (by decide)
  simp
  rw [BitVec.signExtend_eq_setWidth_of_le _ (by decide), BitVec.signExtend_eq_setWidth_of_le _ (by decide)]
  exact this.symm
theorem fdU {x : Int64} {k : Nat} (hk : k < 8) : ((x.toUInt64 >>> (((8 : Int32) * nI k).toInt64.toUInt64 &&& Int64.toUInt64 63)).toInt64).toInt32.toInt8.toInt32 = fdB x k := by
  unfold fdB
  match k, hk with
  | 0, _ => rw [show (((8 : Int32) * nI 0).toInt64.toUInt64 &&& Int64.toUInt64 63) = 0 by decide, show (((8 : Int32) * nI 0).toInt64 &&& 63) = 0 by decide, shb0]
  | 1, _ => rw [show (((8 : Int32) * nI 1).toInt64.toUInt64 &&& Int64.toUInt64 63) = 8 by decide, show (((8 : Int32) * nI 1).toInt64 &&& 63) = 8 by decide, shb1]
  | 2, _ => rw [show (((8 : Int32) * nI 2).toInt64.toUInt64 &&& Int64.toUInt64 63) = 16 by decide, show (((8 : Int32) * nI 2).toInt64 &&& 63) = 16 by decide, shb2]
  | 3, _ => rw [show (((8 : Int32) * nI 3).toInt64.toUInt64 &&& Int64.toUInt64 63) = 24 by decide, show (((8 : Int32) * nI 3).toInt64 &&& 63) = 24 by decide, shb3]
  | 4, _ => rw [show (((8 : Int32) * nI 4).toInt64.toUInt64 &&& Int64.toUInt64 63) = 32 by decide, show (((8 : Int32) * nI 4).toInt64 &&& 63) = 32 by decide, shb4]
  | 5, _ => rw [show (((8 : Int32) * nI 5).toInt64.toUInt64 &&& Int64.toUInt64 63) = 40 by decide, show (((8 : Int32) * nI 5).toInt64 &&& 63) = 40 by decide, shb5]
  | 6, _ => rw [show (((8 : Int32) * nI 6).toInt64.toUInt64 &&& Int64.toUInt64 63) = 48 by decide, show (((8 : Int32) * nI 6).toInt64 &&& 63) = 48 by decide, shb6]
  | 7, _ => rw [show (((8 : Int32) * nI 7).toInt64.toUInt64 &&& Int64.toUInt64 63) = 56 by decide, show (((8 : Int32) * nI 7).toInt64 &&& 63) = 56 by decide, shb7]
  | k + 8, hk => exact absurd hk (by omega)
/-- bytes laid on the tape -/
def feC (C : cw_C) (w : Int64) (n : Nat) : Nat → cw_C
  | 0 => C
  | k + 1 => cw_sI (feC C w n k) 12 0 (n + k) (fdB w k)
theorem feC_o {C : cw_C} {w : Int64} {n f : Nat} (h : ¬ f = 12) : ∀ k, feC C w n k f = C f := by
  intro k
  induction k with
  | zero => rfl
  | succ k ih => exact (cw_sI_o h).trans ih
theorem feC_N {C : cw_C} {w : Int64} {n f : Nat} : ∀ k, cN (feC C w n k) f = cN C f := by
  intro k
  induction k with
  | zero => rfl
  | succ k ih => exact cw_sI_N.trans ih
theorem feC_I {C : cw_C} {M : mw_S} {w : Int64} {n : Nat} (h : ∀ i, i < 800 → cI C 12 0 i = M.2.2.1 0 i) : ∀ k i, i < 800 → cI (feC C w n k) 12 0 i = (fdM M w n k).2.2.1 0 i := by
  intro k
  induction k with
  | zero => exact h
  | succ k ih =>
    intro i hi
    show cI (cw_sI (feC C w n k) 12 0 (n + k) (fdB w k)) 12 0 i = mw_u2 (fdM M w n k).2.2.1 0 (n + k) (fdB w k) 0 i
    by_cases e : i = n + k
    · rw [e, cI_sI_e, cu2_eq]
    · rw [cI_sI_n (fun z => e z.2.2), cu2_ne (fun z => e z.2)]; exact ih i hi
theorem nM_fd {q : Nat → Bool} {M : mw_S} {w : Int64} {n : Nat} (h0 : q 0 = false) (h1 : q 1 = false) : ∀ k, nM q (fdM M w n k) = nM q M := by
  intro k
  induction k with
  | zero => rfl
  | succ k ih => exact (nM_setS h1).trans ((nM_setV h0).trans ih)
theorem nC_fe {q : Nat → Bool} {C : cw_C} {w : Int64} {n : Nat} (h : q 12 = false) (k : Nat) : nC q (feC C w n k) = nC q C := nC_eq (fun g hg => feC_o (fun z => by rw [z, h] at hg; cases hg) k)
theorem nD_fe {p : Nat → Nat → Bool} {C : cw_C} {w : Int64} {n : Nat} (h : ∀ j, p 12 j = false) (k : Nat) : nD p (feC C w n k) = nD p C := nD_o (fun g => by
  by_cases e : g = 12
  · subst e; exact Or.inl h
  · exact Or.inr (feC_o e k))
def fdP (ad : Nat → Nat → Nat) (h0 : mm_H) (C : cw_C) (h : mm_H) (w : Int64) (n k : Nat) (r : Option Value) (h1 : mm_H) : Prop := r = some (.int (nI (n + k))) ∧ cw ad h0 (cw_sI (feC C w n k) 11 0 1 (nI (n + k))) h1 ∧ h1.2 = h.2

theorem fe_full {G : mm_G} {L : Nat × Nat} {d : Nat} {h : mm_H} {h0 : mm_H} {ad : Nat → Nat → Nat} {C : cw_C} {M : mw_S} {ab : Nat → Option Nat} {nk np : Nat} {w : Int64} {n k : Nat} (hG : rlG ad C M ab nk np) (ho : rlO ad C M) (hs : M.1 1 = nI n) (hn : n ≤ 800) (h1 : 1 ≤ k) (h8 : k ≤ 8) (hk : 800 < n + k) (hC : cw ad h0 C h) : mm_Ok G mX11_feed L (d + 2) [.ref (ad 11 0), .long w, .int (nI k)] h (fun r h1 => gP ad h0 C h (-3, 3) r h1) := by
  refine mm_Ok.of [(0, .ref (ad 11 0)), (1, .long w), (3, .int (nI k))] rfl kX11_feed.2.2.2.2.2 rfl (fun A => ?_)
  obtain ⟨hR, hE, ⟨n11, n13⟩, f3, f9, s3, s19⟩ := id hG
  have n7 := hR.1.1
  have hk40 := hR.2.1.1
  have n12 := ho.1.2.1
  have r0 := ho.2.1
  have i1 : cI C 11 0 1 = nI n := ho.2.2.1.trans hs
  refine mm_iload_n (pc := 0) dX11_feed_0 rfl ?_
  refine mm_iconst (pc := 1) (v := 1) dX11_feed_1 (by decide) ?_
  refine mm_icmp_lt (pc := 2) (tgt := 11) dX11_feed_2 (by decide) (fun c2 => absurd c2 (fun z => absurd ((nI_ltI (b := 1) (by omega) (by decide)).mp z) (by omega))) (fun c2 => ?_)
  refine mm_iload_n (pc := 5) dX11_feed_5 rfl ?_
  refine mm_bipush (pc := 6) (v := 8) dX11_feed_6 (by decide) ?_
  refine mm_icmp_le (pc := 8) (tgt := 17) dX11_feed_8 (by decide) (fun c8 => ?_) (fun c8 => absurd ((nI_leI (b := 8) (by omega) (by decide)).mpr h8) c8)
  refine mm_aload_n (pc := 17) dX11_feed_17 rfl (by first | trivial | assumption | exact mm_isr_rf _) ?_
  refine cw_gi (pc := 18) 11 _ 1 hC (rfl) rfl (n11) dX11_feed_18 fl_X11_13 rfl rfl rfl ?_
  refine mm_topi _ i1 ?_
  refine mm_iload_n (pc := 21) dX11_feed_21 rfl ?_
  refine mm_iadd (pc := 22) dX11_feed_22 ?_
  refine mm_topi _ (nI_add _ _) ?_
  refine mm_aload_n (pc := 23) dX11_feed_23 rfl (by first | trivial | assumption | exact mm_isr_rf _) ?_
  refine cw_grS (pc := 24) 11 _ 0 hC (rfl) rfl (n11) dX11_feed_24 fl_X11_9 rfl rfl rfl (r0) ?_
  refine cw_alen (pc := 27) 12 _ hC (rfl) rfl (n12) dX11_feed_27 rfl rfl ?_
  refine mm_icmp_le (pc := 28) (tgt := 38) dX11_feed_28 (by decide) (fun c28 => absurd c28 (fun z => absurd ((nI_leI (b := 800) (by omega) (by decide)).mp z) (by omega))) (fun c28 => ?_)
  refine mm_aload_n (pc := 31) dX11_feed_31 rfl (by first | trivial | assumption | exact mm_isr_rf _) ?_
  refine mm_bipush (pc := 32) (v := (-3)) dX11_feed_32 (by decide) ?_
  refine mm_callV (pc := 34) (As := [_]) (kd := ?kd_34_1) (fs := ?fs_34_1) dX11_feed_34 vl_X11_96 (tl_ok (c := 3) n11 n13 f9 rfl (by decide) (by decide) hC) ?hc_34_1 ?hk_34_1 rfl rfl (Nat.le_of_ble_eq_true rfl) ?_; (case hc_34_1 => exact cw_cell (f := 11) hC rfl rfl n11); (case hk_34_1 => rfl)
  rintro _ h34 ⟨hC, e34, rfl⟩
  refine mm_iret (pc := 37) dX11_feed_37 rfl ?_
  exact gP_no hC e34 (by rfl) (by decide)

theorem fe_lp {G : mm_G} {L : Nat × Nat} {d : Nat} {A : Nat → Prop} {h h0 : mm_H} {ad : Nat → Nat → Nat} {C : cw_C} {w : Int64} {n k : Nat} (n11 : 0 < cN C 11) (n12 : 0 < cN C 12) (r0 : cR C 11 0 0 = some (ad 12 0)) (i1 : cI C 11 0 1 = nI n) (h8 : k ≤ 8) (hk : n + k ≤ 800) : ∀ (v i : Nat) (h1 : mm_H), i + v = k → cw ad h0 (feC C w n i) h1 → h1.2 = h.2 → mm_Run G mX11_feed A L d 41 [(4, .int (nI i)), (3, .int (nI k)), (1, .long w), (0, .ref (ad 11 0))] [] h1 (fdP ad h0 C h w n k) := by
  intro v
  induction v with
  | zero =>
    intro i h1 hv hC eh
    refine mm_iload (pc := 41) dX11_feed_41 rfl ?_
    refine mm_iload_n (pc := 43) dX11_feed_43 rfl ?_
    refine mm_icmp_ge (pc := 44) (tgt := 74) dX11_feed_44 (by decide) (fun c44 => ?_) (fun c44 => absurd ((nI_leI (by omega) (by omega)).mpr (by omega)) c44)
    refine mm_aload_n (pc := 74) dX11_feed_74 rfl (by first | trivial | assumption | exact mm_isr_rf _) ?_
    refine mm_dup (pc := 75) dX11_feed_75 rfl ?_
    refine cw_gi (pc := 76) 11 _ 1 hC (rfl) rfl ((by rw [feC_N]; exact n11)) dX11_feed_76 fl_X11_13 rfl rfl rfl ?_
    refine mm_topi _ ((cI_o (feC_o (by decide) i)).trans i1) ?_
    refine mm_iload_n (pc := 79) dX11_feed_79 rfl ?_
    refine mm_iadd (pc := 80) dX11_feed_80 ?_
    refine mm_topi _ (nI_add _ _) ?_
    refine cw_pi (pc := 81) 11 _ 1 hC (rfl) rfl ((by rw [feC_N]; exact n11)) dX11_feed_81 (pl_X11_13 _) rfl rfl (rfl) (rfl) (fun h81 hC e81 => ?_)
    refine mm_aload_n (pc := 84) dX11_feed_84 rfl (by first | trivial | assumption | exact mm_isr_rf _) ?_
    refine cw_gi (pc := 85) 11 _ 1 hC (rfl) rfl ((by rw [cw_sI_N, feC_N]; exact n11)) dX11_feed_85 fl_X11_13 rfl rfl rfl ?_
    refine mm_topi _ cI_sI_e ?_
    refine mm_iret (pc := 88) dX11_feed_88 rfl ?_
    have ei : i = k := by omega
    subst ei
    exact ⟨rfl, hC, e81.trans eh⟩
  | succ v ih =>
    intro i h1 hv hC eh
    have hik : i < k := by omega
    refine mm_iload (pc := 41) dX11_feed_41 rfl ?_
    refine mm_iload_n (pc := 43) dX11_feed_43 rfl ?_
    refine mm_icmp_ge (pc := 44) (tgt := 74) dX11_feed_44 (by decide) (fun c44 => absurd c44 (nI_ge hik (by omega))) (fun c44 => ?_)
    refine mm_aload_n (pc := 47) dX11_feed_47 rfl (by first | trivial | assumption | exact mm_isr_rf _) ?_
    refine cw_grS (pc := 48) 11 _ 0 hC (rfl) rfl ((by rw [feC_N]; exact n11)) dX11_feed_48 fl_X11_9 rfl rfl rfl (((cR_o (feC_o (by decide) i)).trans r0)) ?_
    refine mm_aload_n (pc := 51) dX11_feed_51 rfl (by first | trivial | assumption | exact mm_isr_rf _) ?_
    refine cw_gi (pc := 52) 11 _ 1 hC (rfl) rfl ((by rw [feC_N]; exact n11)) dX11_feed_52 fl_X11_13 rfl rfl rfl ?_
    refine mm_topi _ ((cI_o (feC_o (by decide) i)).trans i1) ?_
    refine mm_iload (pc := 55) dX11_feed_55 rfl ?_
    refine mm_iadd (pc := 57) dX11_feed_57 ?_
    refine mm_topi _ (nI_add _ _) ?_
    refine mm_lload_n (pc := 58) dX11_feed_58 rfl ?_
    refine mm_bipush (pc := 59) (v := 8) dX11_feed_59 (by decide) ?_
    refine mm_iload (pc := 61) dX11_feed_61 rfl ?_
    refine mm_imul (pc := 63) dX11_feed_63 ?_
    refine mm_lushr (pc := 64) dX11_feed_64 ?_
    refine mm_l2i (pc := 65) dX11_feed_65 ?_
    refine mm_i2b (pc := 66) dX11_feed_66 ?_
    refine mm_topi _ (fdU (by omega)) ?_
    refine cw_bast (pc := 67) 12 0 (n + i) hC (rfl) rfl ((by rw [feC_N]; exact n12)) dX11_feed_67 rfl (by first | with_reducible rfl | assumption | rfl) (by show n + i < 800; omega) (by omega) rfl (i8n _) (fun h67 hC e67 => ?_)
    refine mm_iinc (pc := 68) dX11_feed_68 rfl rfl rfl (Nat.le_of_ble_eq_true rfl) ?_
    refine mm_goto (pc := 71) (tgt := 41) dX11_feed_71 (by decide) ?_
    exact mm_weakK (ih (i + 1) h67 (by omega) hC (e67.trans eh)) (And.intro (congrArg some (congrArg Value.int nI_p1)) (And.intro rfl (And.intro rfl (And.intro rfl trivial))))

theorem fe_yes {G : mm_G} {L : Nat × Nat} {d : Nat} {h : mm_H} {h0 : mm_H} {ad : Nat → Nat → Nat} {C : cw_C} {M : mw_S} {ab : Nat → Option Nat} {nk np : Nat} {w : Int64} {n k : Nat} (hG : rlG ad C M ab nk np) (ho : rlO ad C M) (hs : M.1 1 = nI n) (h1 : 1 ≤ k) (h8 : k ≤ 8) (hk : n + k ≤ 800) (hC : cw ad h0 C h) : mm_Ok G mX11_feed L (d + 2) [.ref (ad 11 0), .long w, .int (nI k)] h (fun r h1 => fdP ad h0 C h w n k r h1) := by
  refine mm_Ok.of [(0, .ref (ad 11 0)), (1, .long w), (3, .int (nI k))] rfl kX11_feed.2.2.2.2.2 rfl (fun A => ?_)
  obtain ⟨hR, hE, ⟨n11, n13⟩, f3, f9, s3, s19⟩ := id hG
  have n7 := hR.1.1
  have hk40 := hR.2.1.1
  have n12 := ho.1.2.1
  have r0 := ho.2.1
  have i1 : cI C 11 0 1 = nI n := ho.2.2.1.trans hs
  refine mm_iload_n (pc := 0) dX11_feed_0 rfl ?_
  refine mm_iconst (pc := 1) (v := 1) dX11_feed_1 (by decide) ?_
  refine mm_icmp_lt (pc := 2) (tgt := 11) dX11_feed_2 (by decide) (fun c2 => absurd c2 (fun z => absurd ((nI_ltI (b := 1) (by omega) (by decide)).mp z) (by omega))) (fun c2 => ?_)
  refine mm_iload_n (pc := 5) dX11_feed_5 rfl ?_
  refine mm_bipush (pc := 6) (v := 8) dX11_feed_6 (by decide) ?_
  refine mm_icmp_le (pc := 8) (tgt := 17) dX11_feed_8 (by decide) (fun c8 => ?_) (fun c8 => absurd ((nI_leI (b := 8) (by omega) (by decide)).mpr h8) c8)
  refine mm_aload_n (pc := 17) dX11_feed_17 rfl (by first | trivial | assumption | exact mm_isr_rf _) ?_
  refine cw_gi (pc := 18) 11 _ 1 hC (rfl) rfl (n11) dX11_feed_18 fl_X11_13 rfl rfl rfl ?_
  refine mm_topi _ i1 ?_
  refine mm_iload_n (pc := 21) dX11_feed_21 rfl ?_
  refine mm_iadd (pc := 22) dX11_feed_22 ?_
  refine mm_topi _ (nI_add _ _) ?_
  refine mm_aload_n (pc := 23) dX11_feed_23 rfl (by first | trivial | assumption | exact mm_isr_rf _) ?_
  refine cw_grS (pc := 24) 11 _ 0 hC (rfl) rfl (n11) dX11_feed_24 fl_X11_9 rfl rfl rfl (r0) ?_
  refine cw_alen (pc := 27) 12 _ hC (rfl) rfl (n12) dX11_feed_27 rfl rfl ?_
  refine mm_icmp_le (pc := 28) (tgt := 38) dX11_feed_28 (by decide) (fun c28 => ?_) (fun c28 => absurd ((nI_leI (b := 800) (by omega) (by decide)).mpr (by omega)) c28)
  refine mm_iconst (pc := 38) (v := 0) dX11_feed_38 (by decide) ?_
  refine mm_istore (pc := 39) dX11_feed_39 rfl (Nat.le_of_ble_eq_true rfl) ?_
  exact mm_weakK (fe_lp n11 n12 r0 i1 h8 hk k 0 h (by omega) hC rfl) (And.intro rfl (And.intro rfl (And.intro rfl (And.intro rfl trivial))))

theorem fe_rs {ad : Nat → Nat → Nat} {C : cw_C} {M : mw_S} {ab : Nat → Option Nat} {nk np na ne nb nt : Nat} {H : hS} {w : Int64} {n : Nat} (h : rsR ad C M ab nk np na ne nb nt H) (hs : M.1 1 = nI n) (k : Nat) : rsR ad (cw_sI (feC C w n k) 11 0 1 (nI (n + k))) (fdM M w n k) ab nk np na ne nb nt H := by
  have ms : ∀ j, ¬ j = 1 → (fdM M w n k).1 j = M.1 j := fun j hj => by
    induction k with
    | zero => rfl
    | succ k ih => exact (if_neg hj).trans ih
  have mv : ∀ j, ¬ j = 0 → (fdM M w n k).2.2.1 j = M.2.2.1 j := fun j hj => by
    clear ms
    induction k with
    | zero => rfl
    | succ k ih => exact (mw_u2_row hj).trans ih
  refine ⟨h.rg.nf rfl ((nC_sI rfl).trans (nC_fe rfl k)) (nM_fd rfl rfl k), h.ck.nf rfl ((nC_sI rfl).trans (nC_fe rfl k)) (nM_fd rfl rfl k), h.cn.nf ((nC_sI rfl).trans (nC_fe rfl k)), ?_, h.t.nf (nM_fd rfl rfl k), ⟨(ms 3 (by decide)).trans h.s.1, (ms 19 (by decide)).trans h.s.2⟩, h.v.nd rfl ((nD_sI rfl).trans (nD_fe (fun _ => rfl) k)) (nM_fd rfl rfl k), h.e.nd rfl ((nD_sI rfl).trans (nD_fe (fun _ => rfl) k)) (nM_fd rfl rfl k), h.d.nf rfl ((nC_sI rfl).trans (nC_fe rfl k)) (nM_fd rfl rfl k), h.r.nd rfl ((nD_sI rfl).trans (nD_fe (fun _ => rfl) k)) (nM_fd rfl rfl k)⟩
  obtain ⟨a1, a2, a3, a4, a5, a6, a7, a8⟩ := h.o
  have o11 : ∀ j, cR (cw_sI (feC C w n k) 11 0 1 (nI (n + k))) 11 0 j = cR C 11 0 j := fun j => by
    have e : cR (cw_sI (feC C w n k) 11 0 1 (nI (n + k))) 11 0 j = cR (feC C w n k) 11 0 j := by unfold cR; rw [cw_sI_f]
    rw [e]; exact cR_o (feC_o (by decide) k)
  refine ⟨by rw [cw_sI_N, cw_sI_N, cw_sI_N, feC_N, feC_N, feC_N]; exact a1, by rw [o11]; exact a2, by rw [cI_sI_e, fdM_1 M w n k hs], by rw [cI_sI_n (by decide), cI_o (feC_o (by decide) k), ms 24 (by decide)]; exact a4, by rw [o11]; exact a5, by rw [o11]; exact a6, fun c c1 c4 => by rw [cI_o (cw_sI_o (by decide)), cI_o (feC_o (by decide) k), mv 2 (by decide)]; exact a7 c c1 c4, fun i hi => by rw [cI_o (cw_sI_o (by decide))]; exact feC_I a8 k i hi⟩
def sp_feed (M : mw_S) (n : Nat) (w : Int64) (x : Int32) : Int32 × mw_S := if x < 1 then (-1, rm_ans M 1) else if x ≤ 8 then (if n + x.toNatClampNeg ≤ 800 then (nI (n + x.toNatClampNeg), fdM M w n x.toNatClampNeg) else (-3, rm_ans M 3)) else (-1, rm_ans M 1)
theorem nI_of8 {x : Int32} (h1 : ¬ x < 1) (h8 : x ≤ 8) : ∃ k, 1 ≤ k ∧ k ≤ 8 ∧ x = nI k := by
  obtain ⟨k, hk, rfl⟩ := nI_ofL (fun z => h1 (Int32.lt_of_lt_of_le z (by decide))) (Int32.le_trans h8 (by decide))
  refine ⟨k, ?_, (nI_leI (b := 8) (by omega) (by decide)).mp h8, rfl⟩
  rcases Nat.eq_zero_or_pos k with z | z
  · rw [z] at h1; exact absurd (by decide) h1
  · exact z
theorem fe_aft {G : mm_G} {L : Nat × Nat} {d : Nat} {h h0 : mm_H} {ad : Nat → Nat → Nat} {C : cw_C} {M : mw_S} {ab : Nat → Option Nat} {nk np na ne nb nt n : Nat} {H : hS} {w : Int64} {x : Int32} (R : rsR ad C M ab nk np na ne nb nt H) (hs : M.1 1 = nI n) (hn : n ≤ 800) (hC : cw ad h0 C h) : mm_Ok G mX11_feed L (d + 2) [.ref (ad 11 0), .long w, .int x] h (aft ad h 0 0 ab nk np (.int (sp_feed M n w x).1) (sp_feed M n w x).2) := by
  have g := R.g
  unfold sp_feed
  by_cases x1 : x < 1
  · rw [if_pos x1]
    exact mm_Ok.post (fe_lo g x1 hC) (fun r h1 z => z.aft R (by decide))
  · rw [if_neg x1]
    by_cases x8 : x ≤ 8
    · rw [if_pos x8]
      obtain ⟨k, k1, k8, rfl⟩ := nI_of8 x1 x8
      rw [nI_clamp (by omega)]
      by_cases hk : n + k ≤ 800
      · rw [if_pos hk]
        refine mm_Ok.post (fe_yes g R.o hs k1 k8 hk hC) (fun r h1 z => ?_)
        exact ⟨z.1, h0, ad, _, na, ne, nb, nt, H, z.2.1, fe_rs R hs k, rfl, by rw [z.2.2]; exact Nat.le_refl _, by rw [z.2.2]; exact Nat.le_refl _⟩
      · rw [if_neg hk]
        exact mm_Ok.post (fe_full g R.o hs hn k1 k8 (by omega) hC) (fun r h1 z => z.aft R (by decide))
    · rw [if_neg x8]
      exact mm_Ok.post (fe_hi g x1 x8 hC) (fun r h1 z => z.aft R (by decide))
theorem rf_feed {G : mm_G} {L : Nat × Nat} {d : Nat} {h h0 : mm_H} {m : Nat} {ad : Nat → Nat} {M : mw_S} {w : Int64} {n : Nat} {x : Int32} (hs : M.1 1 = nI n) (hn : n ≤ 800) (hW : mw_W m ad h0 M h) : mm_Ok G mX12_feed L (d + 1) [.ref m, .long w, .int x] h (fun r h1 => mw_W m ad h0 (sp_feed M n w x).2 h1 ∧ h1.2 = h.2 ∧ r = some (.int (sp_feed M n w x).1)) := by
  unfold sp_feed
  by_cases x1 : x < 1
  · rw [if_pos x1]
    exact ok_feedB x1 hW
  · rw [if_neg x1]
    by_cases x8 : x ≤ 8
    · rw [if_pos x8]
      obtain ⟨k, k1, k8, rfl⟩ := nI_of8 x1 x8
      rw [nI_clamp (by omega)]
      by_cases hk : n + k ≤ 800
      · rw [if_pos hk]
        exact ok_feed hs k1 k8 hk hW
      · rw [if_neg hk]
        exact ok_feedF hs hn k1 k8 (by omega) hW
    · rw [if_neg x8]
      exact ok_feedC x1 (Int32.not_le.mp x8) hW

