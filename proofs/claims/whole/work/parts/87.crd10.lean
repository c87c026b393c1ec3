/-! the class's readBody -/
def bQ (N : Nat → Nat) (h0 : mm_H) (ad : Nat → Nat → Nat) (C : cw_C) (B : Nat × Nat) (tb : Nat → Nat) (n nk k : Nat) (z : pr_T) (r : Option Value) (h1 : mm_H) : Prop := r = none ∧ ∃ ad1 C1, cw ad1 h0 C1 h1 ∧ oK N ad C ad1 C1 ∧ (ad1 6 0 = ad 6 0 ∧ ad1 4 k = ad 4 k) ∧ ((¬ z.1 = 0 ∧ sKd ad1 C1 tb n nk z.2.1 z.2.2 k ∧ rmB n B h1 (qs tb n z.2.2)) ∨ (z.1 = 0 ∧ ∃ p, rD ad1 C1 p ∧ z.2.1.1 24 = nI p ∧ rmX B h1 ∧ k < cN C1 4))
/-- a new body -/
def bNw (ad : Nat → Nat → Nat) (C : cw_C) (ad1 : Nat → Nat → Nat) (C3 : cw_C) (k : Nat) (x r l p : Int32) : Prop := (∀ f i, i < cN C f → ad1 f i = ad f i) ∧ cN C3 1 = cN C 1 + 1 ∧ (∀ f, ¬ f = 1 → ¬ f = 6 → C3 f = C f) ∧ (∀ i j, i < cN C 1 → cI C3 1 i j = cI C 1 i j ∧ cR C3 1 i j = cR C 1 i j) ∧ cR C3 1 (cN C 1) 0 = some (ad1 4 k) ∧ cI C3 1 (cN C 1) 1 = x ∧ cI C3 1 (cN C 1) 2 = r ∧ cI C3 1 (cN C 1) 3 = l ∧ cI C3 1 (cN C 1) 4 = p ∧ cI C3 1 (cN C 1) 6 = 0 ∧ cR C3 1 (cN C 1) 8 = none
def bd9 (C : cw_C) (g a : Nat) (x r l p : Int32) : cw_C := cw_row C 1 g (fun j => [0, x, r, l, p].getD j 0) (fun _ => 0) (fun j => bif Nat.beq j 0 then some a else none)
theorem bNw_of {ad : Nat → Nat → Nat} {C C2 : cw_C} {k y : Nat} {x r l p : Int32} (hk : k6 (cw_new C 1) C2) : bNw ad C (cw_ad ad C 1 y) (bd9 C2 (cN C 1) (cw_ad ad C 1 y 4 k) x r l p) k x r l p := by
  have e2 : C2 1 = cw_new C 1 1 := (hk 1).1 (by decide)
  refine ⟨fun f i hi => cw_ad_o hi, ?_, fun f h1 h6 => ?_, fun i j hi => ⟨?_, ?_⟩, cR_row_e, cI_row_e, cI_row_e, cI_row_e, cI_row_e, cI_row_e, cR_row_e⟩
  · unfold bd9; rw [cw_row_N, cN_o e2]; exact cN_ext
  · unfold bd9; rw [cw_row_o h1, (hk f).1 h6]; exact cw_ext_o h1
  · unfold bd9; rw [cI_row_n (by omega), cI_o e2]; exact cI_ext_o hi
  · unfold bd9; rw [cR_row_n (by omega), cR_o e2]; exact cR_ext_o hi
theorem bCh_of {ad ad1 ad4 : Nat → Nat → Nat} {C C3 C4 : cw_C} {A0 k q p : Nat} {r l v c : Int32} {o : Option Nat} (hb : bNw ad C ad1 C3 k (nI q) r l (nI p)) (fb : fB A0 ad1 C3 ad4 C4 (cN C 1)) (hl : lkR ad4 (cN C4 0) v o) (hc : cI C4 1 (cN C 1) 6 = c) : bCh ad C ad4 (cw_sR C4 1 (cN C 1) 5 o) k q p r l v c := by
  obtain ⟨b1, b2, b3, b4, b5, b6, b7, b8, b9, b10, b11⟩ := hb
  obtain ⟨y1, y2, y3, y4, y6, y7, y8, y9⟩ := fb
  have e0 : C3 0 = C 0 := b3 0 (by decide) (by decide)
  refine ⟨fun f i hi => ?_, by rw [cw_sR_N, y4, b2], ?_, ?_, ?_, fun i j hi => ⟨?_, ?_⟩, ?_, ?_, ?_, ?_, ?_, ?_, ?_, ?_⟩
  · by_cases z : f = 0
    · subst z; exact (y2 i (by rw [cN_o e0]; exact hi)).trans (b1 0 i hi)
    · exact (y1 f i z).trans (b1 f i hi)
  · rw [cw_sR_o (by decide), y3 4 (by decide) (by decide) (by decide)]; exact b3 4 (by decide) (by decide)
  · rw [cw_sR_o (by decide), y3 21 (by decide) (by decide) (by decide)]; exact b3 21 (by decide) (by decide)
  · rw [cw_sR_N, ← cN_o e0]; exact y8
  · rw [cI_sR, y6 i j (by omega)]; exact (b4 i j hi).1
  · rw [cR_sR_n (by omega), (y7 i j).2]; exact (b4 i j hi).2
  · rw [cR_sR_n (by omega), (y7 _ 0).2, b5, y1 4 k (by decide)]
  · rw [cI_sR, y6 _ 1 (by omega)]; exact b6
  · rw [cI_sR, y6 _ 2 (by omega)]; exact b7
  · rw [cI_sR, y6 _ 3 (by omega)]; exact b8
  · rw [cI_sR, y6 _ 4 (by omega)]; exact b9
  · rw [cw_sR_N, cR_sR_e]; exact hl
  · rw [cI_sR]; exact hc
  · rw [cR_sR_n (by omega), (y7 _ 8).2]; exact b11
def bdM (s : Bool) (X : mw_S) (g i : Nat) (f r l : Int32) : mw_S := if s = true then rm_bge X g f r l else mw_setV (rm_bge (rm_body X i r l f (X.1 47)) g f r l) 97 i (nI g)
theorem bdM_V {s : Bool} {X : mw_S} {g i j : Nat} {f r l : Int32} (hj : j < 84) (hj2 : ¬ (8 ≤ j ∧ j ≤ 12)) : (bdM s X g i f r l).2.2.1 j = X.2.2.1 j := by
  unfold bdM
  split
  · unfold rm_bge
    rw [V_o (by omega), V_o (by omega), V_o (by omega), V_o (by omega), V_o (by omega)]
  · unfold rm_bge rm_body
    rw [V_o (by omega), V_o (by omega), V_o (by omega), V_o (by omega), V_o (by omega), V_o (by omega), V_o (by omega), V_o (by omega), V_o (by omega), V_o (by omega), V_o (by omega)]
theorem bdM_108 {s : Bool} {X : mw_S} {g i : Nat} {f r l : Int32} : (bdM s X g i f r l).2.2.1 108 g = f := by
  unfold bdM
  split
  · unfold rm_bge
    rw [V_o (by omega), V_o (by omega), V_o (by omega), V_o (by omega), V_e]
  · unfold rm_bge
    rw [V_o (by omega), V_o (by omega), V_o (by omega), V_o (by omega), V_o (by omega), V_e]
theorem bdM_S {s : Bool} {X : mw_S} {g i : Nat} {f r l : Int32} : (bdM s X g i f r l).1 = X.1 := by
  unfold bdM
  split <;> rfl
/-- the memory ahead of a body's actions -/
def bM2 (tb : Nat → Nat) (n k q : Nat) (M : mw_S) (t : Nat) : mw_S := mw_setS (pw tb n (rm_bgh (rm_bnew (if rm_has M q k = true then rm_faulty M 3 (M.1 27) else M) (M.1 37).toNatClampNeg k q) (M.1 111).toNatClampNeg k q (qs tb n t) (M.1 13).toNatClampNeg (rm_has M q k)) t) 47 0
theorem bM2_V {tb : Nat → Nat} {n k q t j : Nat} {M : mw_S} (hj : j < 84) (hj2 : ¬ (38 ≤ j ∧ j ≤ 40)) : (bM2 tb n k q M t).2.2.1 j = M.2.2.1 j := by
  have key : ∀ M1 : mw_S, M1.2 = M.2 → (mw_setS (pw tb n (rm_bgh (rm_bnew M1 (M.1 37).toNatClampNeg k q) (M.1 111).toNatClampNeg k q (qs tb n t) (M.1 13).toNatClampNeg (rm_has M q k)) t) 47 0).2.2.1 j = M.2.2.1 j := by
    intro M1 h1
    have e : (mw_setS (pw tb n (rm_bgh (rm_bnew M1 (M.1 37).toNatClampNeg k q) (M.1 111).toNatClampNeg k q (qs tb n t) (M.1 13).toNatClampNeg (rm_has M q k)) t) 47 0).2.2.1 j = (rm_bgh (rm_bnew M1 (M.1 37).toNatClampNeg k q) (M.1 111).toNatClampNeg k q (qs tb n t) (M.1 13).toNatClampNeg (rm_has M q k)).2.2.1 j := rfl
    rw [e]
    show (mw_setV (mw_setV (mw_setV (mw_setV (mw_setV (rm_bnew M1 (M.1 37).toNatClampNeg k q) 98 _ _) 99 _ _) 107 _ _) 96 _ _) 114 _ _).2.2.1 j = _
    rw [V_o (by omega), V_o (by omega), V_o (by omega), V_o (by omega), V_o (by omega)]
    show (mw_setV (mw_setV (mw_setV M1 38 _ _) 39 _ _) 40 _ _).2.2.1 j = _
    rw [V_o (by omega), V_o (by omega), V_o (by omega), h1]
  unfold bM2
  split
  · exact key _ (rm_faulty_2 _ _ _)
  · exact key _ rfl
theorem bM2_13 {tb : Nat → Nat} {n k q t : Nat} {M : mw_S} : (bM2 tb n k q M t).1 13 = M.1 13 := by
  unfold bM2
  split
  · exact rm_faulty_1 M 3 (M.1 27) (j := 13) (by decide) (by decide)
  · rfl
theorem pBd3_bM {tb : Nat → Nat} {n k q t : Nat} {r l : Int32} {M : mw_S} {Z : pr_T} (hZ : Z = pB tb n (pL tb n k q n) (bM2 tb n k q M t) (t + 1) 1) : pBd3 tb n k q r l M t = if Z.1 = -2 then (0, Z.2) else (1, bdM (rm_has M q k) Z.2.1 (kg M) (6 * k + q) Z.1 r l, Z.2.2) := by
  subst hZ
  rfl

theorem rbd59 {A : Nat → Prop} {r l : Int32} (hrr : r = 0 ∨ r = 1 ∨ r = 2) (hll : l = 0 ∨ l = 1) {G : mm_G} {L : Nat × Nat} {h0 : mm_H} {tb : Nat → Nat} {n a0 g0 nk d t k : Nat} {M : mw_S} {ad : Nat → Nat → Nat} {C : cw_C} {B : Nat × Nat} {N : Nat → Nat} {h : mm_H} (htb : ∀ i, tb i < 256) (hI : pI tb n a0 M t) (hg : gI tb n g0 M t) (hS : sKd ad C tb n nk M t k) (hk50 : k < 50) (hrm : rmB n B h (qs tb n t)) (hB1 : B.1 + 2 ≤ L.1) (hB2 : B.2 + 18 ≤ L.2) (hN1 : N 1 ≤ zG M k) (hN4 : N 4 ≤ k) (hN21 : N 21 ≤ k) (hN6 : N 6 = 0) (hNo : ∀ f, N f ≤ cN C f) (hC : cw ad h0 C h) : mm_Run G mX6_readBody A L (d + 17) 59 [(0, .ref (ad 6 0)), (1, .ref (ad 4 k)), (2, .int r), (3, .int l)] [] h (bQ N h0 ad C B tb n nk k (pBd2 tb n k r l M t)) := by
  obtain ⟨n6, hf, hnow, hrc, hwd⟩ := id hS.1.1
  obtain ⟨n10, hw, -, -⟩ := hwd.at hrc
  have hr := hS.1.1
  have hn7 := hI.n7
  have hn8 : n ≤ 800 := by omega
  have hqt := qs_le (tb := tb) (n := n) t
  have hu_ := hrm
  unfold rmB at hu_
  have hL1 : h.2.1 + 1 ≤ L.1 := by omega
  have hL2 : h.2.2 + 9 ≤ L.2 := by omega
  have n4 : k < cN C 4 := by rw [hS.1.2.2.2.2.1.1]; omega
  have n21 : k < cN C 21 := by rw [hS.1.2.2.2.2.1.2]; omega
  have hgc := hg.c hn7
  have h11 := hS.2.1.2.1
  have h10 := hS.2.2.1
  have hzk := hS.2.1.2.2.2.1.1
  have hA0 : cN C 0 < 4001 := by have := hS.1.2.1.2.1; omega
  refine mm_aload_n (pc := 59) dX6_readBody_59 rfl (by first | trivial | assumption | exact mm_isr_rf _) ?_
  refine cw_grS (pc := 60) 6 _ 1 hC (rfl) rfl (n6) dX6_readBody_60 fl_X6_20 rfl rfl rfl (hnow) ?_
  refine cw_gi (pc := 63) 10 t 1 hC (rfl) rfl (n10) dX6_readBody_63 fl_X6_47 rfl rfl rfl ?_
  refine mm_topi _ hw.2.1 ?_
  refine mm_istore (pc := 66) dX6_readBody_66 rfl (Nat.le_of_ble_eq_true rfl) ?_
  refine mm_new (pc := 68) dX6_readBody_68 nl_X6_82 (hL1) (hL2) ?_
  have hC := hC.new 1 (by decide) rfl rfl
  have hr1 := hr.same (ad' := cw_ad ad C 1 h.2.1) (C' := cw_new C 1) (cw_ext_o (by decide)) (cw_ext_o (by decide)) (fun i hi => cw_ad_o hi)
  have n6 := hr1.1
  have hok : oK N ad C (cw_ad ad C 1 h.2.1) (cw_new C 1) := (oK.refl hNo).ext
  have en : cw_ad ad C 1 h.2.1 1 (cN C 1) = h.2.1 := cw_ad_n
  have e6 : cw_ad ad C 1 h.2.1 6 0 = ad 6 0 := cw_ad_o hr.1
  have e4 : cw_ad ad C 1 h.2.1 4 k = ad 4 k := cw_ad_o n4
  have e21 : cw_ad ad C 1 h.2.1 21 k = ad 21 k := cw_ad_o n21
  rw [← en, ← e6, ← e4]
  refine mm_dup (pc := 71) dX6_readBody_71 rfl ?_
  refine mm_aload_n (pc := 72) dX6_readBody_72 rfl (by first | trivial | assumption | exact mm_isr_rf _) ?_
  refine mm_aload_n (pc := 73) dX6_readBody_73 rfl (by first | trivial | assumption | exact mm_isr_rf _) ?_
  refine mm_callV (pc := 74) (As := []) (kd := ?kd_74_1) (fs := ?fs_74_1) dX6_readBody_74 vl_X6_84 (th_any hr1 hn8 hC) ?hc_74_1 ?hk_74_1 rfl rfl (Nat.le_of_ble_eq_true rfl) ?_; (case hc_74_1 => exact cw_cell (f := 6) hC rfl rfl n6); (case hk_74_1 => rfl)
  rintro _ h74 ⟨C2, hC, k_, e_, x_, rfl, ⟨h7, hr2, hx_⟩ | ⟨h7, hr2, hx_⟩⟩
  · have m1 : cN C 1 < cN C2 1 := by rw [(k_ 1).2]; show cN C 1 < cN (cw_ext C 1 _ _ _) 1; rw [cN_ext]; omega
    obtain ⟨q, hq_⟩ : ∃ q, cd tb n t = q + 7 := ⟨cd tb n t - 7, by omega⟩
    obtain rfl : x_ = nI q := by rw [hx_, hq_]; rfl
    have hq6 : q < 6 := by omega
    refine mm_iload_n (pc := 77) dX6_readBody_77 rfl ?_
    refine mm_iload_n (pc := 78) dX6_readBody_78 rfl ?_
    refine mm_iload (pc := 79) dX6_readBody_79 rfl ?_
    refine mm_callI (pc := 81) (As := [_, _, _, _, _]) dX6_readBody_81 il_X6_88 (ok_X1_init hll (cw_cell (f := 1) hC rfl rfl m1)) rfl rfl (Nat.le_of_ble_eq_true rfl) ?_
    rintro _ h81 ⟨rfl, e81⟩
    have hC := hC.row 1 (cN C 1) (by decide) m1 (fun j => [0, (nI q), r, l, nI (qs tb n t)].getD j 0) (fun _ => 0) (fun j => bif Nat.beq j 0 then some (cw_ad ad C 1 h.2.1 4 k) else none) e81
    have hC : cw (cw_ad ad C 1 h.2.1) h0 (bd9 C2 (cN C 1) (cw_ad ad C 1 h.2.1 4 k) (nI q) r l (nI (qs tb n t))) h81 := hC
    have hbn := bNw_of (ad := ad) (y := h.2.1) (k := k) (x := (nI q)) (r := r) (l := l) (p := nI (qs tb n t)) k_
    have hok := (hok.six k_ hN6).row (a := fun j => [0, (nI q), r, l, nI (qs tb n t)].getD j 0) (b := fun _ => 0) (c := fun j => bif Nat.beq j 0 then some (cw_ad ad C 1 h.2.1 4 k) else none) (f := 1) (hNo 1)
    have hok : oK N ad C (cw_ad ad C 1 h.2.1) (bd9 C2 (cN C 1) (cw_ad ad C 1 h.2.1 4 k) (nI q) r l (nI (qs tb n t))) := hok
    have s81 : h81.2 = (h.2.1 + 1, h.2.2 + 9) := by rw [e81]; exact e_
    have hr3 := hr2.same (ad' := cw_ad ad C 1 h.2.1) (C' := bd9 C2 (cN C 1) (cw_ad ad C 1 h.2.1 4 k) (nI q) r l (nI (qs tb n t))) (cw_row_o (by decide)) (cw_row_o (by decide)) (fun _ _ => rfl)
    generalize bd9 C2 (cN C 1) (cw_ad ad C 1 h.2.1 4 k) (nI q) r l (nI (qs tb n t)) = C3 at *
    generalize cw_ad ad C 1 h.2.1 = ad1 at *
    have n1 : cN C 1 < cN C3 1 := by rw [hbn.2.1]; omega
    have n6 := hr3.1
    have hz_ : pBd2 tb n k r l M t = pBd3 tb n k q r l M t := by
      unfold pBd2
      rw [if_neg (show ¬ hkI (cd tb n t) < 0 by unfold hkI; rw [if_pos (by omega)]; exact nI_pos (by omega)), hq_]
      rfl
    have hI2 : pI tb n a0 (bM2 tb n k q M t) (t + 1) := pBd3_I hI (by omega)
    have h0_ : C3 0 = C 0 := hbn.2.2.1 0 (by decide) (by decide)
    have hS2 : sBd ad1 C3 tb n (bM2 tb n k q M t) (t + 1) (cN C 1) := ⟨hr3, hS.1.2.1.same h0_ (fun i hi => hbn.1 0 i hi) bM2_13 (bM2_V (by decide) (by decide)) (bM2_V (by decide) (by decide)) (bM2_V (by decide) (by decide)) (bM2_V (by decide) (by decide)) (bM2_V (by decide) (by decide)) (bM2_V (by decide) (by decide)), n1, hbn.2.2.2.2.2.2.2.2.2.1, 0, rfl, Nat.le_refl _, by decide⟩
    have hq1 := qs_lt (tb := tb) (n := n) (t := t) (by omega)
    have hrm2 := hrm.newB hq1.2.1 (qs_le _) s81
    obtain ⟨Z, hZ⟩ : ∃ Z, Z = pB tb n (pL tb n k q n) (bM2 tb n k q M t) (t + 1) 1 := ⟨_, rfl⟩
    have hz3 := pBd3_bM (r := r) (l := l) hZ
    rw [hz_, hz3]
    refine mm_astore (pc := 84) dX6_readBody_84 (by first | trivial | assumption | exact mm_isr_rf _) rfl (Nat.le_of_ble_eq_true rfl) ?_
    refine mm_aload (pc := 86) dX6_readBody_86 rfl (by first | trivial | assumption | exact mm_isr_rf _) ?_
    refine mm_aload_n (pc := 88) dX6_readBody_88 rfl (by first | trivial | assumption | exact mm_isr_rf _) ?_
    refine mm_aload (pc := 89) dX6_readBody_89 rfl (by first | trivial | assumption | exact mm_isr_rf _) ?_
    refine mm_iconst (pc := 91) (v := 1) dX6_readBody_91 (by decide) ?_
    refine mm_callV (pc := 92) (As := [_, _]) (kd := ?kd_92_2) (fs := ?fs_92_2) dX6_readBody_92 vl_X6_91 (rb_ok (k := k) (q := q) (f := n) (d := d) htb ad1 C3 (bM2 tb n k q M t) (t + 1) (cN C 1) (cN C3 0) B h81 hI2 (by omega) hS2 (Nat.le_refl _) hrm2 (by omega) (by omega) hC) ?hc_92_2 ?hk_92_2 rfl rfl (Nat.le_of_ble_eq_true rfl) ?_; (case hc_92_2 => exact cw_cell (f := 6) hC rfl rfl n6); (case hk_92_2 => rfl)
    rintro _ h92 ⟨ad4, C4, hC, fb, ⟨zne, sb, rm2, o_, rfl, lk⟩ | ⟨zeq, p_, rd, pl, rm2, o_, rfl⟩⟩
    · rw [← hZ] at zne sb rm2 lk
      rw [if_neg zne]
      have hok := hok.fB fb (by rw [cN_o h0_]; exact hNo 0) (hNo 1) hN6
      rw [← fb.1 6 0 (by decide), ← fb.1 4 k (by decide), ← fb.1 1 (cN C 1) (by decide)]
      have n1 : cN C 1 < cN C4 1 := by rw [fb.2.2.2.1]; exact n1
      refine cw_pr (pc := 95) (x := o_) 1 (cN C 1) 5 hC (rfl) rfl (n1) dX6_readBody_95 (pl_X6_95 _) rfl rfl (rfl) (fun h95 hC e95 => ?_)
      have hbc := bCh_of hbn fb lk sb.2.2.2.1
      have hok := hok.sR (j := 5) (x := o_) (f := 1) (hNo 1)
      have n1 : cN C 1 < cN (cw_sR C4 1 (cN C 1) 5 o_) 1 := by rw [cw_sR_N]; exact n1
      have hr5 := sb.1.same (ad' := ad4) (C' := cw_sR C4 1 (cN C 1) 5 o_) (cw_sR_o (by decide)) (cw_sR_o (by decide)) (fun _ _ => rfl)
      have ha5 : (cw_sR C4 1 (cN C 1) 5 o_) 0 = C4 0 := cw_sR_o (by decide)
      have hhk := hbc.2.2.2.2.2.2.2.1
      generalize cw_sR C4 1 (cN C 1) 5 o_ = C5 at *
      have w4_ : C5 4 = C 4 := hbc.2.2.1
      have w21_ : C5 21 = C 21 := hbc.2.2.2.1
      have wa_ : ad4 21 k = ad 21 k := hbc.1 21 k n21
      have wb_ : ∀ i, i < cN C 1 → ad4 1 i = ad 1 i := fun i hi => hbc.1 1 i hi
      have n4 : k < cN C5 4 := by rw [cN_o w4_]; exact n4
      have n21 : k < cN C5 21 := by rw [cN_o w21_]; exact n21
      have h11 : cR C5 4 k 11 = some (ad4 21 k) := by rw [cR_o w4_, h11, wa_]
      have h10 : cR C5 4 k 10 = if zG M k < cN C 1 then some (ad4 1 (cN C 1 - 1)) else none := by
        rw [cR_o w4_, h10]
        by_cases z : zG M k < cN C 1
        · rw [if_pos z, if_pos z, wb_ _ (by omega)]
        · rw [if_neg z, if_neg z]
      refine mm_aload_n (pc := 98) dX6_readBody_98 rfl (by first | trivial | assumption | exact mm_isr_rf _) ?_
      refine mm_aload (pc := 99) dX6_readBody_99 rfl (by first | trivial | assumption | exact mm_isr_rf _) ?_
      refine mm_callV (pc := 101) (As := [_]) (kd := ?kd_101_3) (fs := ?fs_101_3) dX6_readBody_101 vl_X6_99 (gv_any (zG M k) n4 n1 n21 hq6 h11 hhk h10 hC) ?hc_101_3 ?hk_101_3 rfl rfl (Nat.le_of_ble_eq_true rfl) ?_; (case hc_101_3 => exact cw_cell (f := 4) hC rfl rfl n4); (case hk_101_3 => rfl)
      rintro _ h101 ⟨C6, hC, e101, rfl, hgv⟩
      refine mm_vret (pc := 104) dX6_readBody_104 rfl ?_
      have hok := hok.gv hgv hN1 hN4 hN21
      have hr6 := hr5.same (ad' := ad4) (C' := C6) (hgv.1 6 (by decide) (by decide) (by decide)) (hgv.1 10 (by decide) (by decide) (by decide)) (fun _ _ => rfl)
      refine ⟨rfl, ad4, C6, hC, hok, ⟨(fb.1 6 0 (by decide)).trans e6, (fb.1 4 k (by decide)).trans e4⟩, Or.inl ⟨(show ¬ (1 : Int32) = 0 by decide), ?_, ?_⟩⟩
      · have hfx := pBd3_fx (k := k) hI hg hq_ hq6 hrr hll (by rw [hz3, if_neg zne]; exact (show ¬ (1 : Int32) = 0 by decide))
        rw [hz3, if_neg zne] at hfx
        refine hS.body hk50 hgc.2.2.2 hbc hgv hfx bdM_108 (congrFun bdM_S 47) rfl hr6 ?_
        exact sb.2.1.same ((hgv.1 0 (by decide) (by decide) (by decide)).trans ha5) (fun _ _ => rfl) (congrFun bdM_S 13) (bdM_V (by decide) (by decide)) (bdM_V (by decide) (by decide)) (bdM_V (by decide) (by decide)) (bdM_V (by decide) (by decide)) (bdM_V (by decide) (by decide)) (bdM_V (by decide) (by decide))
      · exact rm2.mono (Nat.le_refl _) (by rw [e101, e95])
    · rw [← hZ] at zeq pl
      rw [if_pos zeq]
      have hok := hok.fB fb (by rw [cN_o h0_]; exact hNo 0) (hNo 1) hN6
      rw [← fb.1 6 0 (by decide), ← fb.1 4 k (by decide), ← fb.1 1 (cN C 1) (by decide)]
      have n1 : cN C 1 < cN C4 1 := by rw [fb.2.2.2.1]; exact n1
      refine cw_pr (pc := 95) (x := o_) 1 (cN C 1) 5 hC (rfl) rfl (n1) dX6_readBody_95 (pl_X6_95 _) rfl rfl (rfl) (fun h95 hC e95 => ?_)
      have hok := hok.sR (j := 5) (x := o_) (f := 1) (hNo 1)
      have hhk : cI (cw_sR C4 1 (cN C 1) 5 o_) 1 (cN C 1) 1 = nI q := by rw [cI_sR, fb.2.2.2.2.1 _ 1 (by omega)]; exact hbn.2.2.2.2.2.1
      have n1 : cN C 1 < cN (cw_sR C4 1 (cN C 1) 5 o_) 1 := by rw [cw_sR_N]; exact n1
      have hr5 := rd.same (ad' := ad4) (C' := cw_sR C4 1 (cN C 1) 5 o_) (cw_sR_o (by decide)) (cw_sR_o (by decide)) (fun _ _ => rfl)
      have w4z : (cw_sR C4 1 (cN C 1) 5 o_) 4 = C 4 := (cw_sR_o (by decide)).trans ((fb.2.2.1 4 (by decide) (by decide) (by decide)).trans (hbn.2.2.1 4 (by decide) (by decide)))
      have w21z : (cw_sR C4 1 (cN C 1) 5 o_) 21 = C 21 := (cw_sR_o (by decide)).trans ((fb.2.2.1 21 (by decide) (by decide) (by decide)).trans (hbn.2.2.1 21 (by decide) (by decide)))
      generalize cw_sR C4 1 (cN C 1) 5 o_ = C5 at *
      have w4_ : C5 4 = C 4 := w4z
      have w21_ : C5 21 = C 21 := w21z
      have wa_ : ad4 21 k = ad 21 k := (fb.1 21 k (by decide)).trans (hbn.1 21 k n21)
      have wb_ : ∀ i, i < cN C 1 → ad4 1 i = ad 1 i := fun i hi => (fb.1 1 i (by decide)).trans (hbn.1 1 i hi)
      have n4 : k < cN C5 4 := by rw [cN_o w4_]; exact n4
      have n21 : k < cN C5 21 := by rw [cN_o w21_]; exact n21
      have h11 : cR C5 4 k 11 = some (ad4 21 k) := by rw [cR_o w4_, h11, wa_]
      have h10 : cR C5 4 k 10 = if zG M k < cN C 1 then some (ad4 1 (cN C 1 - 1)) else none := by
        rw [cR_o w4_, h10]
        by_cases z : zG M k < cN C 1
        · rw [if_pos z, if_pos z, wb_ _ (by omega)]
        · rw [if_neg z, if_neg z]
      refine mm_aload_n (pc := 98) dX6_readBody_98 rfl (by first | trivial | assumption | exact mm_isr_rf _) ?_
      refine mm_aload (pc := 99) dX6_readBody_99 rfl (by first | trivial | assumption | exact mm_isr_rf _) ?_
      refine mm_callV (pc := 101) (As := [_]) (kd := ?kd_101_4) (fs := ?fs_101_4) dX6_readBody_101 vl_X6_99 (gv_any (zG M k) n4 n1 n21 hq6 h11 hhk h10 hC) ?hc_101_4 ?hk_101_4 rfl rfl (Nat.le_of_ble_eq_true rfl) ?_; (case hc_101_4 => exact cw_cell (f := 4) hC rfl rfl n4); (case hk_101_4 => rfl)
      rintro _ h101 ⟨C6, hC, e101, rfl, hgv⟩
      refine mm_vret (pc := 104) dX6_readBody_104 rfl ?_
      have hok := hok.gv hgv hN1 hN4 hN21
      have hr6 := hr5.same (ad' := ad4) (C' := C6) (hgv.1 6 (by decide) (by decide) (by decide)) (hgv.1 10 (by decide) (by decide) (by decide)) (fun _ _ => rfl)
      exact ⟨rfl, ad4, C6, hC, hok, ⟨(fb.1 6 0 (by decide)).trans e6, (fb.1 4 k (by decide)).trans e4⟩, Or.inr ⟨rfl, p_, hr6, pl, rm2.X (x := 0) (y := 0) (by decide) (by decide) (e101.trans e95), by rw [hgv.2.1]; exact n4⟩⟩
  · have m1 : cN C 1 < cN C2 1 := by rw [(k_ 1).2]; show cN C 1 < cN (cw_ext C 1 _ _ _) 1; rw [cN_ext]; omega
    refine mm_iload_n (pc := 77) dX6_readBody_77 rfl ?_
    refine mm_iload_n (pc := 78) dX6_readBody_78 rfl ?_
    refine mm_iload (pc := 79) dX6_readBody_79 rfl ?_
    refine mm_callI (pc := 81) (As := [_, _, _, _, _]) dX6_readBody_81 il_X6_88 (ok_X1_init hll (cw_cell (f := 1) hC rfl rfl m1)) rfl rfl (Nat.le_of_ble_eq_true rfl) ?_
    rintro _ h81 ⟨rfl, e81⟩
    have hC := hC.row 1 (cN C 1) (by decide) m1 (fun j => [0, x_, r, l, nI (qs tb n t)].getD j 0) (fun _ => 0) (fun j => bif Nat.beq j 0 then some (cw_ad ad C 1 h.2.1 4 k) else none) e81
    have hC : cw (cw_ad ad C 1 h.2.1) h0 (bd9 C2 (cN C 1) (cw_ad ad C 1 h.2.1 4 k) x_ r l (nI (qs tb n t))) h81 := hC
    have hbn := bNw_of (ad := ad) (y := h.2.1) (k := k) (x := x_) (r := r) (l := l) (p := nI (qs tb n t)) k_
    have hok := (hok.six k_ hN6).row (a := fun j => [0, x_, r, l, nI (qs tb n t)].getD j 0) (b := fun _ => 0) (c := fun j => bif Nat.beq j 0 then some (cw_ad ad C 1 h.2.1 4 k) else none) (f := 1) (hNo 1)
    have hok : oK N ad C (cw_ad ad C 1 h.2.1) (bd9 C2 (cN C 1) (cw_ad ad C 1 h.2.1 4 k) x_ r l (nI (qs tb n t))) := hok
    have s81 : h81.2 = (h.2.1 + 1, h.2.2 + 9) := by rw [e81]; exact e_
    have hr3 := hr2.same (ad' := cw_ad ad C 1 h.2.1) (C' := bd9 C2 (cN C 1) (cw_ad ad C 1 h.2.1 4 k) x_ r l (nI (qs tb n t))) (cw_row_o (by decide)) (cw_row_o (by decide)) (fun _ _ => rfl)
    generalize bd9 C2 (cN C 1) (cw_ad ad C 1 h.2.1 4 k) x_ r l (nI (qs tb n t)) = C3 at *
    generalize cw_ad ad C 1 h.2.1 = ad1 at *
    have n1 : cN C 1 < cN C3 1 := by rw [hbn.2.1]; omega
    have n6 := hr3.1
    refine mm_astore (pc := 84) dX6_readBody_84 (by first | trivial | assumption | exact mm_isr_rf _) rfl (Nat.le_of_ble_eq_true rfl) ?_
    refine mm_aload (pc := 86) dX6_readBody_86 rfl (by first | trivial | assumption | exact mm_isr_rf _) ?_
    refine mm_aload_n (pc := 88) dX6_readBody_88 rfl (by first | trivial | assumption | exact mm_isr_rf _) ?_
    refine mm_aload (pc := 89) dX6_readBody_89 rfl (by first | trivial | assumption | exact mm_isr_rf _) ?_
    refine mm_iconst (pc := 91) (v := 1) dX6_readBody_91 (by decide) ?_
    refine mm_callV (pc := 92) (As := [_, _]) (kd := ?kd_92_5) (fs := ?fs_92_5) dX6_readBody_92 vl_X6_91 (rb_dead (d := d + 14) n1 hr3 hC) ?hc_92_5 ?hk_92_5 rfl rfl (Nat.le_of_ble_eq_true rfl) ?_; (case hc_92_5 => exact cw_cell (f := 6) hC rfl rfl n6); (case hk_92_5 => rfl)
    rintro _ _ ⟨rfl, rfl⟩
    refine cw_pr (pc := 95) (x := none) 1 (cN C 1) 5 hC (rfl) rfl (n1) dX6_readBody_95 (pl_X6_95 _) rfl rfl (rfl) (fun h95 hC e95 => ?_)
    have hok := hok.sR (j := 5) (x := none) (f := 1) (hNo 1)
    have hhk : cI (cw_sR C3 1 (cN C 1) 5 none) 1 (cN C 1) 1 = nI 0 := by rw [cI_sR]; exact hbn.2.2.2.2.2.1.trans hx_
    have n1 : cN C 1 < cN (cw_sR C3 1 (cN C 1) 5 none) 1 := by rw [cw_sR_N]; exact n1
    have hr5 := hr3.same (ad' := ad1) (C' := cw_sR C3 1 (cN C 1) 5 none) (cw_sR_o (by decide)) (cw_sR_o (by decide)) (fun _ _ => rfl)
    have w4z : (cw_sR C3 1 (cN C 1) 5 none) 4 = C 4 := (cw_sR_o (by decide)).trans (hbn.2.2.1 4 (by decide) (by decide))
    have w21z : (cw_sR C3 1 (cN C 1) 5 none) 21 = C 21 := (cw_sR_o (by decide)).trans (hbn.2.2.1 21 (by decide) (by decide))
    generalize cw_sR C3 1 (cN C 1) 5 none = C5 at *
    have w4_ : C5 4 = C 4 := w4z
    have w21_ : C5 21 = C 21 := w21z
    have wa_ : ad1 21 k = ad 21 k := hbn.1 21 k n21
    have wb_ : ∀ i, i < cN C 1 → ad1 1 i = ad 1 i := fun i hi => hbn.1 1 i hi
    have n4 : k < cN C5 4 := by rw [cN_o w4_]; exact n4
    have n21 : k < cN C5 21 := by rw [cN_o w21_]; exact n21
    have h11 : cR C5 4 k 11 = some (ad1 21 k) := by rw [cR_o w4_, h11, wa_]
    have h10 : cR C5 4 k 10 = if zG M k < cN C 1 then some (ad1 1 (cN C 1 - 1)) else none := by
      rw [cR_o w4_, h10]
      by_cases z : zG M k < cN C 1
      · rw [if_pos z, if_pos z, wb_ _ (by omega)]
      · rw [if_neg z, if_neg z]
    refine mm_aload_n (pc := 98) dX6_readBody_98 rfl (by first | trivial | assumption | exact mm_isr_rf _) ?_
    refine mm_aload (pc := 99) dX6_readBody_99 rfl (by first | trivial | assumption | exact mm_isr_rf _) ?_
    refine mm_callV (pc := 101) (As := [_]) (kd := ?kd_101_6) (fs := ?fs_101_6) dX6_readBody_101 vl_X6_99 (gv_any (zG M k) n4 n1 n21 (by decide) h11 hhk h10 hC) ?hc_101_6 ?hk_101_6 rfl rfl (Nat.le_of_ble_eq_true rfl) ?_; (case hc_101_6 => exact cw_cell (f := 4) hC rfl rfl n4); (case hk_101_6 => rfl)
    rintro _ h101 ⟨C6, hC, e101, rfl, hgv⟩
    refine mm_vret (pc := 104) dX6_readBody_104 rfl ?_
    have hok := hok.gv hgv hN1 hN4 hN21
    have hr6 := hr5.same (ad' := ad1) (C' := C6) (hgv.1 6 (by decide) (by decide) (by decide)) (hgv.1 10 (by decide) (by decide) (by decide)) (fun _ _ => rfl)
    have hz_ : pBd2 tb n k r l M t = (0, pf tb n M t, t) := by
      unfold pBd2
      rw [if_pos (show hkI (cd tb n t) < 0 by unfold hkI; rw [if_neg (by omega)]; decide)]
    rw [hz_]
    exact ⟨rfl, ad1, C6, hC, hok, ⟨e6, e4⟩, Or.inr ⟨rfl, qs tb n t, hr6, rfl, hrm.X (x := 1) (y := 9) (by decide) (by decide) (by rw [e101, e95, s81]), by rw [hgv.2.1]; exact n4⟩⟩

