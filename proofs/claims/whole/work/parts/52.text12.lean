/-! a pack of the reference -/
section UNK
variable {tb : Nat → Nat} {n : Nat} {u : Nat → Nat → Option Nat} {x : Option Nat}
theorem pBs_U (k : Nat) : ∀ (f : Nat) (M : mw_S) (t : Nat), pBs tb n k f (mUN u x M) t = prU u x (pBs tb n k f M t) := by
  intro f
  induction f with
  | zero => intro M t; rfl
  | succ f ih =>
    intro M t
    show (if cd tb n t = 5 then (1, mw_setV (pw tb n (mUN u x M) t) 106 k (M.1 111), t + 1) else if (pBody tb n k (mUN u x M) t).1 = 0 then pBody tb n k (mUN u x M) t else pBs tb n k f (pBody tb n k (mUN u x M) t).2.1 (pBody tb n k (mUN u x M) t).2.2) = prU u x (if cd tb n t = 5 then (1, mw_setV (pw tb n M t) 106 k (M.1 111), t + 1) else if (pBody tb n k M t).1 = 0 then pBody tb n k M t else pBs tb n k f (pBody tb n k M t).2.1 (pBody tb n k M t).2.2)
    rw [prU_if, prU_if, pBody_U]
    exact if_c rfl (if_c rfl (ih (pBody tb n k M t).2.1 (pBody tb n k M t).2.2))
theorem rm_knm_U (M : mw_S) (k : Nat) (w : Int64) (p : Nat) : rm_knm (mUN u x M) k w p = mUN u x (rm_knm M k w p) := by
  unfold rm_knm
  rw [mUN_if, ← rm_faulty_U]
  rfl
theorem rm_kin_U (M : mw_S) (k : Nat) (ab : Option Nat) (w : Int64) (p : Nat) : rm_kin (mUN u x M) k ab w p = mUN u x (rm_kin M k ab w p) := by
  unfold rm_kin
  have e : (if ab = none then rm_faulty (mw_setV (mUN u x M) 6 k (oI ab)) 2 ((mUN u x M).1 27) else mw_setV (mUN u x M) 6 k (oI ab)) = mUN u x (if ab = none then rm_faulty (mw_setV M 6 k (oI ab)) 2 (M.1 27) else mw_setV M 6 k (oI ab)) := by
    rw [mUN_if, ← rm_faulty_U]
    rfl
  rw [e]
  rfl
theorem pK4_U (k : Nat) (M : mw_S) (t : Nat) : pK4 tb n k (mUN u x M) t = prU u x (pK4 tb n k M t) := by
  unfold pK4
  rw [prU_if, rm_kin_U]
  refine if_c ?_ rfl
  have e : pw tb n (mUN u x (rm_kin M k (kfi ((mUN u x M).2.2.2.1 100) (spL (wo tb n t)) k) (spL (wo tb n t)) (qs tb n t))) t = mUN u x (pw tb n (rm_kin M k (kfi (M.2.2.2.1 100) (spL (wo tb n t)) k) (spL (wo tb n t)) (qs tb n t)) t) := rfl
  rw [e, pT_U]
  generalize pT tb n (pw tb n (rm_kin M k (kfi (M.2.2.2.1 100) (spL (wo tb n t)) k) (spL (wo tb n t)) (qs tb n t)) t) (t + 1) 4 = z
  unfold pK5
  rw [prU_if]
  exact if_c rfl (pBs_U k (n + 1) z.2.1 z.2.2)
theorem pKind_U (M : mw_S) (t : Nat) : pKind tb n (mUN u x M) t = prU u x (pKind tb n M t) := by
  unfold pKind
  rw [prU_if, prU_if]
  refine if_c (if_c rfl ?_) rfl
  show pK2 tb n (M.1 3 + M.1 35).toNatClampNeg (mUN u x (pw tb n M t)) (t + 1) = _
  generalize (M.1 3 + M.1 35).toNatClampNeg = k
  generalize pw tb n M t = M1
  generalize t + 1 = t1
  unfold pK2
  rw [prU_if, rm_knm_U]
  refine if_c ?_ rfl
  have e : pw tb n (mUN u x (rm_knm M1 k (spL (wo tb n t1)) (qs tb n t1))) t1 = mUN u x (pw tb n (rm_knm M1 k (spL (wo tb n t1)) (qs tb n t1)) t1) := rfl
  rw [e, pT_U]
  generalize pT tb n (pw tb n (rm_knm M1 k (spL (wo tb n t1)) (qs tb n t1)) t1) (t1 + 1) 26 = z
  unfold pK3
  rw [prU_if]
  exact if_c rfl (pK4_U k z.2.1 z.2.2)
end UNK

theorem rk_kinds {G : mm_G} {L : Nat × Nat} {d : Nat} {m : Nat} {ad : Nat → Nat} {tb : Nat → Nat} {n a0 g0 nk : Nat} {x : Option Nat} {A : Nat → Prop} {hb : mm_H} (hL : LT G m ad hb) (hnk : nk ≤ 40) : ∀ (f : Nat) (M : mw_S) (t : Nat) (h : mm_H) (nn : Nat) (u : Nat → Nat → Option Nat), pI tb n a0 M t → gI tb n g0 M t → n - qs tb n t < f → M.1 3 = nI nk → M.1 35 = nI nn → nn ≤ 10 → nmT m ad h (mUN u x M) 4 100 (nk + nn) → h.2.1 + 24 * (11 - nn) ≤ L.1 → h.2.2 + 196 * (11 - nn) ≤ L.2 → mw_W m ad hb (mUN u x M) h → ∀ Q : Option Value → mm_H → Prop, (∀ r h2 u2, (mw_W m ad hb (mUN u2 x (pKs tb n f M t).2.1) h2 ∧ h2.2.1 ≤ h.2.1 + 24 * (11 - nn) ∧ h2.2.2 ≤ h.2.2 + 196 * (11 - nn) ∧ r = some (.int (pKs tb n f M t).1) ∧ (∀ j i, ¬ (j = 4 ∧ nk ≤ i) → u2 j i = u j i) ∧ (¬ (pKs tb n f M t).1 = 0 → ∃ nn2, nn2 ≤ 10 ∧ (pKs tb n f M t).2.1.1 35 = nI nn2 ∧ nmT m ad h2 (mUN u2 x (pKs tb n f M t).2.1) 4 100 (nk + nn2))) → Q r h2) → mm_Run G mX12_readPack A L (d + 31) 122 [(0, .ref m)] [] h Q := by
  intro f
  induction f with
  | zero => intro M t h nn u _ _ hf; omega
  | succ f ih =>
    intro M t h nn u hI hg hf hs3 hs35 hnn hN hL1 hL2 hW Q hQ
    refine mm_aload_n (pc := 122) dX12_readPack_122 rfl (by first | trivial | assumption | exact mm_isr_rf _) ?_
    refine mm_callV (pc := 123) (As := []) (kd := ?kd_123_1) (fs := ?fs_123_1) dX12_readPack_123 vl_X12_323 (ok_readKind (d := d) (M := mUN u x M) (nk := nk) (nn := nn) hI.U hs3 hnk hs35 hnn hN (hL.re hW) (by omega) (by omega) hW.re) ?hc_123_1 ?hk_123_1 rfl rfl (Nat.le_of_ble_eq_true rfl) ?_; (case hc_123_1 => exact hW.1); (case hk_123_1 => rfl)
    rintro _ h123 ⟨u1, hW1, b123, s123, rfl, ag1, nm1⟩
    rw [pKind_U] at hW1 nm1 ⊢
    have hW1 : mw_W m ad h (mUN u1 x (pKind tb n M t).2.1) h123 := hW1
    have hW := hW.trans hW1
    refine mm_if_ne (pc := 126) (tgt := 131) dX12_readPack_126 (by decide) (fun c126 => ?_) (fun c126 => ?_)
    · have c126 : ¬ (pKind tb n M t).1 = 0 := c126
      obtain ⟨hh, hr1, ⟨g1, g2⟩, hlt⟩ := pKind_post hI c126
      obtain ⟨k35, kn10, kgI, kW, kS, -⟩ := pKind_cnt hI hg hs3 hs35 hnk hnn c126
      have q2 := qs_le_of (tb := tb) (n := n) g2
      have q3 := qs_le (tb := tb) (n := n) (pKind tb n M t).2.2
      have hN2 : nmT m ad h123 (mUN u1 x (pKind tb n M t).2.1) 4 100 (nk + (nn + 1)) := by
        intro i hi
        by_cases e : i = nk + nn
        · subst e
          obtain ⟨a, a1, a2, a3⟩ := nm1 c126
          refine ⟨a, _, a1, a2, a3, ?_⟩
          show (pKind tb n M t).2.1.2.2.2.1 100 (nk + nn) = _
          rw [kW]
          show mw_u2 (mw_u2 M.2.2.2.1 100 (nk + nn) (spL (wo tb n (t + 1)))) 103 (nk + nn) (spL (wo tb n (t + 1 + 1 + 1))) 100 (nk + nn) = _
          rw [mw_u2_ne _ _ (by omega), mw_u2_eq]
        · obtain ⟨a, bs, a1, a2, a3, a4⟩ := (hN.keep hW1) i (by omega)
          refine ⟨a, bs, (ag1 4 i (by omega)).trans a1, a2, a3, ?_⟩
          rw [← a4]
          show (pKind tb n M t).2.1.2.2.2.1 100 i = _
          rw [kW]
          show mw_u2 (mw_u2 M.2.2.2.1 100 (nk + nn) (spL (wo tb n (t + 1)))) 103 (nk + nn) (spL (wo tb n (t + 1 + 1 + 1))) 100 i = M.2.2.2.1 100 i
          rw [mw_u2_ne _ _ (by omega), mw_u2_ne _ _ (by omega)]
      refine mm_aload_n (pc := 131) dX12_readPack_131 rfl (by first | trivial | assumption | exact mm_isr_rf _) ?_
      refine mm_ldcSw (pc := 132) (i := 18) dX12_readPack_132 rfl ?_
      refine mm_callV (pc := 135) (As := [_]) (kd := ?kd_135_2) (fs := ?fs_135_2) dX12_readPack_135 vl_X12_263 (ok_isC (M := mUN u1 x (pKind tb n M t).2.1) (t := (pKind tb n M t).2.2) g1.U.1 hL 18 5 (w := [125]) (by decide +kernel) (by decide +kernel) hW) ?hc_135_2 ?hk_135_2 rfl rfl (Nat.le_of_ble_eq_true rfl) ?_; (case hc_135_2 => exact hW.1); (case hk_135_2 => rfl)
      rintro _ h_ ⟨e_, rfl⟩
      have e_ := e_.symm
      subst e_
      refine mm_if_eq (pc := 138) (tgt := 122) dX12_readPack_138 (by decide) (fun c138 => ?_) (fun c138 => ?_)
      · have n138 := bI_d.mp c138
        refine mm_weakK (ih (pKind tb n M t).2.1 (pKind tb n M t).2.2 h123 (nn + 1) u1 g1 kgI (by omega) ((kS 3 (by unfold kbS kpS; omega) (by decide)).trans hs3) k35 (by omega) hN2 (by omega) (by omega) hW Q ?_) (And.intro rfl trivial)
        rintro r h2 u2 ⟨w1, w2, w3, w4, w5, w6⟩
        refine hQ _ _ u2 ?_
        have ee : pKs tb n (f + 1) M t = (if (pKind tb n M t).1 = 0 then (pKind tb n M t) else if cd tb n (pKind tb n M t).2.2 = 5 then pEnd tb n (pw tb n (pKind tb n M t).2.1 (pKind tb n M t).2.2) ((pKind tb n M t).2.2 + 1) else pKs tb n f (pKind tb n M t).2.1 (pKind tb n M t).2.2) := rfl
        rw [ee, if_neg c126, if_neg n138]
        exact ⟨w1, by omega, by omega, w4, fun j i hji => (w5 j i hji).trans (ag1 j i (by omega)), w6⟩
      · have y138 := bI_n c138
        refine mm_aload_n (pc := 141) dX12_readPack_141 rfl (by first | trivial | assumption | exact mm_isr_rf _) ?_
        refine mm_callV (pc := 142) (As := []) (kd := ?kd_142_3) (fs := ?fs_142_3) dX12_readPack_142 vl_X12_284 ((ok_wordC (M := mUN u1 x (pKind tb n M t).2.1) (t := (pKind tb n M t).2.2) g1.U.1 hW.re).post (fun r h1 z => (⟨z.1, hW.trans z.1, z.2⟩ : mw_W m ad h123 (mUN u1 x (pw tb n (pKind tb n M t).2.1 (pKind tb n M t).2.2)) h1 ∧ mw_W m ad hb (mUN u1 x (pw tb n (pKind tb n M t).2.1 (pKind tb n M t).2.2)) h1 ∧ h1.2 = h123.2 ∧ r = none))) ?hc_142_3 ?hk_142_3 rfl rfl (Nat.le_of_ble_eq_true rfl) ?_; (case hc_142_3 => exact hW.1); (case hk_142_3 => rfl)
        rintro _ h142 ⟨hW9, hW, e142, rfl⟩
        have g8 := g1.w
        refine mm_aload_n (pc := 145) dX12_readPack_145 rfl (by first | trivial | assumption | exact mm_isr_rf _) ?_
        refine mw_gets (pc := 146) 29 hW dX12_readPack_146 fl_X12_215 rfl rfl ?_
        refine mm_if_eq (pc := 149) (tgt := 163) dX12_readPack_149 (by decide) (fun c149 => ?_) (fun c149 => ?_)
        · have y149 : cd tb n ((pKind tb n M t).2.2 + 1) = 0 := tkC_0.mpr ((nI_eq (b := 0) (by have := tkK_lt tb n (qs tb n ((pKind tb n M t).2.2 + 1)); omega) (by decide)).mp (g8.1.2.2.2.2.2.2.symm.trans c149))
          refine mm_iconst (pc := 163) (v := 1) dX12_readPack_163 (by decide) ?_
          refine mm_goto (pc := 164) (tgt := 168) dX12_readPack_164 (by decide) ?_
          refine mm_zret (pc := 168) dX12_readPack_168 rfl (by first | rfl | decide) ?_
          refine hQ _ _ u1 ?_
          have ee : pKs tb n (f + 1) M t = (if (pKind tb n M t).1 = 0 then (pKind tb n M t) else if cd tb n (pKind tb n M t).2.2 = 5 then pEnd tb n (pw tb n (pKind tb n M t).2.1 (pKind tb n M t).2.2) ((pKind tb n M t).2.2 + 1) else pKs tb n f (pKind tb n M t).2.1 (pKind tb n M t).2.2) := rfl
          rw [ee, if_neg c126, if_pos y138]
          unfold pEnd
          rw [if_pos y149]
          exact ⟨hW, by rw [e142]; omega, by rw [e142]; omega, rfl, fun j i hji => ag1 j i (by omega), fun _ => ⟨nn + 1, by omega, k35, (hN2.keep (show mw_W m ad h123 _ h142 from hW9)).same (fun _ _ => rfl) (fun _ _ => rfl)⟩⟩
        · have n149 : ¬ cd tb n ((pKind tb n M t).2.2 + 1) = 0 := fun z => c149 (show (pw tb n (pKind tb n M t).2.1 (pKind tb n M t).2.2).1 29 = 0 by rw [g8.1.2.2.2.2.2.2, tkC_0.mp z]; rfl)
          refine mm_aload_n (pc := 152) dX12_readPack_152 rfl (by first | trivial | assumption | exact mm_isr_rf _) ?_
          refine mm_aload_n (pc := 153) dX12_readPack_153 rfl (by first | trivial | assumption | exact mm_isr_rf _) ?_
          refine mw_gets (pc := 154) 27 hW dX12_readPack_154 fl_X12_212 rfl rfl ?_
          refine mm_callV (pc := 157) (As := [_]) (kd := ?kd_157_4) (fs := ?fs_157_4) dX12_readPack_157 vl_X12_281 (ok_failC (M := mUN u1 x (pw tb n (pKind tb n M t).2.1 (pKind tb n M t).2.2)) (t := (pKind tb n M t).2.2 + 1) g8.U.1 g8.2.1 hW) ?hc_157_4 ?hk_157_4 rfl rfl (Nat.le_of_ble_eq_true rfl) ?_; (case hc_157_4 => exact hW.1); (case hk_157_4 => rfl)
          rintro _ h157 ⟨hW, e157, rfl⟩
          refine mm_if_eq (pc := 160) (tgt := 167) dX12_readPack_160 (by decide) (fun c160 => ?_) (fun c160 => absurd rfl c160)
          refine mm_iconst (pc := 167) (v := 0) dX12_readPack_167 (by decide) ?_
          refine mm_zret (pc := 168) dX12_readPack_168 rfl (by first | rfl | decide) ?_
          refine hQ _ _ u1 ?_
          have ee : pKs tb n (f + 1) M t = (if (pKind tb n M t).1 = 0 then (pKind tb n M t) else if cd tb n (pKind tb n M t).2.2 = 5 then pEnd tb n (pw tb n (pKind tb n M t).2.1 (pKind tb n M t).2.2) ((pKind tb n M t).2.2 + 1) else pKs tb n f (pKind tb n M t).2.1 (pKind tb n M t).2.2) := rfl
          rw [ee, if_neg c126, if_pos y138]
          unfold pEnd
          rw [if_neg n149]
          exact ⟨hW, by rw [e157, e142]; omega, by rw [e157, e142]; omega, rfl, fun j i hji => ag1 j i (by omega), fun z => absurd rfl z⟩
    · have c126 : (pKind tb n M t).1 = 0 := c126
      refine mm_iconst (pc := 129) (v := 0) dX12_readPack_129 (by decide) ?_
      refine mm_zret (pc := 130) dX12_readPack_130 rfl (by first | rfl | decide) ?_
      refine hQ _ _ u1 ?_
      have ee : pKs tb n (f + 1) M t = (if (pKind tb n M t).1 = 0 then (pKind tb n M t) else if cd tb n (pKind tb n M t).2.2 = 5 then pEnd tb n (pw tb n (pKind tb n M t).2.1 (pKind tb n M t).2.2) ((pKind tb n M t).2.2 + 1) else pKs tb n f (pKind tb n M t).2.1 (pKind tb n M t).2.2) := rfl
      rw [ee, if_pos c126]
      exact ⟨hW, by omega, by omega, by rw [c126], fun j i hji => ag1 j i (by omega), fun z => absurd c126 z⟩

