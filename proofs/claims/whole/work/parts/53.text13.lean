/-! a pack of the reference, whole -/
theorem rm_with_U {u : Nat → Nat → Option Nat} {x : Option Nat} (M : mw_S) (np : Nat) (w : Int64) : rm_with (mUN u x M) np w = mUN u x (rm_with M np w) := by
  unfold rm_with
  rw [mUN_if]
  refine if_c rfl ?_
  show (match klA (M.2.2.2.1 101) w np with
    | some p => mw_setS (mUN u x M) 34 (M.2.2.1 21 p)
    | none => rm_faulty (mUN u x M) 2 (M.1 27)) = _
  cases klA (M.2.2.2.1 101) w np with
  | some p => rfl
  | none => exact rm_faulty_U u x M 2 (M.1 27)
theorem rm_with_1 {M : mw_S} {np : Nat} {w : Int64} {j : Nat} (h1 : ¬ j = 31) (h2 : ¬ j = 32) (h3 : ¬ j = 34) : (rm_with M np w).1 j = M.1 j := by
  unfold rm_with
  by_cases c : w = spL [104, 111, 117, 115, 101]
  · rw [if_pos c]; exact mw_u_ne _ _ h3
  · rw [if_neg c]
    cases klA (M.2.2.2.1 101) w np with
    | some p => exact mw_u_ne _ _ h3
    | none => exact rm_faulty_1 _ _ _ h1 h2
theorem rm_with_2 {M : mw_S} {np : Nat} {w : Int64} : (rm_with M np w).2 = M.2 := by
  unfold rm_with
  by_cases c : w = spL [104, 111, 117, 115, 101]
  · rw [if_pos c]; rfl
  · rw [if_neg c]
    cases klA (M.2.2.2.1 101) w np with
    | some p => rfl
    | none => exact rm_faulty_2 _ _ _
theorem pI.with_ {tb : Nat → Nat} {n a0 t np : Nat} {M : mw_S} {w : Int64} (h : pI tb n a0 M t) : pI tb n a0 (rm_with M np w) t := h.same2 (fun j _ h1 h2 _ h4 _ _ _ _ _ => rm_with_1 h1 h2 h4) (by rw [rm_with_2])
theorem pI.wgh {tb : Nat → Nat} {n a0 t p : Nat} {M : mw_S} {w : Int64} (h : pI tb n a0 M t) : pI tb n a0 (rm_wgh M w p) t := ((h.same (M' := mw_setW M 104 0 w) rfl rfl).sS rfl).sS rfl
theorem mw_W.gWg {m : Nat} {ad : Nat → Nat} {h0 h : mm_H} {M : mw_S} (hW : mw_W m ad h0 M h) {w : Int64} {p : Nat} : mw_W m ad h0 (rm_wgh M w p) h := ((hW.gW rfl).gS rfl).gS rfl
/-- the memory behind a pack's name -/
def pM1 (tb : Nat → Nat) (n : Nat) (M : mw_S) : mw_S := pw tb n (rm_word M tb n (qs tb n 0)) 0
def pM3 (tb : Nat → Nat) (n : Nat) (M : mw_S) : mw_S := mw_setS (mw_setS (pw tb n (mw_setW (pM1 tb n M) 102 0 (spL (wo tb n 1))) 1) 34 ((pM1 tb n M).1 23)) 101 0
theorem mw_setW_ne {M : mw_S} {j i l k : Nat} {x : Int64} (h : ¬ (l = j ∧ k = i)) : (mw_setW M j i x).2.2.2.1 l k = M.2.2.2.1 l k := mw_u2_ne _ _ h
theorem pM3_W {tb : Nat → Nat} {n i : Nat} {M : mw_S} : (pM3 tb n M).2.2.2.1 100 i = M.2.2.2.1 100 i := mw_setW_ne (M := pM1 tb n M) (j := 102) (i := 0) (x := spL (wo tb n 1)) (by omega)
/-- and behind the name that it joins -/
def pM4w (tb : Nat → Nat) (n np : Nat) (M : mw_S) : mw_S := rm_wgh (rm_with (pw tb n (pM3 tb n M) 2) np (spL (wo tb n 3))) (spL (wo tb n 3)) (qs tb n 3)
def pM5 (tb : Nat → Nat) (n np : Nat) (M : mw_S) : mw_S := pw tb n (pM4w tb n np M) 3
theorem pw_1 {tb : Nat → Nat} {n t j : Nat} {M : mw_S} (hj : ¬ (26 ≤ j ∧ j ≤ 29)) : (pw tb n M t).1 j = M.1 j := by
  show mw_u (mw_u (mw_u (mw_u M.1 26 _) 27 _) 28 _) 29 _ j = _
  rw [mw_u_ne _ _ (by omega), mw_u_ne _ _ (by omega), mw_u_ne _ _ (by omega), mw_u_ne _ _ (by omega)]
theorem pM5_1 {tb : Nat → Nat} {n np j : Nat} {M : mw_S} (hj : ¬ (26 ≤ j ∧ j ≤ 29) ∧ ¬ j = 31 ∧ ¬ j = 32 ∧ ¬ j = 34 ∧ ¬ j = 100 ∧ ¬ j = 101) : (pM5 tb n np M).1 j = M.1 j := by
  unfold pM5
  rw [pw_1 hj.1]
  show mw_u (mw_u (rm_with (pw tb n (pM3 tb n M) 2) np (spL (wo tb n 3))).1 100 _) 101 _ j = _
  rw [mw_u_ne _ _ hj.2.2.2.2.2, mw_u_ne _ _ hj.2.2.2.2.1, rm_with_1 hj.2.1 hj.2.2.1 hj.2.2.2.1, pw_1 hj.1]
  show mw_u (mw_u (pw tb n (mw_setW (pM1 tb n M) 102 0 (spL (wo tb n 1))) 1).1 34 _) 101 _ j = _
  rw [mw_u_ne _ _ hj.2.2.2.2.2, mw_u_ne _ _ hj.2.2.2.1, pw_1 hj.1]
  show (pM1 tb n M).1 j = _
  unfold pM1
  rw [pw_1 hj.1]
  show mw_u (mw_u (mw_u (mw_u M.1 26 _) 27 _) 28 _) 29 _ j = _
  rw [mw_u_ne _ _ (by omega), mw_u_ne _ _ (by omega), mw_u_ne _ _ (by omega), mw_u_ne _ _ (by omega)]
theorem pM5_W {tb : Nat → Nat} {n np i : Nat} {M : mw_S} : (pM5 tb n np M).2.2.2.1 100 i = M.2.2.2.1 100 i := by
  show (mw_setW (rm_with (pw tb n (pM3 tb n M) 2) np (spL (wo tb n 3))) 104 0 (spL (wo tb n 3))).2.2.2.1 100 i = _
  rw [mw_setW_ne (by omega), rm_with_2]
  show (pM3 tb n M).2.2.2.1 100 i = _
  exact pM3_W

theorem ok_readPack {G : mm_G} {L : Nat × Nat} {d : Nat} {h : mm_H} {m : Nat} {ad : Nat → Nat} {tb : Nat → Nat} {n a0 g0 nk np : Nat} {M : mw_S} (hs1 : M.1 1 = nI n) (htp : tp M tb) (hs26 : M.1 26 = 0) (hs30 : M.1 30 = 1) (hs13 : M.1 13 = nI a0) (ha0 : 2 * a0 + n ≤ 4200) (hs41 : M.1 41 = 0) (hs37 : M.1 37 = 0) (hs35 : M.1 35 = 0) (hg0 : M.1 111 = nI g0) (hg1 : g0 ≤ 20000) (hs3 : M.1 3 = nI nk) (hnk : nk ≤ 40) (hs19 : M.1 19 = nI np) (hnp : np ≤ 12) (hN : nmT m ad h M 4 100 nk) (hNp : nmT m ad h M 20 101 np) (hL : LT G m ad h) (hn7 : n ≤ 700) (hL1 : h.2.1 + 300 ≤ L.1) (hL2 : h.2.2 + 2400 ≤ L.2) (hW : mw_W m ad h M h) : mm_Ok G mX12_readPack L (d + 31) [.ref m] h (fun r h1 => ∃ u x, mw_W m ad h (mUN u x (pPack tb n M).2.1) h1 ∧ h1.2.1 ≤ h.2.1 + 300 ∧ h1.2.2 ≤ h.2.2 + 2400 ∧ r = some (.int (pPack tb n M).1) ∧ (∀ j i, ¬ (j = 4 ∧ nk ≤ i) → u j i = M.2.2.2.2 j i) ∧ (¬ (pPack tb n M).1 = 0 → (∃ nn, nn ≤ 10 ∧ (pPack tb n M).2.1.1 35 = nI nn ∧ nmT m ad h1 (mUN u x (pPack tb n M).2.1) 4 100 (nk + nn)) ∧ ∃ a, x = some a ∧ sO m ad h1 a ((wo tb n 1).map nI) ∧ ltr (wo tb n 1))) := by
  obtain ⟨R_, hRe⟩ : ∃ R_, R_ = pPack tb n M := ⟨_, rfl⟩
  rw [← hRe]
  refine mm_Ok.of [(0, .ref m)] rfl kX12_readPack.2.2.2.2.2 rfl (fun A => ?_)
  have hI0 : pI tb n a0 (rm_word M tb n (qs tb n 0)) 0 := ⟨⟨hs1, hn7, htp, rfl, rfl, rfl, rfl⟩, hs30, ha0, ⟨a0, hs13, Nat.le_refl _, by omega⟩, ⟨0, hs41, by omega⟩, n47 _, 0, hs37, by omega⟩
  have lpA_ : ∀ (Mp : mw_S) (t a50 : Nat) (hb h1 : mm_H) (Mb : mw_S), pI tb n a0 Mp t → gI tb n g0 Mp t → Mp.1 3 = nI nk → Mp.1 35 = nI 0 → (∀ i, i < nk → Mp.2.2.2.1 100 i = M.2.2.2.1 100 i) → LT G m ad hb → mw_W m ad h Mb hb → nmT m ad hb M 4 100 nk → sO m ad hb a50 ((wo tb n 1).map nI) → ltr (wo tb n 1) → pP4 tb n (pT tb n Mp t 4) = R_ → h1.2.1 ≤ h.2.1 + 24 → h1.2.2 ≤ h.2.2 + 196 → mw_W m ad hb (mUN M.2.2.2.2 (some a50) Mp) h1 → mm_Run G mX12_readPack A L (d + 31) 110 [(0, .ref m)] [] h1 (fun r h1 => ∃ u x, mw_W m ad h (mUN u x R_.2.1) h1 ∧ h1.2.1 ≤ h.2.1 + 300 ∧ h1.2.2 ≤ h.2.2 + 2400 ∧ r = some (.int R_.1) ∧ (∀ j i, ¬ (j = 4 ∧ nk ≤ i) → u j i = M.2.2.2.2 j i) ∧ (¬ R_.1 = 0 → (∃ nn, nn ≤ 10 ∧ R_.2.1.1 35 = nI nn ∧ nmT m ad h1 (mUN u x R_.2.1) 4 100 (nk + nn)) ∧ ∃ a, x = some a ∧ sO m ad h1 a ((wo tb n 1).map nI) ∧ ltr (wo tb n 1))) := by
    intro Mp t a50 hb h1 Mb hI hg e3 e35 e100 hLb hWb hNb sob lt1 hRe b1 b2 hW
    refine mm_aload_n (pc := 110) dX12_readPack_110 rfl (by first | trivial | assumption | exact mm_isr_rf _) ?_
    refine mm_ldcSw (pc := 111) (i := 15) dX12_readPack_111 rfl ?_
    refine mm_callV (pc := 114) (As := [_]) (kd := ?kd_114_1) (fs := ?fs_114_1) dX12_readPack_114 vl_X12_302 (ok_takeC (M := mUN M.2.2.2.2 (some a50) Mp) (t := t) hI.U.1 hI.2.1 hLb 15 4 (w := [123]) (by decide +kernel) (by decide +kernel) hW) ?hc_114_1 ?hk_114_1 rfl rfl (Nat.le_of_ble_eq_true rfl) ?_; (case hc_114_1 => exact hW.1); (case hk_114_1 => rfl)
    rintro _ h114 ⟨hW, e114, rfl⟩
    rw [pT_U] at hW ⊢
    refine mm_if_ne (pc := 117) (tgt := 122) dX12_readPack_117 (by decide) (fun c117 => ?_) (fun c117 => ?_)
    · have c117 : ¬ (pT tb n Mp t 4).1 = 0 := c117
      obtain ⟨-, y4, g1, g2⟩ := (pT_post hI 4).resolve_left (fun z => c117 z.1)
      have eT : (pT tb n Mp t 4) = (1, pw tb n Mp t, t + 1) := by unfold pT; rw [if_pos y4]
      rw [eT] at hW g1
      have q1 := qs_le (tb := tb) (n := n) (t + 1)
      have hW : mw_W m ad hb (mUN M.2.2.2.2 (some a50) (pw tb n Mp t)) h114 := hW
      refine mm_weakK (rk_kinds (A := A) (x := some a50) (g0 := g0) (nk := nk) hLb hnk (n + 1) (pw tb n Mp t) (t + 1) h114 0 M.2.2.2.2 g1 hg.w (by omega) e3 e35 (by omega) ((show nmT m ad hb (mUN M.2.2.2.2 (some a50) (pw tb n Mp t)) 4 100 nk from hNb.same (fun _ _ => rfl) (fun i hi => e100 i hi)).keep hW) (by rw [e114]; omega) (by rw [e114]; omega) hW _ ?_) (And.intro rfl trivial)
      rintro r h2 u2 ⟨w1, w2, w3, w4, w5, w6⟩
      rw [e114] at w2 w3
      have hR : R_ = pKs tb n (n + 1) (pw tb n Mp t) (t + 1) := by
        rw [← hRe]
        unfold pP4
        rw [eT]
        exact if_neg (show ¬ (1 : Int32) = 0 by decide)
      rw [hR]
      exact ⟨u2, some a50, hWb.trans w1, by omega, by omega, w4, w5, fun z => ⟨w6 z, a50, rfl, sob.keep w1, lt1⟩⟩
    · have c117 : (pT tb n Mp t 4).1 = 0 := c117
      refine mm_iconst (pc := 120) (v := 0) dX12_readPack_120 (by decide) ?_
      refine mm_zret (pc := 121) dX12_readPack_121 rfl (by first | rfl | decide) ?_
      rw [← hRe]
      unfold pP4
      rw [if_pos c117]
      exact ⟨M.2.2.2.2, some a50, hWb.trans hW, by rw [e114]; omega, by rw [e114]; omega, by rw [c117], fun _ _ _ => rfl, fun z => absurd c117 z⟩
  refine mm_aload_n (pc := 0) dX12_readPack_0 rfl (by first | trivial | assumption | exact mm_isr_rf _) ?_
  refine mw_gets (pc := 1) 1 hW dX12_readPack_1 fl_X12_186 rfl rfl ?_
  refine mm_sipush (pc := 4) (v := 700) dX12_readPack_4 (by decide) ?_
  refine mm_icmp_le (pc := 7) (tgt := 18) dX12_readPack_7 (by decide) (fun c7 => ?_) (fun c7 => absurd (show M.1 1 ≤ 700 by rw [hs1]; exact nI_le (b := 700) hn7 (by decide)) c7)
  refine mm_aload_n (pc := 18) dX12_readPack_18 rfl (by first | trivial | assumption | exact mm_isr_rf _) ?_
  refine mm_callV (pc := 19) (As := []) (kd := ?kd_19_2) (fs := ?fs_19_2) dX12_readPack_19 vl_X12_284 (ok_X12_word (p := 0) hs1 (by omega) (by rw [hs26]; rfl) (Nat.zero_le n) htp rfl hW) ?hc_19_2 ?hk_19_2 rfl rfl (Nat.le_of_ble_eq_true rfl) ?_; (case hc_19_2 => exact hW.1); (case hk_19_2 => rfl)
  rintro _ h19 ⟨hW, e19, rfl⟩
  have hW : mw_W m ad h (rm_word M tb n (qs tb n 0)) h19 := hW
  refine mm_aload_n (pc := 22) dX12_readPack_22 rfl (by first | trivial | assumption | exact mm_isr_rf _) ?_
  refine mm_ldcSw (pc := 23) (i := 10) dX12_readPack_23 rfl ?_
  refine mm_callV (pc := 26) (As := [_]) (kd := ?kd_26_3) (fs := ?fs_26_3) dX12_readPack_26 vl_X12_302 (ok_takeC (M := (rm_word M tb n (qs tb n 0))) (t := 0) hI0.1 hI0.2.1 hL 10 23 (w := [112, 97, 99, 107]) (by decide +kernel) (by decide +kernel) hW) ?hc_26_3 ?hk_26_3 rfl rfl (Nat.le_of_ble_eq_true rfl) ?_; (case hc_26_3 => exact hW.1); (case hk_26_3 => rfl)
  rintro _ h26 ⟨hW, e26, rfl⟩
  refine mm_if_eq (pc := 29) (tgt := 39) dX12_readPack_29 (by decide) (fun c29 => ?_) (fun c29 => ?_)
  · have n29 : ¬ cd tb n 0 = 23 := by
      intro z
      have z2 : (1 : Int32) = 0 := by
        have z3 := c29
        unfold pT at z3
        rw [if_pos z] at z3
        exact z3
      exact absurd z2 (by decide)
    have e29 : pT tb n (rm_word M tb n (qs tb n 0)) 0 23 = (0, pf tb n (rm_word M tb n (qs tb n 0)) 0, 0) := by unfold pT; rw [if_neg n29]
    rw [e29] at hW
    refine mm_aload_n (pc := 39) dX12_readPack_39 rfl (by first | trivial | assumption | exact mm_isr_rf _) ?_
    refine mm_aload_n (pc := 40) dX12_readPack_40 rfl (by first | trivial | assumption | exact mm_isr_rf _) ?_
    refine mw_gets (pc := 41) 27 hW dX12_readPack_41 fl_X12_212 rfl rfl ?_
    refine mm_callV (pc := 44) (As := [_]) (kd := ?kd_44_4) (fs := ?fs_44_4) dX12_readPack_44 vl_X12_281 (ok_X12_fails0 (M := pf tb n (rm_word M tb n (qs tb n 0)) 0) rfl hW) ?hc_44_4 ?hk_44_4 rfl rfl (Nat.le_of_ble_eq_true rfl) ?_; (case hc_44_4 => exact hW.1); (case hk_44_4 => rfl)
    rintro _ h44 ⟨hW, e44, rfl⟩
    refine mm_zret (pc := 47) dX12_readPack_47 rfl (by first | rfl | decide) ?_
    rw [hRe]
    unfold pPack pP0
    rw [if_pos (by rw [e29]), e29]
    exact ⟨M.2.2.2.2, M.2.1, hW, by rw [e44, e26, e19]; omega, by rw [e44, e26, e19]; omega, rfl, fun _ _ _ => rfl, fun z => absurd rfl z⟩
  · have y29 : cd tb n 0 = 23 := Classical.not_not.mp (fun z => c29 (by unfold pT; rw [if_neg z]))
    have e29 : (pT tb n (rm_word M tb n (qs tb n 0)) 0 23) = (1, (pM1 tb n M), 1) := by unfold pT; rw [if_pos y29]; rfl
    rw [e29] at hW
    have hW : mw_W m ad h (pM1 tb n M) h26 := hW
    have hI1 : pI tb n a0 (pM1 tb n M) 1 := hI0.w
    have hIw : pI tb n a0 (mw_setW (pM1 tb n M) 102 0 (spL (wo tb n 1))) 1 := hI1.same rfl rfl
    have hI3 : pI tb n a0 (pM3 tb n M) 2 := (hIw.w.same2 (M' := mw_setS (pw tb n (mw_setW (pM1 tb n M) 102 0 (spL (wo tb n 1))) 1) 34 ((pM1 tb n M).1 23)) (fun j _ _ _ _ h4 _ _ _ _ _ => mw_u_ne _ _ h4) rfl).sS rfl
    have hg3 : gI tb n g0 (pM3 tb n M) 2 := ⟨hg1, g0, hg0, Nat.le_refl _, by omega⟩
    have hR1 : R_ = pP1 tb n (pM1 tb n M) 1 := by
      rw [hRe]
      unfold pPack pP0
      rw [e29]
      exact if_neg (show ¬ (1 : Int32) = 0 by decide)
    refine mm_aload_n (pc := 32) dX12_readPack_32 rfl (by first | trivial | assumption | exact mm_isr_rf _) ?_
    refine mm_callV (pc := 33) (As := []) (kd := ?kd_33_5) (fs := ?fs_33_5) dX12_readPack_33 vl_X12_305 (ok_isName (M := (pM1 tb n M)) (t := 1) hI1.1 hL (by rw [e26, e19]; omega) (by rw [e26, e19]; omega) hW) ?hc_33_5 ?hk_33_5 rfl rfl (Nat.le_of_ble_eq_true rfl) ?_; (case hc_33_5 => exact hW.1); (case hk_33_5 => rfl)
    rintro _ h33 ⟨rfl, x33, b33, s33⟩
    rw [e26, e19] at b33 s33
    have hW := hW.ext x33
    refine mm_if_ne (pc := 36) (tgt := 48) dX12_readPack_36 (by decide) (fun c36 => ?_) (fun c36 => ?_)
    · have y36 := bI_n c36
      have hk1 := ((tkC_2 hI1.1.c).mp y36).1
      have lt1 : ltr (wo tb n 1) := ⟨wo_asc hk1, (wo_len8 hk1).1⟩
      have hR2 : R_ = pP2 tb n (pM3 tb n M) 2 := by
        rw [hR1]
        unfold pP1
        rw [if_pos y36]
        rfl
      refine mm_aload_n (pc := 48) dX12_readPack_48 rfl (by first | trivial | assumption | exact mm_isr_rf _) ?_
      refine mm_aload_n (pc := 49) dX12_readPack_49 rfl (by first | trivial | assumption | exact mm_isr_rf _) ?_
      refine mm_callV (pc := 50) (As := []) (kd := ?kd_50_6) (fs := ?fs_50_6) dX12_readPack_50 vl_X12_254 (ok_toldC (M := (pM1 tb n M)) (t := 1) hI1.1 hk1 (by omega) (by omega) hW) ?hc_50_6 ?hk_50_6 rfl rfl (Nat.le_of_ble_eq_true rfl) ?_; (case hc_50_6 => exact hW.1); (case hk_50_6 => rfl)
      rintro _ h50 ⟨a50, rfl, s50, x50, b50, t50, n50⟩
      have so50 : sO m ad h50 a50 ((wo tb n 1).map nI) := sO.new hW n50 (by rw [List.length_map]; have := lt1.2; omega)
      have hW50 := hW.ext x50
      have hN50 := hN.keep hW50
      have hNp50 := hNp.keep hW50
      have hL50 := hL.re hW50
      have hW := hW50.re
      have hW := hW.gW (j := 102) (i := 0) (x := spL (wo tb n 1)) rfl
      show mm_Run _ _ _ _ _ _ _ (va_rf (some a50) :: _) _ _
      refine mw_putN (pc := 53) hW dX12_readPack_53 (pl_X12_309 _) rfl rfl (fun h53 hW e53 => ?_)
      refine mm_aload_n (pc := 56) dX12_readPack_56 rfl (by first | trivial | assumption | exact mm_isr_rf _) ?_
      refine mm_callV (pc := 57) (As := []) (kd := ?kd_57_7) (fs := ?fs_57_7) dX12_readPack_57 vl_X12_284 (ok_wordC (M := mUN M.2.2.2.2 (some a50) (mw_setW (pM1 tb n M) 102 0 (spL (wo tb n 1)))) (t := 1) hIw.U.1 hW) ?hc_57_7 ?hk_57_7 rfl rfl (Nat.le_of_ble_eq_true rfl) ?_; (case hc_57_7 => exact hW.1); (case hk_57_7 => rfl)
      rintro _ h57 ⟨hW, e57, rfl⟩
      refine mm_aload_n (pc := 60) dX12_readPack_60 rfl (by first | trivial | assumption | exact mm_isr_rf _) ?_
      refine mm_aload_n (pc := 61) dX12_readPack_61 rfl (by first | trivial | assumption | exact mm_isr_rf _) ?_
      refine mw_gets (pc := 62) 23 hW dX12_readPack_62 fl_X12_72 rfl rfl ?_
      refine mw_put (pc := 65) 34 hW dX12_readPack_65 (pl_X12_313 _) rfl (fun h65 hW e65 => ?_)
      have hW : mw_W m ad h50 (mUN M.2.2.2.2 (some a50) (pM3 tb n M)) h65 := hW.gS (j := 101) (x := 0) rfl
      have hIw : pI tb n a0 (mw_setW (pM1 tb n M) 102 0 (spL (wo tb n 1))) 1 := hIw
      have e19_ : (mUN M.2.2.2.2 (some a50) (pw tb n (pM3 tb n M) 2)).1 19 = nI np := hs19
      refine mm_aload_n (pc := 68) dX12_readPack_68 rfl (by first | trivial | assumption | exact mm_isr_rf _) ?_
      refine mm_ldcSw (pc := 69) (i := 13) dX12_readPack_69 rfl ?_
      refine mm_callV (pc := 72) (As := [_]) (kd := ?kd_72_8) (fs := ?fs_72_8) dX12_readPack_72 vl_X12_263 (ok_isC (M := (mUN M.2.2.2.2 (some a50) (pM3 tb n M))) (t := 2) hI3.U.1 hL50 13 24 (w := [119, 105, 116, 104]) (by decide +kernel) (by decide +kernel) hW) ?hc_72_8 ?hk_72_8 rfl rfl (Nat.le_of_ble_eq_true rfl) ?_; (case hc_72_8 => exact hW.1); (case hk_72_8 => rfl)
      rintro _ h_ ⟨e_, rfl⟩
      have e_ := e_.symm
      subst e_
      refine mm_if_eq (pc := 75) (tgt := 110) dX12_readPack_75 (by decide) (fun c75 => ?_) (fun c75 => ?_)
      · have n75 := bI_d.mp c75
        exact mm_weakK (lpA_ (pM3 tb n M) 2 a50 h50 h65 (pM1 tb n M) hI3 hg3 hs3 hs35 (fun i _ => pM3_W) hL50 hW50 hN50 so50 lt1 (by rw [hR2]; unfold pP2; rw [if_neg n75]) (by rw [e65, e57, e53]; omega) (by rw [e65, e57, e53]; omega) hW) (And.intro rfl trivial)
      · have y75 := bI_n c75
        refine mm_aload_n (pc := 78) dX12_readPack_78 rfl (by first | trivial | assumption | exact mm_isr_rf _) ?_
        refine mm_callV (pc := 79) (As := []) (kd := ?kd_79_9) (fs := ?fs_79_9) dX12_readPack_79 vl_X12_284 (ok_wordC (M := (mUN M.2.2.2.2 (some a50) (pM3 tb n M))) (t := 2) hI3.U.1 hW) ?hc_79_9 ?hk_79_9 rfl rfl (Nat.le_of_ble_eq_true rfl) ?_; (case hc_79_9 => exact hW.1); (case hk_79_9 => rfl)
        rintro _ h79 ⟨hW, e79, rfl⟩
        have hI4 := hI3.w
        refine mm_aload_n (pc := 82) dX12_readPack_82 rfl (by first | trivial | assumption | exact mm_isr_rf _) ?_
        refine mm_callV (pc := 83) (As := []) (kd := ?kd_83_10) (fs := ?fs_83_10) dX12_readPack_83 vl_X12_305 (ok_isName (M := mUN M.2.2.2.2 (some a50) (pw tb n (pM3 tb n M) 2)) (t := 3) hI4.U.1 hL50 (by rw [e79, e65, e57, e53]; omega) (by rw [e79, e65, e57, e53]; omega) hW) ?hc_83_10 ?hk_83_10 rfl rfl (Nat.le_of_ble_eq_true rfl) ?_; (case hc_83_10 => exact hW.1); (case hk_83_10 => rfl)
        rintro _ h83 ⟨rfl, x83, b83, s83⟩
        rw [e79, e65, e57, e53] at b83 s83
        have hW := hW.ext x83
        refine mm_if_ne (pc := 86) (tgt := 98) dX12_readPack_86 (by decide) (fun c86 => ?_) (fun c86 => ?_)
        · have y86 := bI_n c86
          have hk3 := ((tkC_2 hI4.1.c).mp y86).1
          have lt3 : ltr (wo tb n 3) := ⟨wo_asc hk3, (wo_len8 hk3).1⟩
          have hR4 : pP4 tb n (pT tb n (pM5 tb n np M) 4 4) = R_ := by
            rw [hR2]
            unfold pP2
            rw [if_pos y75]
            unfold pP3
            rw [if_pos y86]
            have e19n : ((pw tb n (pM3 tb n M) 2).1 19).toNatClampNeg = np := by rw [show (pw tb n (pM3 tb n M) 2).1 19 = nI np from hs19, nI_clamp (by omega)]
            rw [e19n]
            rfl
          refine mm_aload_n (pc := 98) dX12_readPack_98 rfl (by first | trivial | assumption | exact mm_isr_rf _) ?_
          refine mm_aload_n (pc := 99) dX12_readPack_99 rfl (by first | trivial | assumption | exact mm_isr_rf _) ?_
          refine mm_callV (pc := 100) (As := []) (kd := ?kd_100_11) (fs := ?fs_100_11) dX12_readPack_100 vl_X12_254 (ok_toldC (M := mUN M.2.2.2.2 (some a50) (pw tb n (pM3 tb n M) 2)) (t := 3) hI4.U.1 hk3 (by omega) (by omega) hW) ?hc_100_11 ?hk_100_11 rfl rfl (Nat.le_of_ble_eq_true rfl) ?_; (case hc_100_11 => exact hW.1); (case hk_100_11 => rfl)
          rintro _ h100 ⟨a100, rfl, s100, x100, b100, t100, n100⟩
          have hW := hW.ext x100
          refine mm_callV (pc := 103) (As := [_]) (kd := ?kd_103_12) (fs := ?fs_103_12) dX12_readPack_103 vl_X12_318 (ok_with (M := mUN M.2.2.2.2 (some a50) (pw tb n (pM3 tb n M) 2)) (np := np) (bs := wo tb n 3) ((hNp50.same (fun _ _ => rfl) (fun _ _ => rfl)).keep hW) s100 lt3 e19_ hnp hL50 hW) ?hc_103_12 ?hk_103_12 rfl rfl (Nat.le_of_ble_eq_true rfl) ?_; (case hc_103_12 => exact hW.1); (case hk_103_12 => rfl)
          rintro _ h103 ⟨hW, e103, rfl⟩
          rw [rm_with_U] at hW
          have hW := hW.gWg (w := spL (wo tb n 3)) (p := qs tb n 3)
          have hI5 : pI tb n a0 (pM4w tb n np M) 3 := hI4.with_.wgh
          have hW : mw_W m ad h50 (mUN M.2.2.2.2 (some a50) (pM4w tb n np M)) h103 := hW
          refine mm_aload_n (pc := 106) dX12_readPack_106 rfl (by first | trivial | assumption | exact mm_isr_rf _) ?_
          refine mm_callV (pc := 107) (As := []) (kd := ?kd_107_13) (fs := ?fs_107_13) dX12_readPack_107 vl_X12_284 (ok_wordC (M := mUN M.2.2.2.2 (some a50) (pM4w tb n np M)) (t := 3) hI5.U.1 hW) ?hc_107_13 ?hk_107_13 rfl rfl (Nat.le_of_ble_eq_true rfl) ?_; (case hc_107_13 => exact hW.1); (case hk_107_13 => rfl)
          rintro _ h107 ⟨hW, e107, rfl⟩
          exact mm_weakK (lpA_ (pM5 tb n np M) 4 a50 h50 h107 (pM1 tb n M) hI5.w ⟨hg1, g0, (pM5_1 (by omega)).trans hg0, Nat.le_refl _, by omega⟩ ((pM5_1 (by omega)).trans hs3) ((pM5_1 (by omega)).trans hs35) (fun i _ => pM5_W) hL50 hW50 hN50 so50 lt1 hR4 (by rw [e107, e103]; omega) (by rw [e107, e103]; omega) hW) (And.intro rfl trivial)
        · have n86 := bI_d.mp c86
          refine mm_aload_n (pc := 89) dX12_readPack_89 rfl (by first | trivial | assumption | exact mm_isr_rf _) ?_
          refine mm_aload_n (pc := 90) dX12_readPack_90 rfl (by first | trivial | assumption | exact mm_isr_rf _) ?_
          refine mw_gets (pc := 91) 27 hW dX12_readPack_91 fl_X12_212 rfl rfl ?_
          refine mm_callV (pc := 94) (As := [_]) (kd := ?kd_94_14) (fs := ?fs_94_14) dX12_readPack_94 vl_X12_281 (ok_failC (M := mUN M.2.2.2.2 (some a50) (pw tb n (pM3 tb n M) 2)) (t := 3) hI4.U.1 hI4.2.1 hW) ?hc_94_14 ?hk_94_14 rfl rfl (Nat.le_of_ble_eq_true rfl) ?_; (case hc_94_14 => exact hW.1); (case hk_94_14 => rfl)
          rintro _ h94 ⟨hW, e94, rfl⟩
          refine mm_zret (pc := 97) dX12_readPack_97 rfl (by first | rfl | decide) ?_
          rw [hR2]
          unfold pP2
          rw [if_pos y75]
          unfold pP3
          rw [if_neg n86]
          exact ⟨M.2.2.2.2, some a50, hW50.trans hW, by rw [e94]; omega, by rw [e94]; omega, rfl, fun _ _ _ => rfl, fun z => absurd rfl z⟩
    · have n36 := bI_d.mp c36
      refine mm_aload_n (pc := 39) dX12_readPack_39 rfl (by first | trivial | assumption | exact mm_isr_rf _) ?_
      refine mm_aload_n (pc := 40) dX12_readPack_40 rfl (by first | trivial | assumption | exact mm_isr_rf _) ?_
      refine mw_gets (pc := 41) 27 hW dX12_readPack_41 fl_X12_212 rfl rfl ?_
      refine mm_callV (pc := 44) (As := [_]) (kd := ?kd_44_15) (fs := ?fs_44_15) dX12_readPack_44 vl_X12_281 (ok_failC (M := (pM1 tb n M)) (t := 1) hI1.1 hI1.2.1 hW) ?hc_44_15 ?hk_44_15 rfl rfl (Nat.le_of_ble_eq_true rfl) ?_; (case hc_44_15 => exact hW.1); (case hk_44_15 => rfl)
      rintro _ h44 ⟨hW, e44, rfl⟩
      refine mm_zret (pc := 47) dX12_readPack_47 rfl (by first | rfl | decide) ?_
      rw [hR1]
      unfold pP1
      rw [if_neg n36]
      exact ⟨M.2.2.2.2, M.2.1, hW, by rw [e44]; omega, by rw [e44]; omega, rfl, fun _ _ _ => rfl, fun z => absurd rfl z⟩

theorem ok_readPackL {G : mm_G} {L : Nat × Nat} {d : Nat} {h h0 : mm_H} {m : Nat} {ad : Nat → Nat} {n : Nat} {M : mw_S} (hs1 : M.1 1 = nI n) (hn8 : n ≤ 800) (hs30 : M.1 30 = 1) (hn7 : 700 < n) (hW : mw_W m ad h0 M h) : mm_Ok G mX12_readPack L (d + 1) [.ref m] h (fun r h1 => mw_W m ad h0 (mw_setS (mw_setS M 30 0) 24 700) h1 ∧ h1.2 = h.2 ∧ r = some (.int 0)) := by
  refine mm_Ok.of [(0, .ref m)] rfl kX12_readPack.2.2.2.2.2 rfl (fun A => ?_)
  refine mm_aload_n (pc := 0) dX12_readPack_0 rfl (by first | trivial | assumption | exact mm_isr_rf _) ?_
  refine mw_gets (pc := 1) 1 hW dX12_readPack_1 fl_X12_186 rfl rfl ?_
  refine mm_sipush (pc := 4) (v := 700) dX12_readPack_4 (by decide) ?_
  refine mm_icmp_le (pc := 7) (tgt := 18) dX12_readPack_7 (by decide) (fun c7 => absurd c7 (show ¬ M.1 1 ≤ 700 by rw [hs1]; exact nI_ge (a := 700) hn7 (by omega))) (fun c7 => ?_)
  refine mm_aload_n (pc := 10) dX12_readPack_10 rfl (by first | trivial | assumption | exact mm_isr_rf _) ?_
  refine mm_sipush (pc := 11) (v := 700) dX12_readPack_11 (by decide) ?_
  refine mm_callV (pc := 14) (As := [_]) (kd := ?kd_14_16) (fs := ?fs_14_16) dX12_readPack_14 vl_X12_281 (ok_X12_fails1 hs30 hW) ?hc_14_16 ?hk_14_16 rfl rfl (Nat.le_of_ble_eq_true rfl) ?_; (case hc_14_16 => exact hW.1); (case hk_14_16 => rfl)
  rintro _ h14 ⟨hW, e14, rfl⟩
  refine mm_zret (pc := 17) dX12_readPack_17 rfl (by first | rfl | decide) ?_
  exact ⟨hW, e14, rfl⟩

