/-! pack of the reference -/
def pkDone (J : mw_S) (nk nn np : Nat) : mw_S := mw_setS (mw_setS (mw_setV (mw_setV (mw_setU (mw_setS J 3 (nI (nk + nn))) 20 np J.2.1) 21 np (J.1 34)) 22 np 0) 23 (J.1 23 + (if J.1 34 = J.1 23 then 1 else 0))) 19 (nI (np + 1))
def pkR (J : mw_S) (nk nn np a0 : Nat) : Int32 × mw_S := if J.1 31 ≤ 0 then (if 40 < nk + nn then (-3, rm_ans (mw_setS J 13 (nI a0)) 3) else if np = 12 then (-3, rm_ans (mw_setS J 13 (nI a0)) 3) else (0, pkDone J nk nn np)) else (J.1 31, mw_setS (mw_setS J 13 (nI a0)) 24 (J.1 32))
theorem jM_self (M : mw_S) : jM M (fpOf M) (M.2.2.1 25) = M := by
  unfold jM fpOf
  rw [setF_self]
  exact mw_r25_self M

theorem ok_packL {G : mm_G} {L : Nat × Nat} {d : Nat} {h : mm_H} {m : Nat} {ad : Nat → Nat} {n a0 : Nat} {M : mw_S} (hs1 : M.1 1 = nI n) (hn8 : n ≤ 800) (hs13 : M.1 13 = nI a0) (hn7 : 700 < n) (hW : mw_W m ad h M h) : mm_Ok G mX12_pack L (d + 2) [.ref m] h (fun r h1 => mw_W m ad h (mw_setS (mw_setS (mw_setS (mw_setS (pkM0 M) 30 0) 24 700) 1 0) 13 (nI a0)) h1 ∧ h1.2 = h.2 ∧ r = some (.int 1)) := by
  refine mm_Ok.of [(0, .ref m)] rfl kX12_pack.2.2.2.2.2 rfl (fun A => ?_)
  refine mm_aload_n (pc := 0) dX12_pack_0 rfl (by first | trivial | assumption | exact mm_isr_rf _) ?_
  refine mw_gets (pc := 1) 13 hW dX12_pack_1 fl_X12_183 rfl rfl ?_
  refine mm_istore_n (pc := 4) dX12_pack_4 rfl (Nat.le_of_ble_eq_true rfl) ?_
  refine mm_aload_n (pc := 5) dX12_pack_5 rfl (by first | trivial | assumption | exact mm_isr_rf _) ?_
  refine mm_iconst (pc := 6) (v := 0) dX12_pack_6 (by decide) ?_
  refine mw_put (pc := 7) 26 hW dX12_pack_7 (pl_X12_206 _) rfl (fun h7 hW e7 => ?_)
  refine mm_aload_n (pc := 10) dX12_pack_10 rfl (by first | trivial | assumption | exact mm_isr_rf _) ?_
  refine mm_iconst (pc := 11) (v := 1) dX12_pack_11 (by decide) ?_
  refine mw_putZ (pc := 12) 30 hW dX12_pack_12 (pl_X12_277 _) rfl (by first | exact Or.inl rfl | exact Or.inr rfl | assumption) (fun h12 hW e12 => ?_)
  refine mm_aload_n (pc := 15) dX12_pack_15 rfl (by first | trivial | assumption | exact mm_isr_rf _) ?_
  refine mm_iconst (pc := 16) (v := 0) dX12_pack_16 (by decide) ?_
  refine mw_put (pc := 17) 31 hW dX12_pack_17 (pl_X12_287 _) rfl (fun h17 hW e17 => ?_)
  refine mm_aload_n (pc := 20) dX12_pack_20 rfl (by first | trivial | assumption | exact mm_isr_rf _) ?_
  refine mm_iconst (pc := 21) (v := 0) dX12_pack_21 (by decide) ?_
  refine mw_put (pc := 22) 35 hW dX12_pack_22 (pl_X12_339 _) rfl (fun h22 hW e22 => ?_)
  refine mm_aload_n (pc := 25) dX12_pack_25 rfl (by first | trivial | assumption | exact mm_isr_rf _) ?_
  refine mm_iconst (pc := 26) (v := 0) dX12_pack_26 (by decide) ?_
  refine mw_put (pc := 27) 37 hW dX12_pack_27 (pl_X12_359 _) rfl (fun h27 hW e27 => ?_)
  refine mm_aload_n (pc := 30) dX12_pack_30 rfl (by first | trivial | assumption | exact mm_isr_rf _) ?_
  refine mm_iconst (pc := 31) (v := 0) dX12_pack_31 (by decide) ?_
  refine mw_put (pc := 32) 41 hW dX12_pack_32 (pl_X12_390 _) rfl (fun h32 hW e32 => ?_)
  refine mm_aload_n (pc := 35) dX12_pack_35 rfl (by first | trivial | assumption | exact mm_isr_rf _) ?_
  refine mm_iconst (pc := 36) (v := (-1)) dX12_pack_36 (by decide) ?_
  refine mw_put (pc := 37) 24 hW dX12_pack_37 (pl_X12_76 _) rfl (fun h37 hW e37 => ?_)
  refine mm_aload_n (pc := 40) dX12_pack_40 rfl (by first | trivial | assumption | exact mm_isr_rf _) ?_
  refine mm_callV (pc := 41) (As := []) (kd := ?kd_41_1) (fs := ?fs_41_1) dX12_pack_41 vl_X12_422 (ok_readPackL (M := pkM0 M) (n := n) hs1 hn8 rfl hn7 hW) ?hc_41_1 ?hk_41_1 rfl rfl (Nat.le_of_ble_eq_true rfl) ?_; (case hc_41_1 => exact hW.1); (case hk_41_1 => rfl)
  rintro _ h41 ⟨hW, e41, rfl⟩
  refine mm_istore_n (pc := 44) dX12_pack_44 rfl (Nat.le_of_ble_eq_true rfl) ?_
  refine mm_aload_n (pc := 45) dX12_pack_45 rfl (by first | trivial | assumption | exact mm_isr_rf _) ?_
  refine mm_iconst (pc := 46) (v := 0) dX12_pack_46 (by decide) ?_
  refine mw_put (pc := 47) 1 hW dX12_pack_47 (pl_X12_186 _) rfl (fun h47 hW e47 => ?_)
  refine mm_iload_n (pc := 50) dX12_pack_50 rfl ?_
  refine mm_if_ne (pc := 51) (tgt := 61) dX12_pack_51 (by decide) (fun c51 => absurd rfl c51) (fun c51 => ?_)
  refine mm_aload_n (pc := 54) dX12_pack_54 rfl (by first | trivial | assumption | exact mm_isr_rf _) ?_
  refine mm_iload_n (pc := 55) dX12_pack_55 rfl ?_
  refine mw_put (pc := 56) 13 hW dX12_pack_56 (pl_X12_183 _) rfl (fun h56 hW e56 => ?_)
  refine mm_iconst (pc := 59) (v := 1) dX12_pack_59 (by decide) ?_
  refine mm_iret (pc := 60) dX12_pack_60 rfl ?_
  refine ⟨?_, by rw [e56, e47, e41, e37, e32, e27, e22, e17, e12, e7], rfl⟩
  rw [← hs13]
  exact hW

theorem ok_packF {G : mm_G} {L : Nat × Nat} {d : Nat} {h : mm_H} {m : Nat} {ad : Nat → Nat} {tb : Nat → Nat} {n a0 g0 nk np : Nat} {M : mw_S} (hs1 : M.1 1 = nI n) (htp : tp M tb) (hs13 : M.1 13 = nI a0) (ha0 : 2 * a0 + n ≤ 4200) (hg0 : M.1 111 = nI g0) (hg1 : g0 ≤ 20000) (hs3 : M.1 3 = nI nk) (hnk : nk ≤ 40) (hs19 : M.1 19 = nI np) (hnp : np ≤ 12) (hN : nmT m ad h M 4 100 nk) (hNp : nmT m ad h M 20 101 np) (hL : LT G m ad h) (hn7 : n ≤ 700) (hL1 : h.2.1 + 300 ≤ L.1) (hL2 : h.2.2 + 2400 ≤ L.2) (hr0 : (pPack tb n (pkM0 M)).1 = 0) (hW : mw_W m ad h M h) : mm_Ok G mX12_pack L (d + 32) [.ref m] h (fun r h1 => ∃ u x, mw_W m ad h (mUN u x (mw_setS (mw_setS (pPack tb n (pkM0 M)).2.1 1 0) 13 (nI a0))) h1 ∧ h1.2.1 ≤ h.2.1 + 300 ∧ h1.2.2 ≤ h.2.2 + 2400 ∧ r = some (.int 1) ∧ ∀ j i, ¬ (j = 4 ∧ nk ≤ i) → u j i = M.2.2.2.2 j i) := by
  refine mm_Ok.of [(0, .ref m)] rfl kX12_pack.2.2.2.2.2 rfl (fun A => ?_)
  refine mm_aload_n (pc := 0) dX12_pack_0 rfl (by first | trivial | assumption | exact mm_isr_rf _) ?_
  refine mw_gets (pc := 1) 13 hW dX12_pack_1 fl_X12_183 rfl rfl ?_
  refine mm_istore_n (pc := 4) dX12_pack_4 rfl (Nat.le_of_ble_eq_true rfl) ?_
  refine mm_aload_n (pc := 5) dX12_pack_5 rfl (by first | trivial | assumption | exact mm_isr_rf _) ?_
  refine mm_iconst (pc := 6) (v := 0) dX12_pack_6 (by decide) ?_
  refine mw_put (pc := 7) 26 hW dX12_pack_7 (pl_X12_206 _) rfl (fun h7 hW e7 => ?_)
  refine mm_aload_n (pc := 10) dX12_pack_10 rfl (by first | trivial | assumption | exact mm_isr_rf _) ?_
  refine mm_iconst (pc := 11) (v := 1) dX12_pack_11 (by decide) ?_
  refine mw_putZ (pc := 12) 30 hW dX12_pack_12 (pl_X12_277 _) rfl (by first | exact Or.inl rfl | exact Or.inr rfl | assumption) (fun h12 hW e12 => ?_)
  refine mm_aload_n (pc := 15) dX12_pack_15 rfl (by first | trivial | assumption | exact mm_isr_rf _) ?_
  refine mm_iconst (pc := 16) (v := 0) dX12_pack_16 (by decide) ?_
  refine mw_put (pc := 17) 31 hW dX12_pack_17 (pl_X12_287 _) rfl (fun h17 hW e17 => ?_)
  refine mm_aload_n (pc := 20) dX12_pack_20 rfl (by first | trivial | assumption | exact mm_isr_rf _) ?_
  refine mm_iconst (pc := 21) (v := 0) dX12_pack_21 (by decide) ?_
  refine mw_put (pc := 22) 35 hW dX12_pack_22 (pl_X12_339 _) rfl (fun h22 hW e22 => ?_)
  refine mm_aload_n (pc := 25) dX12_pack_25 rfl (by first | trivial | assumption | exact mm_isr_rf _) ?_
  refine mm_iconst (pc := 26) (v := 0) dX12_pack_26 (by decide) ?_
  refine mw_put (pc := 27) 37 hW dX12_pack_27 (pl_X12_359 _) rfl (fun h27 hW e27 => ?_)
  refine mm_aload_n (pc := 30) dX12_pack_30 rfl (by first | trivial | assumption | exact mm_isr_rf _) ?_
  refine mm_iconst (pc := 31) (v := 0) dX12_pack_31 (by decide) ?_
  refine mw_put (pc := 32) 41 hW dX12_pack_32 (pl_X12_390 _) rfl (fun h32 hW e32 => ?_)
  refine mm_aload_n (pc := 35) dX12_pack_35 rfl (by first | trivial | assumption | exact mm_isr_rf _) ?_
  refine mm_iconst (pc := 36) (v := (-1)) dX12_pack_36 (by decide) ?_
  refine mw_put (pc := 37) 24 hW dX12_pack_37 (pl_X12_76 _) rfl (fun h37 hW e37 => ?_)
  refine mm_aload_n (pc := 40) dX12_pack_40 rfl (by first | trivial | assumption | exact mm_isr_rf _) ?_
  refine mm_callV (pc := 41) (As := []) (kd := ?kd_41_2) (fs := ?fs_41_2) dX12_pack_41 vl_X12_422 (ok_readPack (d := d) (M := pkM0 M) (tb := tb) (n := n) (a0 := a0) (g0 := g0) (nk := nk) (np := np) hs1 htp rfl rfl hs13 ha0 rfl rfl rfl hg0 hg1 hs3 hnk hs19 hnp ((hN.keep hW).same (fun _ _ => rfl) (fun _ _ => rfl)) ((hNp.keep hW).same (fun _ _ => rfl) (fun _ _ => rfl)) (hL.re hW) hn7 (by rw [e37, e32, e27, e22, e17, e12, e7]; exact hL1) (by rw [e37, e32, e27, e22, e17, e12, e7]; exact hL2) hW.re) ?hc_41_2 ?hk_41_2 rfl rfl (Nat.le_of_ble_eq_true rfl) ?_; (case hc_41_2 => exact hW.1); (case hk_41_2 => rfl)
  rintro _ h41 ⟨u_, x_, hW41, b41, s41, rfl, ag_, su_⟩
  rw [e37, e32, e27, e22, e17, e12, e7] at b41 s41
  have hWb := hW
  have hW := hW.trans hW41
  refine mm_istore_n (pc := 44) dX12_pack_44 rfl (Nat.le_of_ble_eq_true rfl) ?_
  refine mm_aload_n (pc := 45) dX12_pack_45 rfl (by first | trivial | assumption | exact mm_isr_rf _) ?_
  refine mm_iconst (pc := 46) (v := 0) dX12_pack_46 (by decide) ?_
  refine mw_put (pc := 47) 1 hW dX12_pack_47 (pl_X12_186 _) rfl (fun h47 hW e47 => ?_)
  refine mm_iload_n (pc := 50) dX12_pack_50 rfl ?_
  refine mm_if_ne (pc := 51) (tgt := 61) dX12_pack_51 (by decide) (fun c51 => absurd hr0 c51) (fun c51 => ?_)
  refine mm_aload_n (pc := 54) dX12_pack_54 rfl (by first | trivial | assumption | exact mm_isr_rf _) ?_
  refine mm_iload_n (pc := 55) dX12_pack_55 rfl ?_
  refine mw_put (pc := 56) 13 hW dX12_pack_56 (pl_X12_183 _) rfl (fun h56 hW e56 => ?_)
  refine mm_iconst (pc := 59) (v := 1) dX12_pack_59 (by decide) ?_
  refine mm_iret (pc := 60) dX12_pack_60 rfl ?_
  refine ⟨u_, x_, ?_, by rw [e56, e47]; exact b41, by rw [e56, e47]; exact s41, rfl, ag_⟩
  rw [← hs13]
  exact hW

