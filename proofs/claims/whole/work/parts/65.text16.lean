/-! pack of the reference -/
def pkDone (J : mw_S) (nk nn np : Nat) : mw_S := mw_setS (mw_setS (mw_setV (mw_setV (mw_setU (mw_setS J 3 (nI (nk + nn))) 20 np J.2.1) 21 np (J.1 34)) 22 np 0) 23 (J.1 23 + (if J.1 34 = J.1 23 then 1 else 0))) 19 (nI (np + 1))
def pkR (J : mw_S) (nk nn np a0 : Nat) : Int32 × mw_S := if J.1 31 ≤ 0 then (if 40 < nk + nn then (-3, rm_ans (mw_setS J 13 (nI a0)) 3) else if np = 12 then (-3, rm_ans (mw_setS J 13 (nI a0)) 3) else (0, pkDone J nk nn np)) else (J.1 31, mw_setS (mw_setS J 13 (nI a0)) 24 (J.1 32))
theorem jbA_U {u : Nat → Nat → Option Nat} {x : Option Nat} {M : mw_S} {ab : Nat → Option Nat} {k q : Nat} {p : Int32} : ∀ (f : Nat) (c : Option Nat) (fp : fp_T), jbA (mUN u x M) ab k q p f c fp = jbA M ab k q p f c fp := by
  intro f
  induction f with
  | zero => intro c fp; rfl
  | succ f ih_ =>
    intro c fp
    cases c with
    | none => rfl
    | some j => exact ih_ (ab j) (jbS M ab k q p j fp)
theorem jd1F_U {u : Nat → Nat → Option Nat} {x : Option Nat} {M : mw_S} {ab : Nat → Option Nat} : ∀ (v i : Nat) (fp : fp_T), jd1F (mUN u x M) ab v i fp = jd1F M ab v i fp := by
  intro v
  induction v with
  | zero => intro i fp; rfl
  | succ v ih_ =>
    intro i fp
    show jd1F (mUN u x M) ab v (i + 1) (jbA (mUN u x M) ab (M.2.2.1 38 i).toNatClampNeg (M.2.2.1 39 i).toNatClampNeg (M.2.2.1 40 i) 64 (ab (M.2.2.1 38 i).toNatClampNeg) fp) = _
    rw [jbA_U, ih_]
    rfl
theorem jd2F_U {u : Nat → Nat → Option Nat} {x : Option Nat} {M : mw_S} {ab : Nat → Option Nat} : ∀ (v i : Nat) (fp : fp_T), jd2F (mUN u x M) ab v i fp = jd2F M ab v i fp := by
  intro v
  induction v with
  | zero => intro i fp; rfl
  | succ v ih_ => intro i fp; exact ih_ (i + 1) (juS M ab i fp)
theorem jdg_U {u : Nat → Nat → Option Nat} {x : Option Nat} {M : mw_S} {ab : Nat → Option Nat} {nb nu : Nat} {fp : fp_T} : jdg (mUN u x M) ab nb nu fp = jdg M ab nb nu fp := by
  unfold jdg
  rw [jd1F_U, jd2F_U]
theorem jM_self (M : mw_S) : jM M (fpOf M) (M.2.2.1 25) = M := by
  unfold jM fpOf
  rw [setF_self]
  exact mw_r25_self M

theorem ok_packL {G : mm_G} {L : Nat × Nat} {d : Nat} {h : mm_H} {m : Nat} {ad : Nat → Nat} {n a0 : Nat} {M : mw_S} (hs1 : M.1 1 = nI n) (hn8 : n ≤ 800) (hs13 : M.1 13 = nI a0) (hn7 : 700 < n) (hW : mw_W m ad h M h) : mm_Ok G mX12_pack L (d + 2) [.ref m] h (fun r h1 => mw_W m ad h (mw_setS (mw_setS (mw_setS (mw_setS (pkM0 M) 30 0) 24 700) 1 0) 13 (nI a0)) h1 ∧ h1.2 = h.2 ∧ r = some (.int 1)) := by
  refine mm_Ok.of [(0, .ref m)] rfl kX12_pack.2.2.2.2.2 rfl (fun A => ?_)
  refine mm_aload_n (pc := 0) dX12_pack_0 rfl (by first | trivial | assumption | exact mm_isr_rf _) ?_
  refine mw_gets (pc := 1) 13 hW dX12_pack_1 fl_X12_183 rfl rfl ?_
  refine mm_istore_n (pc := 4) dX12_pack_4 rfl (Nat.le_of_ble_eq_true rfl) ?_
  refine mm_aload_n (pc := 5) dX12_pack_5 rfl (by first | trivial | assumption | exact mm_isr_rf _) ?_
  refine mm_iconst (pc := 6) (v := 0) dX12_pack_6 (by decide) ?_
  refine mw_put (pc := 7) 26 hW dX12_pack_7 (pl_X12_206 _) rfl (fun h7 hW e7 => ?_)
  refine mm_aload_n (pc := 10) dX12_pack_10 rfl (by first | trivial | assumption | exact mm_isr_rf _) ?_
  refine mm_iconst (pc := 11) (v := 1) dX12_pack_11 (by decide) ?_
  refine mw_putZ (pc := 12) 30 hW dX12_pack_12 (pl_X12_277 _) rfl (by first | exact Or.inl rfl | exact Or.inr rfl | assumption) (fun h12 hW e12 => ?_)
  refine mm_aload_n (pc := 15) dX12_pack_15 rfl (by first | trivial | assumption | exact mm_isr_rf _) ?_
  refine mm_iconst (pc := 16) (v := 0) dX12_pack_16 (by decide) ?_
  refine mw_put (pc := 17) 31 hW dX12_pack_17 (pl_X12_287 _) rfl (fun h17 hW e17 => ?_)
  refine mm_aload_n (pc := 20) dX12_pack_20 rfl (by first | trivial | assumption | exact mm_isr_rf _) ?_
  refine mm_iconst (pc := 21) (v := 0) dX12_pack_21 (by decide) ?_
  refine mw_put (pc := 22) 35 hW dX12_pack_22 (pl_X12_339 _) rfl (fun h22 hW e22 => ?_)
  refine mm_aload_n (pc := 25) dX12_pack_25 rfl (by first | trivial | assumption | exact mm_isr_rf _) ?_
  refine mm_iconst (pc := 26) (v := 0) dX12_pack_26 (by decide) ?_
  refine mw_put (pc := 27) 37 hW dX12_pack_27 (pl_X12_359 _) rfl (fun h27 hW e27 => ?_)
  refine mm_aload_n (pc := 30) dX12_pack_30 rfl (by first | trivial | assumption | exact mm_isr_rf _) ?_
  refine mm_iconst (pc := 31) (v := 0) dX12_pack_31 (by decide) ?_
  refine mw_put (pc := 32) 41 hW dX12_pack_32 (pl_X12_390 _) rfl (fun h32 hW e32 => ?_)
  refine mm_aload_n (pc := 35) dX12_pack_35 rfl (by first | trivial | assumption | exact mm_isr_rf _) ?_
  refine mm_iconst (pc := 36) (v := (-1)) dX12_pack_36 (by decide) ?_
  refine mw_put (pc := 37) 24 hW dX12_pack_37 (pl_X12_76 _) rfl (fun h37 hW e37 => ?_)
  refine mm_aload_n (pc := 40) dX12_pack_40 rfl (by first | trivial | assumption | exact mm_isr_rf _) ?_
  refine mm_callV (pc := 41) (As := []) (kd := ?kd_41_1) (fs := ?fs_41_1) dX12_pack_41 vl_X12_422 (ok_readPackL (M := pkM0 M) (n := n) hs1 hn8 rfl hn7 hW) ?hc_41_1 ?hk_41_1 rfl rfl (Nat.le_of_ble_eq_true rfl) ?_; (case hc_41_1 => exact hW.1); (case hk_41_1 => rfl)
  rintro _ h41 ⟨hW, e41, rfl⟩
  refine mm_istore_n (pc := 44) dX12_pack_44 rfl (Nat.le_of_ble_eq_true rfl) ?_
  refine mm_aload_n (pc := 45) dX12_pack_45 rfl (by first | trivial | assumption | exact mm_isr_rf _) ?_
  refine mm_iconst (pc := 46) (v := 0) dX12_pack_46 (by decide) ?_
  refine mw_put (pc := 47) 1 hW dX12_pack_47 (pl_X12_186 _) rfl (fun h47 hW e47 => ?_)
  refine mm_iload_n (pc := 50) dX12_pack_50 rfl ?_
  refine mm_if_ne (pc := 51) (tgt := 61) dX12_pack_51 (by decide) (fun c51 => absurd rfl c51) (fun c51 => ?_)
  refine mm_aload_n (pc := 54) dX12_pack_54 rfl (by first | trivial | assumption | exact mm_isr_rf _) ?_
  refine mm_iload_n (pc := 55) dX12_pack_55 rfl ?_
  refine mw_put (pc := 56) 13 hW dX12_pack_56 (pl_X12_183 _) rfl (fun h56 hW e56 => ?_)
  refine mm_iconst (pc := 59) (v := 1) dX12_pack_59 (by decide) ?_
  refine mm_iret (pc := 60) dX12_pack_60 rfl ?_
  refine ⟨?_, by rw [e56, e47, e41, e37, e32, e27, e22, e17, e12, e7], rfl⟩
  rw [← hs13]
  exact hW

theorem ok_packF {G : mm_G} {L : Nat × Nat} {d : Nat} {h : mm_H} {m : Nat} {ad : Nat → Nat} {tb : Nat → Nat} {n a0 g0 nk np : Nat} {M : mw_S} (hs1 : M.1 1 = nI n) (htp : tp M tb) (hs13 : M.1 13 = nI a0) (ha0 : 2 * a0 + n ≤ 4200) (hg0 : M.1 111 = nI g0) (hg1 : g0 ≤ 20000) (hs3 : M.1 3 = nI nk) (hnk : nk ≤ 40) (hs19 : M.1 19 = nI np) (hnp : np ≤ 12) (hN : nmT m ad h M 4 100 nk) (hNp : nmT m ad h M 20 101 np) (hL : LT G m ad h) (hn7 : n ≤ 700) (hL1 : h.2.1 + 300 ≤ L.1) (hL2 : h.2.2 + 2400 ≤ L.2) (hr0 : (pPack tb n (pkM0 M)).1 = 0) (hW : mw_W m ad h M h) : mm_Ok G mX12_pack L (d + 32) [.ref m] h (fun r h1 => ∃ u x, mw_W m ad h (mUN u x (mw_setS (mw_setS (pPack tb n (pkM0 M)).2.1 1 0) 13 (nI a0))) h1 ∧ h1.2.1 ≤ h.2.1 + 300 ∧ h1.2.2 ≤ h.2.2 + 2400 ∧ r = some (.int 1) ∧ ∀ j i, ¬ (j = 4 ∧ nk ≤ i) → u j i = M.2.2.2.2 j i) := by
  refine mm_Ok.of [(0, .ref m)] rfl kX12_pack.2.2.2.2.2 rfl (fun A => ?_)
  refine mm_aload_n (pc := 0) dX12_pack_0 rfl (by first | trivial | assumption | exact mm_isr_rf _) ?_
  refine mw_gets (pc := 1) 13 hW dX12_pack_1 fl_X12_183 rfl rfl ?_
  refine mm_istore_n (pc := 4) dX12_pack_4 rfl (Nat.le_of_ble_eq_true rfl) ?_
  refine mm_aload_n (pc := 5) dX12_pack_5 rfl (by first | trivial | assumption | exact mm_isr_rf _) ?_
  refine mm_iconst (pc := 6) (v := 0) dX12_pack_6 (by decide) ?_
  refine mw_put (pc := 7) 26 hW dX12_pack_7 (pl_X12_206 _) rfl (fun h7 hW e7 => ?_)
  refine mm_aload_n (pc := 10) dX12_pack_10 rfl (by first | trivial | assumption | exact mm_isr_rf _) ?_
  refine mm_iconst (pc := 11) (v := 1) dX12_pack_11 (by decide) ?_
  refine mw_putZ (pc := 12) 30 hW dX12_pack_12 (pl_X12_277 _) rfl (by first | exact Or.inl rfl | exact Or.inr rfl | assumption) (fun h12 hW e12 => ?_)
  refine mm_aload_n (pc := 15) dX12_pack_15 rfl (by first | trivial | assumption | exact mm_isr_rf _) ?_
  refine mm_iconst (pc := 16) (v := 0) dX12_pack_16 (by decide) ?_
  refine mw_put (pc := 17) 31 hW dX12_pack_17 (pl_X12_287 _) rfl (fun h17 hW e17 => ?_)
  refine mm_aload_n (pc := 20) dX12_pack_20 rfl (by first | trivial | assumption | exact mm_isr_rf _) ?_
  refine mm_iconst (pc := 21) (v := 0) dX12_pack_21 (by decide) ?_
  refine mw_put (pc := 22) 35 hW dX12_pack_22 (pl_X12_339 _) rfl (fun h22 hW e22 => ?_)
  refine mm_aload_n (pc := 25) dX12_pack_25 rfl (by first | trivial | assumption | exact mm_isr_rf _) ?_
  refine mm_iconst (pc := 26) (v := 0) dX12_pack_26 (by decide) ?_
  refine mw_put (pc := 27) 37 hW dX12_pack_27 (pl_X12_359 _) rfl (fun h27 hW e27 => ?_)
  refine mm_aload_n (pc := 30) dX12_pack_30 rfl (by first | trivial | assumption | exact mm_isr_rf _) ?_
  refine mm_iconst (pc := 31) (v := 0) dX12_pack_31 (by decide) ?_
  refine mw_put (pc := 32) 41 hW dX12_pack_32 (pl_X12_390 _) rfl (fun h32 hW e32 => ?_)
  refine mm_aload_n (pc := 35) dX12_pack_35 rfl (by first | trivial | assumption | exact mm_isr_rf _) ?_
  refine mm_iconst (pc := 36) (v := (-1)) dX12_pack_36 (by decide) ?_
  refine mw_put (pc := 37) 24 hW dX12_pack_37 (pl_X12_76 _) rfl (fun h37 hW e37 => ?_)
  refine mm_aload_n (pc := 40) dX12_pack_40 rfl (by first | trivial | assumption | exact mm_isr_rf _) ?_
  refine mm_callV (pc := 41) (As := []) (kd := ?kd_41_2) (fs := ?fs_41_2) dX12_pack_41 vl_X12_422 (ok_readPack (d := d) (M := pkM0 M) (tb := tb) (n := n) (a0 := a0) (g0 := g0) (nk := nk) (np := np) hs1 htp rfl rfl hs13 ha0 rfl rfl rfl hg0 hg1 hs3 hnk hs19 hnp ((hN.keep hW).same (fun _ _ => rfl) (fun _ _ => rfl)) ((hNp.keep hW).same (fun _ _ => rfl) (fun _ _ => rfl)) (hL.re hW) hn7 (by rw [e37, e32, e27, e22, e17, e12, e7]; exact hL1) (by rw [e37, e32, e27, e22, e17, e12, e7]; exact hL2) hW.re) ?hc_41_2 ?hk_41_2 rfl rfl (Nat.le_of_ble_eq_true rfl) ?_; (case hc_41_2 => exact hW.1); (case hk_41_2 => rfl)
  rintro _ h41 ⟨u_, x_, hW41, b41, s41, rfl, ag_, su_⟩
  rw [e37, e32, e27, e22, e17, e12, e7] at b41 s41
  have hWb := hW
  have hW := hW.trans hW41
  refine mm_istore_n (pc := 44) dX12_pack_44 rfl (Nat.le_of_ble_eq_true rfl) ?_
  refine mm_aload_n (pc := 45) dX12_pack_45 rfl (by first | trivial | assumption | exact mm_isr_rf _) ?_
  refine mm_iconst (pc := 46) (v := 0) dX12_pack_46 (by decide) ?_
  refine mw_put (pc := 47) 1 hW dX12_pack_47 (pl_X12_186 _) rfl (fun h47 hW e47 => ?_)
  refine mm_iload_n (pc := 50) dX12_pack_50 rfl ?_
  refine mm_if_ne (pc := 51) (tgt := 61) dX12_pack_51 (by decide) (fun c51 => absurd hr0 c51) (fun c51 => ?_)
  refine mm_aload_n (pc := 54) dX12_pack_54 rfl (by first | trivial | assumption | exact mm_isr_rf _) ?_
  refine mm_iload_n (pc := 55) dX12_pack_55 rfl ?_
  refine mw_put (pc := 56) 13 hW dX12_pack_56 (pl_X12_183 _) rfl (fun h56 hW e56 => ?_)
  refine mm_iconst (pc := 59) (v := 1) dX12_pack_59 (by decide) ?_
  refine mm_iret (pc := 60) dX12_pack_60 rfl ?_
  refine ⟨u_, x_, ?_, by rw [e56, e47]; exact b41, by rw [e56, e47]; exact s41, rfl, ag_⟩
  rw [← hs13]
  exact hW

theorem ok_packS {G : mm_G} {L : Nat × Nat} {d : Nat} {h : mm_H} {m : Nat} {ad : Nat → Nat} {tb : Nat → Nat} {n a0 g0 nk np : Nat} {M : mw_S} {nn nb nu_ : Nat} {ab_ : Nat → Option Nat} {R_ : pr_T} (hs1 : M.1 1 = nI n) (htp : tp M tb) (hs13 : M.1 13 = nI a0) (ha0 : 2 * a0 + n ≤ 4200) (hg0 : M.1 111 = nI g0) (hg1 : g0 ≤ 20000) (hs3 : M.1 3 = nI nk) (hnk : nk ≤ 40) (hs19 : M.1 19 = nI np) (hnp : np ≤ 12) (hN : nmT m ad h M 4 100 nk) (hNp : nmT m ad h M 20 101 np) (hL : LT G m ad h) (hn7 : n ≤ 700) (hL1 : h.2.1 + 300 ≤ L.1) (hL2 : h.2.2 + 2400 ≤ L.2) (hRe : R_ = (pPack tb n (pkM0 M))) (hr0 : ¬ R_.1 = 0) (hT : rm_T R_.2.1 (nk + nn) ab_) (hJ : jRows R_.2.1 (nk + nn) nb nu_) (h35 : R_.2.1.1 35 = nI nn) (hnn : nn ≤ 10) (h3R : R_.2.1.1 3 = nI nk) (h19R : R_.2.1.1 19 = nI np) (hW : mw_W m ad h M h) : mm_Ok G mX12_pack L (d + 32) [.ref m] h (fun r h1 => ∃ u a g, mw_W m ad h (pkR (jM (mUN u (some a) (mw_setS R_.2.1 1 0)) (jdg (mw_setS R_.2.1 1 0) ab_ nb nu_ (fpOf R_.2.1)) g) nk nn np a0).2 h1 ∧ h1.2.1 ≤ h.2.1 + 300 ∧ h1.2.2 ≤ h.2.2 + 2400 ∧ r = some (.int (pkR (jM (mUN u (some a) (mw_setS R_.2.1 1 0)) (jdg (mw_setS R_.2.1 1 0) ab_ nb nu_ (fpOf R_.2.1)) g) nk nn np a0).1) ∧ (∀ j i, ¬ (j = 4 ∧ nk ≤ i) → u j i = M.2.2.2.2 j i) ∧ nmT m ad h1 (mUN u (some a) R_.2.1) 4 100 (nk + nn) ∧ sO m ad h1 a ((wo tb n 1).map nI) ∧ ltr (wo tb n 1)) := by
  refine mm_Ok.of [(0, .ref m)] rfl kX12_pack.2.2.2.2.2 rfl (fun A => ?_)
  refine mm_aload_n (pc := 0) dX12_pack_0 rfl (by first | trivial | assumption | exact mm_isr_rf _) ?_
  refine mw_gets (pc := 1) 13 hW dX12_pack_1 fl_X12_183 rfl rfl ?_
  refine mm_istore_n (pc := 4) dX12_pack_4 rfl (Nat.le_of_ble_eq_true rfl) ?_
  refine mm_aload_n (pc := 5) dX12_pack_5 rfl (by first | trivial | assumption | exact mm_isr_rf _) ?_
  refine mm_iconst (pc := 6) (v := 0) dX12_pack_6 (by decide) ?_
  refine mw_put (pc := 7) 26 hW dX12_pack_7 (pl_X12_206 _) rfl (fun h7 hW e7 => ?_)
  refine mm_aload_n (pc := 10) dX12_pack_10 rfl (by first | trivial | assumption | exact mm_isr_rf _) ?_
  refine mm_iconst (pc := 11) (v := 1) dX12_pack_11 (by decide) ?_
  refine mw_putZ (pc := 12) 30 hW dX12_pack_12 (pl_X12_277 _) rfl (by first | exact Or.inl rfl | exact Or.inr rfl | assumption) (fun h12 hW e12 => ?_)
  refine mm_aload_n (pc := 15) dX12_pack_15 rfl (by first | trivial | assumption | exact mm_isr_rf _) ?_
  refine mm_iconst (pc := 16) (v := 0) dX12_pack_16 (by decide) ?_
  refine mw_put (pc := 17) 31 hW dX12_pack_17 (pl_X12_287 _) rfl (fun h17 hW e17 => ?_)
  refine mm_aload_n (pc := 20) dX12_pack_20 rfl (by first | trivial | assumption | exact mm_isr_rf _) ?_
  refine mm_iconst (pc := 21) (v := 0) dX12_pack_21 (by decide) ?_
  refine mw_put (pc := 22) 35 hW dX12_pack_22 (pl_X12_339 _) rfl (fun h22 hW e22 => ?_)
  refine mm_aload_n (pc := 25) dX12_pack_25 rfl (by first | trivial | assumption | exact mm_isr_rf _) ?_
  refine mm_iconst (pc := 26) (v := 0) dX12_pack_26 (by decide) ?_
  refine mw_put (pc := 27) 37 hW dX12_pack_27 (pl_X12_359 _) rfl (fun h27 hW e27 => ?_)
  refine mm_aload_n (pc := 30) dX12_pack_30 rfl (by first | trivial | assumption | exact mm_isr_rf _) ?_
  refine mm_iconst (pc := 31) (v := 0) dX12_pack_31 (by decide) ?_
  refine mw_put (pc := 32) 41 hW dX12_pack_32 (pl_X12_390 _) rfl (fun h32 hW e32 => ?_)
  refine mm_aload_n (pc := 35) dX12_pack_35 rfl (by first | trivial | assumption | exact mm_isr_rf _) ?_
  refine mm_iconst (pc := 36) (v := (-1)) dX12_pack_36 (by decide) ?_
  refine mw_put (pc := 37) 24 hW dX12_pack_37 (pl_X12_76 _) rfl (fun h37 hW e37 => ?_)
  refine mm_aload_n (pc := 40) dX12_pack_40 rfl (by first | trivial | assumption | exact mm_isr_rf _) ?_
  refine mm_callV (pc := 41) (As := []) (kd := ?kd_41_3) (fs := ?fs_41_3) dX12_pack_41 vl_X12_422 (ok_readPack (d := d) (M := pkM0 M) (tb := tb) (n := n) (a0 := a0) (g0 := g0) (nk := nk) (np := np) hs1 htp rfl rfl hs13 ha0 rfl rfl rfl hg0 hg1 hs3 hnk hs19 hnp ((hN.keep hW).same (fun _ _ => rfl) (fun _ _ => rfl)) ((hNp.keep hW).same (fun _ _ => rfl) (fun _ _ => rfl)) (hL.re hW) hn7 (by rw [e37, e32, e27, e22, e17, e12, e7]; exact hL1) (by rw [e37, e32, e27, e22, e17, e12, e7]; exact hL2) hW.re) ?hc_41_3 ?hk_41_3 rfl rfl (Nat.le_of_ble_eq_true rfl) ?_; (case hc_41_3 => exact hW.1); (case hk_41_3 => rfl)
  rintro _ h41 ⟨u_, x_, hW41, b41, s41, rfl, ag_, su_⟩
  rw [e37, e32, e27, e22, e17, e12, e7] at b41 s41
  rw [← hRe] at hW41 su_ ⊢
  obtain ⟨⟨nn3_, nn4_, nn5_, nmk_⟩, aN_, xN_, soN_, ltN_⟩ := su_ hr0
  subst xN_
  have nne_ : nn = nn3_ := ((nI_eq (by omega) (by omega)).mp (nn5_.symm.trans h35)).symm
  subst nne_
  have hW0 := hW.trans hW41
  have hW := hW41.re
  refine mm_istore_n (pc := 44) dX12_pack_44 rfl (Nat.le_of_ble_eq_true rfl) ?_
  refine mm_aload_n (pc := 45) dX12_pack_45 rfl (by first | trivial | assumption | exact mm_isr_rf _) ?_
  refine mm_iconst (pc := 46) (v := 0) dX12_pack_46 (by decide) ?_
  refine mw_put (pc := 47) 1 hW dX12_pack_47 (pl_X12_186 _) rfl (fun h47 hW e47 => ?_)
  refine mm_iload_n (pc := 50) dX12_pack_50 rfl ?_
  refine mm_if_ne (pc := 51) (tgt := 61) dX12_pack_51 (by decide) (fun c51 => ?_) (fun c51 => absurd c51 hr0)
  refine mm_aload_n (pc := 61) dX12_pack_61 rfl (by first | trivial | assumption | exact mm_isr_rf _) ?_
  refine mm_callV (pc := 62) (As := []) (kd := ?kd_62_4) (fs := ?fs_62_4) dX12_pack_62 vl_X12_425 (ok_judge (d := d + 27) (M := (mUN u_ (some aN_) (mw_setS R_.2.1 1 0))) (n := nk + nn) (ab := ab_) (nb := nb) (nu := nu_) (fp := fpOf R_.2.1) (g := R_.2.1.2.2.1 25) hT hJ (by rw [show jM (mUN u_ (some aN_) (mw_setS R_.2.1 1 0)) (fpOf R_.2.1) (R_.2.1.2.2.1 25) = (mUN u_ (some aN_) (mw_setS R_.2.1 1 0)) from jM_self (mUN u_ (some aN_) (mw_setS R_.2.1 1 0))]; exact hW)) ?hc_62_4 ?hk_62_4 rfl rfl (Nat.le_of_ble_eq_true rfl) ?_; (case hc_62_4 => exact hW.1); (case hk_62_4 => rfl)
  rintro _ h62 ⟨g62, hW, e62, rfl⟩
  rw [jdg_U] at hW
  have hW : mw_W m ad h41 (jM (mUN u_ (some aN_) (mw_setS R_.2.1 1 0)) (jdg (mw_setS R_.2.1 1 0) ab_ nb nu_ (fpOf R_.2.1)) g62) h62 := hW
  have hs19J : (jM (mUN u_ (some aN_) (mw_setS R_.2.1 1 0)) (jdg (mw_setS R_.2.1 1 0) ab_ nb nu_ (fpOf R_.2.1)) g62).1 19 = nI np := h19R
  refine mm_aload_n (pc := 65) dX12_pack_65 rfl (by first | trivial | assumption | exact mm_isr_rf _) ?_
  refine mw_gets (pc := 66) 31 hW dX12_pack_66 fl_X12_287 rfl rfl ?_
  refine mm_if_le (pc := 69) (tgt := 90) dX12_pack_69 (by decide) (fun c69 => ?_) (fun c69 => ?_)
  · have c69 : (jM (mUN u_ (some aN_) (mw_setS R_.2.1 1 0)) (jdg (mw_setS R_.2.1 1 0) ab_ nb nu_ (fpOf R_.2.1)) g62).1 31 ≤ 0 := c69
    refine mm_aload_n (pc := 90) dX12_pack_90 rfl (by first | trivial | assumption | exact mm_isr_rf _) ?_
    refine mw_gets (pc := 91) 3 hW dX12_pack_91 fl_X12_180 rfl rfl ?_
    refine mm_aload_n (pc := 94) dX12_pack_94 rfl (by first | trivial | assumption | exact mm_isr_rf _) ?_
    refine mw_gets (pc := 95) 35 hW dX12_pack_95 fl_X12_339 rfl rfl ?_
    refine mm_iadd (pc := 98) dX12_pack_98 ?_
    refine mm_topi (nI (nk + nn)) (show (jM (mUN u_ (some aN_) (mw_setS R_.2.1 1 0)) (jdg (mw_setS R_.2.1 1 0) ab_ nb nu_ (fpOf R_.2.1)) g62).1 3 + (jM (mUN u_ (some aN_) (mw_setS R_.2.1 1 0)) (jdg (mw_setS R_.2.1 1 0) ab_ nb nu_ (fpOf R_.2.1)) g62).1 35 = _ by rw [show (jM (mUN u_ (some aN_) (mw_setS R_.2.1 1 0)) (jdg (mw_setS R_.2.1 1 0) ab_ nb nu_ (fpOf R_.2.1)) g62).1 3 = nI nk from h3R, show (jM (mUN u_ (some aN_) (mw_setS R_.2.1 1 0)) (jdg (mw_setS R_.2.1 1 0) ab_ nb nu_ (fpOf R_.2.1)) g62).1 35 = nI nn from h35, nI_add]) ?_
    refine mm_bipush (pc := 99) (v := 40) dX12_pack_99 (by decide) ?_
    refine mm_icmp_gt (pc := 101) (tgt := 113) dX12_pack_101 (by decide) (fun c101 => ?_) (fun c101 => ?_)
    · have y101 : 40 < nk + nn := (nI_ltI (a := 40) (by decide) (by omega)).mp c101
      refine mm_aload_n (pc := 113) dX12_pack_113 rfl (by first | trivial | assumption | exact mm_isr_rf _) ?_
      refine mm_iload_n (pc := 114) dX12_pack_114 rfl ?_
      refine mw_put (pc := 115) 13 hW dX12_pack_115 (pl_X12_183 _) rfl (fun h115 hW e115 => ?_)
      refine mm_aload_n (pc := 118) dX12_pack_118 rfl (by first | trivial | assumption | exact mm_isr_rf _) ?_
      refine mm_bipush (pc := 119) (v := (-3)) dX12_pack_119 (by decide) ?_
      refine mm_callV (pc := 121) (As := [_]) (kd := ?kd_121_5) (fs := ?fs_121_5) dX12_pack_121 vl_X12_189 (ok_X12_answer (x := -3) (c := 3) (by decide) (by decide) (by decide) hW) ?hc_121_5 ?hk_121_5 rfl rfl (Nat.le_of_ble_eq_true rfl) ?_; (case hc_121_5 => exact hW.1); (case hk_121_5 => rfl)
      rintro _ h121 ⟨hW, e121, rfl⟩
      refine mm_iret (pc := 124) dX12_pack_124 rfl ?_
      refine ⟨u_, aN_, g62, hW0.trans ?_, by rw [e121, e115, e62, e47]; exact b41, by rw [e121, e115, e62, e47]; exact s41, ?_, ag_, (nmk_.keep hW).same (fun _ _ => rfl) (fun _ _ => rfl), soN_.keep hW, ltN_⟩
      · unfold pkR
        rw [if_pos c69, if_pos y101]
        rw [← hs13]
        exact hW
      · unfold pkR
        rw [if_pos c69, if_pos y101]
    · have n101 : ¬ 40 < nk + nn := fun z => c101 (nI_lt (a := 40) z (by omega))
      refine mm_aload_n (pc := 104) dX12_pack_104 rfl (by first | trivial | assumption | exact mm_isr_rf _) ?_
      refine mw_gets (pc := 105) 19 hW dX12_pack_105 fl_X12_330 rfl rfl ?_
      refine mm_bipush (pc := 108) (v := 12) dX12_pack_108 (by decide) ?_
      refine mm_icmp_ne (pc := 110) (tgt := 125) dX12_pack_110 (by decide) (fun c110 => ?_) (fun c110 => ?_)
      · have n110 : ¬ np = 12 := fun z => c110 (show (jM (mUN u_ (some aN_) (mw_setS R_.2.1 1 0)) (jdg (mw_setS R_.2.1 1 0) ab_ nb nu_ (fpOf R_.2.1)) g62).1 19 = 12 by rw [hs19J, z]; decide)
        refine mm_aload_n (pc := 125) dX12_pack_125 rfl (by first | trivial | assumption | exact mm_isr_rf _) ?_
        refine mm_dup (pc := 126) dX12_pack_126 rfl ?_
        refine mw_gets (pc := 127) 3 hW dX12_pack_127 fl_X12_180 rfl rfl ?_
        refine mm_aload_n (pc := 130) dX12_pack_130 rfl (by first | trivial | assumption | exact mm_isr_rf _) ?_
        refine mw_gets (pc := 131) 35 hW dX12_pack_131 fl_X12_339 rfl rfl ?_
        refine mm_iadd (pc := 134) dX12_pack_134 ?_
        refine mm_topi (nI (nk + nn)) (show (jM (mUN u_ (some aN_) (mw_setS R_.2.1 1 0)) (jdg (mw_setS R_.2.1 1 0) ab_ nb nu_ (fpOf R_.2.1)) g62).1 3 + (jM (mUN u_ (some aN_) (mw_setS R_.2.1 1 0)) (jdg (mw_setS R_.2.1 1 0) ab_ nb nu_ (fpOf R_.2.1)) g62).1 35 = _ by rw [show (jM (mUN u_ (some aN_) (mw_setS R_.2.1 1 0)) (jdg (mw_setS R_.2.1 1 0) ab_ nb nu_ (fpOf R_.2.1)) g62).1 3 = nI nk from h3R, show (jM (mUN u_ (some aN_) (mw_setS R_.2.1 1 0)) (jdg (mw_setS R_.2.1 1 0) ab_ nb nu_ (fpOf R_.2.1)) g62).1 35 = nI nn from h35, nI_add]) ?_
        refine mw_put (pc := 135) 3 hW dX12_pack_135 (pl_X12_180 _) rfl (fun h135 hW e135 => ?_)
        refine mm_aload_n (pc := 138) dX12_pack_138 rfl (by first | trivial | assumption | exact mm_isr_rf _) ?_
        refine mw_geta (pc := 139) 20 hW dX12_pack_139 fl_X12_63 rfl rfl ?_
        refine mm_aload_n (pc := 142) dX12_pack_142 rfl (by first | trivial | assumption | exact mm_isr_rf _) ?_
        refine mw_gets (pc := 143) 19 hW dX12_pack_143 fl_X12_330 rfl rfl ?_
        refine mm_aload_n (pc := 146) dX12_pack_146 rfl (by first | trivial | assumption | exact mm_isr_rf _) ?_
        refine mw_getN (pc := 147) hW dX12_pack_147 fl_X12_309 ?_
        obtain ⟨ka_, kv_, v_, rs_, cN_, hka_, -⟩ := soN_.keep hW
        show mm_Run _ _ _ _ _ _ _ (.ref aN_ :: _) _ _
        refine mw_aast (pc := 150) 20 np hW dX12_pack_150 rfl rfl (cN_) (hka_) (hs19J) (by show _ < 12; omega) (by omega) (fun h150 hW e150 => ?_)
        refine mm_aload_n (pc := 151) dX12_pack_151 rfl (by first | trivial | assumption | exact mm_isr_rf _) ?_
        refine mw_geta (pc := 152) 21 hW dX12_pack_152 fl_X12_66 rfl rfl ?_
        refine mm_aload_n (pc := 155) dX12_pack_155 rfl (by first | trivial | assumption | exact mm_isr_rf _) ?_
        refine mw_gets (pc := 156) 19 hW dX12_pack_156 fl_X12_330 rfl rfl ?_
        refine mm_aload_n (pc := 159) dX12_pack_159 rfl (by first | trivial | assumption | exact mm_isr_rf _) ?_
        refine mw_gets (pc := 160) 34 hW dX12_pack_160 fl_X12_313 rfl rfl ?_
        refine mw_iast (pc := 163) 21 np hW dX12_pack_163 rfl rfl (hs19J) (by show _ < 12; omega) (by omega) (fun h163 hW e163 => ?_)
        refine mm_aload_n (pc := 164) dX12_pack_164 rfl (by first | trivial | assumption | exact mm_isr_rf _) ?_
        refine mw_geta (pc := 165) 22 hW dX12_pack_165 fl_X12_69 rfl rfl ?_
        refine mm_aload_n (pc := 168) dX12_pack_168 rfl (by first | trivial | assumption | exact mm_isr_rf _) ?_
        refine mw_gets (pc := 169) 19 hW dX12_pack_169 fl_X12_330 rfl rfl ?_
        refine mm_iconst (pc := 172) (v := 0) dX12_pack_172 (by decide) ?_
        refine mw_zast (pc := 173) 22 np hW dX12_pack_173 rfl rfl (hs19J) (by show _ < 12; omega) (by omega) (by first | exact Or.inl rfl | exact Or.inr rfl | assumption) (fun h173 hW e173 => ?_)
        refine mm_aload_n (pc := 174) dX12_pack_174 rfl (by first | trivial | assumption | exact mm_isr_rf _) ?_
        refine mm_dup (pc := 175) dX12_pack_175 rfl ?_
        refine mw_gets (pc := 176) 23 hW dX12_pack_176 fl_X12_72 rfl rfl ?_
        refine mm_aload_n (pc := 179) dX12_pack_179 rfl (by first | trivial | assumption | exact mm_isr_rf _) ?_
        refine mw_gets (pc := 180) 34 hW dX12_pack_180 fl_X12_313 rfl rfl ?_
        refine mm_aload_n (pc := 183) dX12_pack_183 rfl (by first | trivial | assumption | exact mm_isr_rf _) ?_
        refine mw_gets (pc := 184) 23 hW dX12_pack_184 fl_X12_72 rfl rfl ?_
        refine mm_icmp_ne (pc := 187) (tgt := 194) dX12_pack_187 (by decide) (fun c187 => ?_) (fun c187 => ?_)
        · have c187 : ¬ (jM (mUN u_ (some aN_) (mw_setS R_.2.1 1 0)) (jdg (mw_setS R_.2.1 1 0) ab_ nb nu_ (fpOf R_.2.1)) g62).1 34 = (jM (mUN u_ (some aN_) (mw_setS R_.2.1 1 0)) (jdg (mw_setS R_.2.1 1 0) ab_ nb nu_ (fpOf R_.2.1)) g62).1 23 := c187
          refine mm_iconst (pc := 194) (v := 0) dX12_pack_194 (by decide) ?_
          refine mm_iadd (pc := 195) dX12_pack_195 ?_
          refine mw_put (pc := 196) 23 hW dX12_pack_196 (pl_X12_72 _) rfl (fun h196 hW e196 => ?_)
          refine mm_aload_n (pc := 199) dX12_pack_199 rfl (by first | trivial | assumption | exact mm_isr_rf _) ?_
          refine mm_dup (pc := 200) dX12_pack_200 rfl ?_
          refine mw_gets (pc := 201) 19 hW dX12_pack_201 fl_X12_330 rfl rfl ?_
          refine mm_iconst (pc := 204) (v := 1) dX12_pack_204 (by decide) ?_
          refine mm_iadd (pc := 205) dX12_pack_205 ?_
          refine mw_put (pc := 206) 19 hW dX12_pack_206 (pl_X12_330 _) rfl (fun h206 hW e206 => ?_)
          refine mm_iconst (pc := 209) (v := 0) dX12_pack_209 (by decide) ?_
          refine mm_iret (pc := 210) dX12_pack_210 rfl ?_
          refine ⟨u_, aN_, g62, hW0.trans ?_, by rw [e206, e196, e173, e163, e150, e135, e62, e47]; exact b41, by rw [e206, e196, e173, e163, e150, e135, e62, e47]; exact s41, ?_, ag_, (nmk_.keep hW).same (fun _ _ => rfl) (fun _ _ => rfl), soN_.keep hW, ltN_⟩
          · unfold pkR pkDone
            rw [if_pos c69, if_neg n101, if_neg n110, if_neg c187, ← nI_1, ← hs19J]
            exact hW
          · unfold pkR
            rw [if_pos c69, if_neg n101, if_neg n110]
        · have c187 : (jM (mUN u_ (some aN_) (mw_setS R_.2.1 1 0)) (jdg (mw_setS R_.2.1 1 0) ab_ nb nu_ (fpOf R_.2.1)) g62).1 34 = (jM (mUN u_ (some aN_) (mw_setS R_.2.1 1 0)) (jdg (mw_setS R_.2.1 1 0) ab_ nb nu_ (fpOf R_.2.1)) g62).1 23 := c187
          refine mm_iconst (pc := 190) (v := 1) dX12_pack_190 (by decide) ?_
          refine mm_goto (pc := 191) (tgt := 195) dX12_pack_191 (by decide) ?_
          refine mm_iadd (pc := 195) dX12_pack_195 ?_
          refine mw_put (pc := 196) 23 hW dX12_pack_196 (pl_X12_72 _) rfl (fun h196 hW e196 => ?_)
          refine mm_aload_n (pc := 199) dX12_pack_199 rfl (by first | trivial | assumption | exact mm_isr_rf _) ?_
          refine mm_dup (pc := 200) dX12_pack_200 rfl ?_
          refine mw_gets (pc := 201) 19 hW dX12_pack_201 fl_X12_330 rfl rfl ?_
          refine mm_iconst (pc := 204) (v := 1) dX12_pack_204 (by decide) ?_
          refine mm_iadd (pc := 205) dX12_pack_205 ?_
          refine mw_put (pc := 206) 19 hW dX12_pack_206 (pl_X12_330 _) rfl (fun h206 hW e206 => ?_)
          refine mm_iconst (pc := 209) (v := 0) dX12_pack_209 (by decide) ?_
          refine mm_iret (pc := 210) dX12_pack_210 rfl ?_
          refine ⟨u_, aN_, g62, hW0.trans ?_, by rw [e206, e196, e173, e163, e150, e135, e62, e47]; exact b41, by rw [e206, e196, e173, e163, e150, e135, e62, e47]; exact s41, ?_, ag_, (nmk_.keep hW).same (fun _ _ => rfl) (fun _ _ => rfl), soN_.keep hW, ltN_⟩
          · unfold pkR pkDone
            rw [if_pos c69, if_neg n101, if_neg n110, if_pos c187, ← nI_1, ← hs19J]
            exact hW
          · unfold pkR
            rw [if_pos c69, if_neg n101, if_neg n110]
      · have y110 : np = 12 := (nI_eq (b := 12) (by omega) (by decide)).mp (hs19J.symm.trans c110)
        refine mm_aload_n (pc := 113) dX12_pack_113 rfl (by first | trivial | assumption | exact mm_isr_rf _) ?_
        refine mm_iload_n (pc := 114) dX12_pack_114 rfl ?_
        refine mw_put (pc := 115) 13 hW dX12_pack_115 (pl_X12_183 _) rfl (fun h115 hW e115 => ?_)
        refine mm_aload_n (pc := 118) dX12_pack_118 rfl (by first | trivial | assumption | exact mm_isr_rf _) ?_
        refine mm_bipush (pc := 119) (v := (-3)) dX12_pack_119 (by decide) ?_
        refine mm_callV (pc := 121) (As := [_]) (kd := ?kd_121_6) (fs := ?fs_121_6) dX12_pack_121 vl_X12_189 (ok_X12_answer (x := -3) (c := 3) (by decide) (by decide) (by decide) hW) ?hc_121_6 ?hk_121_6 rfl rfl (Nat.le_of_ble_eq_true rfl) ?_; (case hc_121_6 => exact hW.1); (case hk_121_6 => rfl)
        rintro _ h121 ⟨hW, e121, rfl⟩
        refine mm_iret (pc := 124) dX12_pack_124 rfl ?_
        refine ⟨u_, aN_, g62, hW0.trans ?_, by rw [e121, e115, e62, e47]; exact b41, by rw [e121, e115, e62, e47]; exact s41, ?_, ag_, (nmk_.keep hW).same (fun _ _ => rfl) (fun _ _ => rfl), soN_.keep hW, ltN_⟩
        · unfold pkR
          rw [if_pos c69, if_neg n101, if_pos y110]
          rw [← hs13]
          exact hW
        · unfold pkR
          rw [if_pos c69, if_neg n101, if_pos y110]
  · have c69 : ¬ (jM (mUN u_ (some aN_) (mw_setS R_.2.1 1 0)) (jdg (mw_setS R_.2.1 1 0) ab_ nb nu_ (fpOf R_.2.1)) g62).1 31 ≤ 0 := c69
    refine mm_aload_n (pc := 72) dX12_pack_72 rfl (by first | trivial | assumption | exact mm_isr_rf _) ?_
    refine mm_iload_n (pc := 73) dX12_pack_73 rfl ?_
    refine mw_put (pc := 74) 13 hW dX12_pack_74 (pl_X12_183 _) rfl (fun h74 hW e74 => ?_)
    refine mm_aload_n (pc := 77) dX12_pack_77 rfl (by first | trivial | assumption | exact mm_isr_rf _) ?_
    refine mm_aload_n (pc := 78) dX12_pack_78 rfl (by first | trivial | assumption | exact mm_isr_rf _) ?_
    refine mw_gets (pc := 79) 32 hW dX12_pack_79 fl_X12_290 rfl rfl ?_
    refine mw_put (pc := 82) 24 hW dX12_pack_82 (pl_X12_76 _) rfl (fun h82 hW e82 => ?_)
    refine mm_aload_n (pc := 85) dX12_pack_85 rfl (by first | trivial | assumption | exact mm_isr_rf _) ?_
    refine mw_gets (pc := 86) 31 hW dX12_pack_86 fl_X12_287 rfl rfl ?_
    refine mm_iret (pc := 89) dX12_pack_89 rfl ?_
    refine ⟨u_, aN_, g62, hW0.trans ?_, by rw [e82, e74, e62, e47]; exact b41, by rw [e82, e74, e62, e47]; exact s41, ?_, ag_, (nmk_.keep hW).same (fun _ _ => rfl) (fun _ _ => rfl), soN_.keep hW, ltN_⟩
    · unfold pkR
      rw [if_neg c69, ← hs13]
      exact hW
    · unfold pkR
      rw [if_neg c69]
      rfl

