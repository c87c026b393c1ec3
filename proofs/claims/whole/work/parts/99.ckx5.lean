theorem rgR.ad {ad ad1 : Nat → Nat → Nat} {C C1 : cw_C} {M : mw_S} {nk np : Nat} (h : rgR ad C M nk np) (ha : ∀ f i, i < cN C f → ad1 f i = ad f i) (e4 : C1 4 = C 4) (e5 : C1 5 = C 5) (e7 : C1 7 = C 7) (e18 : C1 18 = C 18) (e19 : C1 19 = C 19) : rgR ad1 C1 M nk np := by
  obtain ⟨⟨n7, n18, n19, m4, m5⟩, hkp, r0, r1, r2, r3, r4, hK, hP⟩ := h
  refine ⟨⟨by rw [cN_o e7]; exact n7, by rw [cN_o e18]; exact n18, by rw [cN_o e19]; exact n19, by rw [cN_o e4]; exact m4, by rw [cN_o e5]; exact m5⟩, hkp, by rw [cR_o e7, ha 18 0 n18]; exact r0, by rw [cI_o e7]; exact r1, by rw [cR_o e7, ha 19 0 n19]; exact r2, by rw [cI_o e7]; exact r3, by rw [cI_o e7]; exact r4, fun i hi => ?_, fun p hp => ?_⟩
  · rw [cR_o e18, cL_o e4, ha 4 i (by omega)]; exact hK i hi
  · unfold pkK
    rw [cR_o e19, cL_o e5, cI_o e5, cI_o e5, ha 5 p (by omega)]; exact hP p hp
/-- the checkers of earlier packs are forgotten -/
def cut2 (C : cw_C) : cw_C := mw_u C 2 ((C 2).1, (C 2).2.1, (C 2).2.2.1, 0)
theorem cut2_o {C : cw_C} {f : Nat} (h : ¬ f = 2) : cut2 C f = C f := cu_ne h
theorem cut2_2 {C : cw_C} : cN (cut2 C) 2 = 0 := by unfold cut2 cN; rw [cu_eq]
theorem cut2_cw {ad : Nat → Nat → Nat} {h0 h : mm_H} {C : cw_C} (hC : cw ad h0 C h) : cw ad h (cut2 C) h := hC.less (fun g => by
  by_cases e : g = 2
  · rw [e, cut2_2]; exact Nat.zero_le _
  · rw [cN_o (cut2_o e)]; exact Nat.le_refl _) (fun g k hk => by
  by_cases e : g = 2
  · rw [e, cut2_2] at hk; omega
  · unfold cw_v; rw [cut2_o e])
/-- all but the house's own two fields -/
def oN (C : cw_C) : Nat → Nat := mw_u (cN C) 11 0
theorem oK.to {N N' : Nat → Nat} {ad ad1 ad2 : Nat → Nat → Nat} {C C1 C2 : cw_C} (h : oK N ad C ad1 C1) (hN : ∀ f, N' f ≤ N f) (ho : ∀ f, ¬ N' f = 0 → C2 f = C1 f) (ha : ∀ f i, i < N' f → ad2 f i = ad1 f i) : oK N' ad C ad2 C2 := fun f => by
  have hf := hN f
  by_cases z : N' f = 0
  · exact ⟨by omega, fun i hi => by omega⟩
  · rw [show cN C2 f = cN C1 f from cN_o (ho f z), ho f z]
    refine ⟨Nat.le_trans hf (h f).1, fun i hi => ?_⟩
    obtain ⟨a1, a2⟩ := (h f).2 i (Nat.lt_of_lt_of_le hi hf)
    exact ⟨(ha f i hi).trans a1, a2⟩
def ow2 (C : cw_C) : cw_C := cw_sI (cw_sI C 11 0 1 0) 11 0 2 (-1)
theorem ow2_o {C : cw_C} {f : Nat} (h : ¬ f = 11) : ow2 C f = C f := (cw_sI_o h).trans (cw_sI_o h)
theorem ow2_N {C : cw_C} {f : Nat} : cN (ow2 C) f = cN C f := cw_sI_N.trans cw_sI_N
/-- how pack ends when the text was read -/
def pkG (ad : Nat → Nat → Nat) (C : cw_C) (a b : Nat) (R : mw_S) (ab : Nat → Option Nat) (nk nn np : Nat) (r : Option Value) (h1 : mm_H) : Prop := ∃ ad3 C3 hb hx, oK (oN C) ad C ad3 C3 ∧ (ad3 11 0 = ad 11 0 ∧ 0 < cN C3 11 ∧ cI C3 11 0 1 = 0 ∧ cI C3 11 0 2 = -1 ∧ (∀ j, ¬ j = 1 → ¬ j = 2 → cI C3 11 0 j = cI C 11 0 j) ∧ ∀ j, cR C3 11 0 j = cR C 11 0 j) ∧ pkE (cN C) ad3 ad3 hb C3 hx R ab nk nn np (hoI R np) r h1 ∧ hx.2.1 ≤ a ∧ hx.2.2 ≤ b ∧ cL C3 5 np 0 = R.2.2.2.1 102 0 ∧ cI C3 5 np 5 = 0

theorem pvD_of {ad : Nat → Nat → Nat} {C : cw_C} {R : mw_S} {ab : Nat → Option Nat} {nk nn np x : Nat} (hE : ckE ad C R ab nk) (hR : rgR ad C R nk np) (hW : pkW ad C R np nn nk) (hS : ∀ i, nk ≤ i → i < nk + nn → kdF ad C R i (zE R i)) (h4 : cN C 4 = nk + nn) (h21 : cN C 21 = nk + nn) (h2 : cN C 2 = 0) : pvD (cw_ad ad C 2 x) (ckN ad C np x) R ab nk nn np ∧ cI (ckN ad C np x) 2 0 0 = 0 ∧ cI (ckN ad C np x) 2 0 1 = -1 := by
  have o : ∀ f, ¬ f = 2 → ckN ad C np x f = C f := fun f hf => ckN_o hf
  have ha : ∀ f i, i < cN C f → cw_ad ad C 2 x f i = ad f i := fun f i hi => cw_ad_o hi
  have k0 := o 0 (by decide)
  have k1 := o 1 (by decide)
  have k4 := o 4 (by decide)
  have k5 := o 5 (by decide)
  have k20 := o 20 (by decide)
  have k21 := o 21 (by decide)
  refine ⟨⟨hE.ad ha hE.1.2.2.1 k0 k1 k4 k21 rfl rfl rfl rfl, hR.ad ha k4 k5 (o 7 (by decide)) (o 18 (by decide)) (o 19 (by decide)), ⟨by rw [cN_o k5]; exact hW.1.1, by rw [cN_o k20]; exact hW.1.2.1, by rw [cR_o k5, ha 20 np hW.1.2.1]; exact hW.1.2.2.1, by rw [cI_o k5]; exact hW.1.2.2.2⟩, fun i hi => ?_, fun i hi => ?_, ⟨?_, cR_row_e, cR_row_e⟩, fun i h1 h2 => ?_⟩, cI_row_e, cI_row_e⟩
  · rw [cR_o k20, ha 4 (nk + i) (by omega)]; exact hW.2.2.2.2.2 i hi
  · rw [cN_o k4, cN_o k21, cL_o k4]
    refine ⟨by omega, by omega, ?_⟩
    by_cases z : i < nk
    · exact (hR.2.2.2.2.2.2.2.1 i z).2
    · exact (hS i (by omega) hi).1.1
  · unfold ckN; rw [cw_row_N, show cN (cw_new C 2) 2 = cN C 2 + 1 from cN_ext]; omega
  · exact (hS i h1 h2).mono (fun j => cI_o k4) (fun j => cL_o k4) (fun j => cR_o k4) (fun j => cR_o k21) (by rw [cN_o k1]; exact Nat.le_refl _) (fun i hi => ha 1 i hi) (ha 21 i (by omega)) (fun g _ _ => cR_o k1) (fun _ _ => rfl) (fun _ _ => rfl) (fun _ _ => ⟨rfl, rfl⟩)

theorem pk_S {G : mm_G} {L : Nat × Nat} {d : Nat} {h : mm_H} {h0 : mm_H} {ad : Nat → Nat → Nat} {C : cw_C} {M : mw_S} {ab : Nat → Option Nat} {nk np n a0 g0 nn : Nat} (hk : rlK ad C M ab nk np) (ho : rlO ad C M) (hn : M.1 1 = nI n) {tb : Nat → Nat} {a_ b_ : Nat} (hab_ : a_ = h.2.1 + 2 * n + 8 ∧ b_ = h.2.2 + 14 * n + 52) (htb : ∀ i, tb i < 256) (hTp : tpC C tb) (hlt : lt_ G h0) (hn7 : n ≤ 700) (hI : pI tb n a0 (rm_word (pkM0 M) tb n (qs tb n 0)) 0) (hg : gI tb n g0 (rm_word (pkM0 M) tb n (qs tb n 0)) 0) (hs3 : M.1 3 = nI nk) (hs19 : M.1 19 = nI np) (h13 : M.1 13 = nI a0) (h111 : M.1 111 = nI g0) (hTr : rm_T (pkM0 M) nk ab) (hh21 : ∀ p, p < np → 0 ≤ M.2.2.1 21 p) (hh23 : 0 ≤ M.1 23) (hb10 : ∀ i, (pPack tb n (pkM0 M)).2.1.2.2.1 10 i = 0 ∨ (pPack tb n (pkM0 M)).2.1.2.2.1 10 i = 1) (hr : ¬ (pPack tb n (pkM0 M)).1 = 0) (hnnR : (pPack tb n (pkM0 M)).2.1.1 35 = nI nn) (hnn : nn ≤ 10) (hL1 : h.2.1 + 2 * n + 8 ≤ L.1) (hL2 : h.2.2 + 14 * n + 52 ≤ L.2) (hC : cw ad h0 C h) : mm_Ok G mX11_pack L (d + 20) [.ref (ad 11 0)] h (fun r h1 => pkG ad C a_ b_ (pPack tb n (pkM0 M)).2.1 (abN (pPack tb n (pkM0 M)).2.1 nk ab) nk nn np r h1) := by
  refine mm_Ok.of [(0, .ref (ad 11 0))] rfl kX11_pack.2.2.2.2.2 rfl (fun A => ?_)
  have n11 := ho.1.1
  have n12 := ho.1.2.1
  have h6 := hk.2.2.2.2.2.2.2.1
  refine mm_new (pc := 0) dX11_pack_0 nl_X11_99 ((by omega)) ((by show h.2.2 + 2 ≤ L.2; omega)) ?_
  have hC := hC.new 6 (by decide) rfl rfl
  have en : cw_ad ad C 6 h.2.1 6 0 = h.2.1 := by rw [← h6]; exact cw_ad_n
  have e11 : cw_ad ad C 6 h.2.1 11 0 = ad 11 0 := cw_ad_o n11
  have e12 : cw_ad ad C 6 h.2.1 12 0 = ad 12 0 := cw_ad_o n12
  rw [← en, ← e11]
  have m6 : 0 < cN (cw_new C 6) 6 := by rw [show cN (cw_new C 6) 6 = cN C 6 + 1 from cN_ext]; omega
  refine mm_dup (pc := 3) dX11_pack_3 rfl ?_
  refine mm_callIN (pc := 4) (As := []) dX11_pack_4 inl_X11_101 (x6_init (d := d + 17) m6 (show h.2.1 + 1 + 1 ≤ L.1 by omega) (show h.2.2 + 2 + 5 ≤ L.2 by omega) hC) rfl rfl (Nat.le_of_ble_eq_true rfl) ?_
  rintro _ h4 ⟨x4, hC, s4, rfl⟩
  have hC : cw (cw_ad ad C 6 h.2.1) h0 (rdC C x4) h4 := hC
  have s4 : h4.2 = (h.2.1 + 2, h.2.2 + 7) := by rw [s4]; rfl
  have ok4 : oK (cN C) ad C (cw_ad ad C 6 h.2.1) (rdC C x4) := rdC_oK h6
  have c6 := rdC_6 (x := x4) h6
  have r11 : cR (rdC C x4) 11 0 0 = some (cw_ad ad C 6 h.2.1 12 0) := by rw [cR_o (rdC_o (by decide)), e12]; exact ho.2.1
  have i11 : cI (rdC C x4) 11 0 1 = nI n := by rw [cI_o (rdC_o (by decide)), ho.2.2.1]; exact hn
  have k11 : 0 < cN (rdC C x4) 11 := by rw [cN_o (rdC_o (by decide))]; exact n11
  have hE4 : ckE (cw_ad ad C 6 h.2.1) (rdC C x4) (pkM0 M) ab nk := hk.2.1.ad (fun f i hi => cw_ad_o hi) hk.2.1.1.2.2.1 (rdC_o (by decide)) (rdC_o (by decide)) (rdC_o (by decide)) (rdC_o (by decide)) rfl rfl rfl rfl
  refine mm_astore_n (pc := 7) dX11_pack_7 (by first | trivial | assumption | exact mm_isr_rf _) rfl (Nat.le_of_ble_eq_true rfl) ?_
  refine mm_aload_n (pc := 8) dX11_pack_8 rfl (by first | trivial | assumption | exact mm_isr_rf _) ?_
  refine mm_aload_n (pc := 9) dX11_pack_9 rfl (by first | trivial | assumption | exact mm_isr_rf _) ?_
  refine cw_grS (pc := 10) 11 0 0 hC (rfl) rfl (k11) dX11_pack_10 fl_X11_9 rfl rfl rfl (r11) ?_
  refine mm_aload_n (pc := 13) dX11_pack_13 rfl (by first | trivial | assumption | exact mm_isr_rf _) ?_
  refine cw_gi (pc := 14) 11 0 1 hC (rfl) rfl (k11) dX11_pack_14 fl_X11_13 rfl rfl rfl ?_
  refine mm_topi _ i11 ?_
  refine mm_callV (pc := 17) (As := [_, _]) (kd := ?kd_17_1) (fs := ?fs_17_1) dX11_pack_17 vl_X11_102 (rp_ok (d := d) (M := pkM0 M) (N := cN C) htb ⟨htb, by rw [cN_o (rdC_o (by decide))]; exact n12, fun i hi => by rw [cI_o (rdC_o (by decide))]; exact hTp.2.2 i hi⟩ hlt hn7 (by rw [cN_o (rdC_o (by decide))]; exact hk.2.2.2.2.2.2.2.2) c6 (show cI (rdC C x4) 6 0 0 = -1 by unfold rdC; rw [cI_sR, cI_sI_e]) (by rw [cN_o (rdC_o (by decide))]; exact hk.2.2.2.2.1) (by rw [cN_o (rdC_o (by decide))]; exact hk.2.2.2.2.2.1) (by rw [cN_o (rdC_o (by decide))]; exact hk.2.2.1) (by rw [cN_o (rdC_o (by decide))]; exact hk.2.2.2.1) (hE4.2.2.2.2.2) (hE4.2.2.2.1.1) (hE4.2.2.1) hI hg hs3 rfl hs19 hk.1.2.1.1 hk.1.2.1.2 (fun f => (ok4 f).1) (by rw [hk.2.2.1]; exact Nat.le_refl _) (by rw [hk.2.2.2.1]; exact Nat.le_refl _) h6 hk.2.2.2.2.2.2.2.2 (by rw [s4]; show h.2.1 + 2 + 2 * n + 5 ≤ L.1; omega) (by rw [s4]; show h.2.2 + 7 + 14 * n + 41 ≤ L.2; omega) hC) ?hc_17_1 ?hk_17_1 rfl rfl (Nat.le_of_ble_eq_true rfl) ?_; (case hc_17_1 => exact cw_cell (f := 6) (i := 0) hC rfl rfl (show 0 < cN (rdC C x4) 6 by rw [c6]; decide)); (case hk_17_1 => rfl)
  rintro _ h17 ⟨ad1, C1, rfl, hC, ok1, e6, n6, rx, ⟨zne, nn_, z35, nnle, sk, pw_⟩ | ⟨zeq, -⟩⟩
  · have okA := ok4.trans ok1
    obtain ⟨R, hRe⟩ : ∃ R, R = (pPack tb n (pkM0 M)).2.1 := ⟨_, rfl⟩
    rw [← hRe] at sk pw_ z35
    obtain ⟨nn', nnz1, nnz2, nn10, hRI, hIe, hge⟩ := (pPack_ri (M := pkM0 M) hs3 hk.1.2.1.1 hs19 hk.1.2.1.2 hI hg rfl rfl h13 h111 rfl rfl hr).2
    rw [← hRe] at nn10 hRI hIe hge
    obtain rfl : nn' = nn_ := (nI_eq (by omega) (by omega)).mp (nn10.symm.trans z35)
    obtain rfl : nn' = nn := (nI_eq (by omega) (by omega)).mp (nn10.symm.trans (by rw [hRe]; exact hnnR))
    have hK := kk.pack (np := np) (M := pkM0 M) (tb := tb) (n := n) hs3 hk.1.2.1.1 hs19 hk.1.2.1.2 hI hg rfl
    obtain ⟨nh, p0, nh1, nh2, hZ, hj01, hoP, hoN⟩ := pk_home (M := pkM0 M) (tb := tb) (n := n) hs3 hk.1.2.1.1 hs19 hk.1.2.1.2 hI hg rfl hh21 hh23 hK hr
    rw [← hRe] at hK nh1 hZ hj01 hoP hoN
    have hgR := hge.c hIe.n7
    have eg0 : kg M = g0 := by unfold kg; rw [show M.1 111 = nI g0 from h111, nI_clamp (by have := hg.1; omega)]
    have hE1 : ckE ad1 C1 R (abN R nk ab) nk := ckE.read (N := cN C) (ab' := abN R nk ab) (a0 := a0) (g0 := g0) (hk.2.1.ad (C1 := C) (M' := pkM0 M) (fun _ _ _ => rfl) hk.2.1.1.2.2.1 rfl rfl rfl rfl rfl rfl rfl rfl) hk.2.2.1 hk.2.2.2.1 okA rfl rfl rfl hK eg0 (fun i hi => if_pos hi) sk.2.2.2.1 sk.2.2.1 hgR.2.2.2 sk.2.1
    have hR1 : rgR ad1 C1 R nk np := rgR.read (N := cN C) (a0 := a0) (g0 := g0) (M := pkM0 M) hk.1 okA rfl rfl rfl rfl rfl hK
    have hT := hRI.T (M0 := pkM0 M) (ab := ab) hTr hK (by have := hk.1.2.1.1; omega)
    have m11 : 0 < cN C1 11 := Nat.lt_of_lt_of_le n11 (okA 11).1
    have m13 : 0 < cN C1 13 := Nat.lt_of_lt_of_le ho.1.2.2 (okA 13).1
    have n6 := sk.1.1
    have f0 : cI C1 6 0 0 = -1 := sk.1.2.1
    rw [← hRe]
    rw [← e6, ← show ad1 11 0 = cw_ad ad C 6 h.2.1 11 0 from ok1.A n11]
    refine mm_astore_n (pc := 20) dX11_pack_20 (by first | trivial | assumption | exact mm_isr_rf _) rfl (Nat.le_of_ble_eq_true rfl) ?_
    refine mm_aload_n (pc := 21) dX11_pack_21 rfl (by first | trivial | assumption | exact mm_isr_rf _) ?_
    refine mm_iconst (pc := 22) (v := 0) dX11_pack_22 (by decide) ?_
    refine cw_pi (pc := 23) 11 0 1 hC (rfl) rfl (m11) dX11_pack_23 (pl_X11_13 _) rfl rfl (rfl) (rfl) (fun h23 hC e23 => ?_)
    refine mm_aload_n (pc := 26) dX11_pack_26 rfl (by first | trivial | assumption | exact mm_isr_rf _) ?_
    refine mm_aload_n (pc := 27) dX11_pack_27 rfl (by first | trivial | assumption | exact mm_isr_rf _) ?_
    refine cw_gi (pc := 28) 6 0 0 hC (rfl) rfl ((by rw [cw_sI_N]; exact n6)) dX11_pack_28 fl_X11_106 rfl rfl rfl ?_
    refine mm_topi _ (show cI (cw_sI C1 11 0 1 0) 6 0 0 = -1 by rw [cI_sI_n (by omega)]; exact f0) ?_
    refine cw_pi (pc := 31) 11 0 2 hC (rfl) rfl ((by rw [cw_sI_N]; exact m11)) dX11_pack_31 (pl_X11_17 _) rfl rfl (rfl) (rfl) (fun h31 hC e31 => ?_)
    refine mm_aload_n (pc := 34) dX11_pack_34 rfl (by first | trivial | assumption | exact mm_isr_rf _) ?_
    refine cw_gi (pc := 35) 11 0 2 hC (rfl) rfl ((by rw [cw_sI_N, cw_sI_N]; exact m11)) dX11_pack_35 fl_X11_17 rfl rfl rfl ?_
    refine mm_topi _ cI_sI_e ?_
    refine mm_if_lt (pc := 38) (tgt := 43) dX11_pack_38 (by decide) (fun c38 => ?_) (fun c38 => absurd (by decide) c38)
    have hC : cw ad1 h0 (ow2 C1) h31 := hC
    have s31 : h31.2 = h17.2 := by rw [e31, e23]
    have hlt2 : lt_ G h31 := lt_.of hlt hC
    have hC := cut2_cw hC
    have o2 : ∀ f, ¬ f = 2 → ¬ f = 11 → cut2 (ow2 C1) f = C1 f := fun f a b => (cut2_o a).trans (ow2_o b)
    have q11 : cut2 (ow2 C1) 11 = ow2 C1 11 := cut2_o (by decide)
    have rxx := rx
    unfold rmX pkB at rxx
    rw [s4] at rxx
    have u1 : h31.2.1 ≤ h.2.1 + 2 + 2 * n + 3 + 2 := by rw [s31]; exact rxx.1
    have u2 : h31.2.2 ≤ h.2.2 + 7 + 14 * n + 23 + 18 := by rw [s31]; exact rxx.2
    have c3 : cR (cut2 (ow2 C1)) 11 0 3 = some (ad1 7 0) := by rw [cR_o q11]; unfold ow2; rw [cR_sI, cR_sI, okA.R n11, ho.2.2.2.2.1, okA.A hk.1.1.1]
    have c9 : cR (cut2 (ow2 C1)) 11 0 9 = some (ad1 13 0) := by rw [cR_o q11]; unfold ow2; rw [cR_sI, cR_sI, okA.R n11, ho.2.2.2.2.2.1, okA.A ho.1.2.2]
    have hE2 : ckE ad1 (cut2 (ow2 C1)) R (abN R nk ab) nk := hE1.same (o2 0 (by decide) (by decide)) (o2 1 (by decide) (by decide)) (o2 4 (by decide) (by decide)) (o2 21 (by decide) (by decide))
    have hR2 : rgR ad1 (cut2 (ow2 C1)) R nk np := hR1.ad (fun _ _ _ => rfl) (o2 4 (by decide) (by decide)) (o2 5 (by decide) (by decide)) (o2 7 (by decide) (by decide)) (o2 18 (by decide) (by decide)) (o2 19 (by decide) (by decide))
    have y5 := o2 5 (by decide) (by decide)
    have y20 := o2 20 (by decide) (by decide)
    have hW2 : pkW ad1 (cut2 (ow2 C1)) R np nn' nk := by
      obtain ⟨⟨w1, w2, w3, w4⟩, w5, w6, w7, w8, w9⟩ := pw_
      exact ⟨⟨by rw [cN_o y5]; exact w1, by rw [cN_o y20]; exact w2, by rw [cR_o y5]; exact w3, by rw [cI_o y5]; exact w4⟩, by rw [cL_o y5]; exact w5, by rw [cI_o y5]; exact w6, by rw [cL_o y5, cI_o y5]; exact w7, by rw [cI_o y5]; exact w8, fun i hi => by rw [cR_o y20]; exact w9 i hi⟩
    have y4 := o2 4 (by decide) (by decide)
    have y21 := o2 21 (by decide) (by decide)
    have y1 := o2 1 (by decide) (by decide)
    have hS2 : ∀ i, nk ≤ i → i < nk + nn' → kdF ad1 (cut2 (ow2 C1)) R i (zE R i) := fun i h1 h2 => (sk.2.2.2.2.2 i h1 h2).mono (fun j => cI_o y4) (fun j => cL_o y4) (fun j => cR_o y4) (fun j => cR_o y21) (by rw [cN_o y1]; exact Nat.le_refl _) (fun _ _ => rfl) rfl (fun g _ _ => cR_o y1) (fun _ _ => rfl) (fun _ _ => rfl) (fun _ _ => ⟨rfl, rfl⟩)
    have n4_ : cN (cut2 (ow2 C1)) 4 = nk + nn' := by rw [cN_o y4]; exact sk.2.2.2.2.1.1
    have n21_ : cN (cut2 (ow2 C1)) 21 = nk + nn' := by rw [cN_o y21]; exact sk.2.2.2.2.1.2
    refine mm_weakK (pk_43 (d := d + 18) (np := np) (C := cut2 (ow2 C1)) cut2_2 (by rw [cN_o q11, ow2_N]; exact m11) hW2.1.1 (by rw [cN_o (o2 7 (by decide) (by decide))]; exact hR1.1.1) c3 (by omega) (by omega) hC (fun _ h55 hC s55 => ?_)) (And.intro rfl (And.intro rfl trivial))
    have hpv := pvD_of (x := h31.2.1) hE2 hR2 hW2 hS2 n4_ n21_ cut2_2
    have ok3 : oK (oN C) ad C (cw_ad ad1 (cut2 (ow2 C1)) 2 h31.2.1) (ckN ad1 (cut2 (ow2 C1)) np h31.2.1) := okA.to (fun f => by
        unfold oN
        by_cases z : f = 11
        · rw [z, cu_eq]; exact Nat.zero_le _
        · rw [cu_ne z]; exact Nat.le_refl _) (fun f hf => by
        have z2 : ¬ f = 2 := fun z => hf (by rw [z]; exact (cu_ne (by decide)).trans hk.2.2.2.2.2.2.1)
        have z11 : ¬ f = 11 := fun z => hf (by rw [z]; exact cu_eq)
        rw [ckN_o z2]; exact o2 f z2 z11) (fun f i hi => cw_ad_o (by
        have hl : i < cN C f := by
          unfold oN at hi
          by_cases z : f = 11
          · rw [z, cu_eq] at hi; omega
          · rw [cu_ne z] at hi; exact hi
        have z2 : ¬ f = 2 := fun z => by rw [z, hk.2.2.2.2.2.2.1] at hl; omega
        have hl2 := Nat.lt_of_lt_of_le hl (okA f).1
        by_cases z11 : f = 11
        · rw [z11, cN_o q11, ow2_N]; rw [z11] at hl2; exact hl2
        · rw [cN_o (o2 f z2 z11)]; exact hl2))
    have hNN : ∀ f, cN C f ≤ cN (ckN ad1 (cut2 (ow2 C1)) np h31.2.1) f := fun f => by
      by_cases z2 : f = 2
      · rw [z2, hk.2.2.2.2.2.2.1]; exact Nat.zero_le _
      · rw [cN_o (ckN_o z2)]
        by_cases z11 : f = 11
        · rw [z11, cN_o q11, ow2_N]; exact (okA 11).1
        · rw [cN_o (o2 f z2 z11)]; exact (okA f).1
    have hcV : 0 ≤ hoI R np → pvR R (abN R nk ab) nk nn' np (hoI R np) := fun z => hRI.pvR hT.1 (fun i hi => if_neg (by omega)) (hoP z).1 (by rw [hK.1 19 (by unfold kkS kbS kpS; omega)]; exact hs19) (by rw [hRe]; exact hb10) (by omega)
    have hN1 : ∀ g, g < cN C 1 → yK R g < nk := fun g hg_ => by
      have b := (hk.2.1.2.2.1 g hg_).2.1
      rw [hk.2.2.1] at b
      unfold yK at b ⊢
      rw [hK.2.2.2.2 98 g (by unfold kkV; rw [hk.2.1.2.2.2.1.1, eg0] at hg_; omega)]
      exact b
    have z4 : cN C 4 ≤ nk := by rw [hk.2.2.1]; exact Nat.le_refl _
    have z5 : cN C 5 ≤ np := by rw [hk.2.2.2.2.1]; exact Nat.le_refl _
    have hw5 : ∀ j, cI (ckN ad1 (cut2 (ow2 C1)) np h31.2.1) 5 np j = cI (cut2 (ow2 C1)) 5 np j := fun j => cI_o (ckN_o (by decide))
    have hck : mm_Ok G mX2_checkPack L (d + 8 + 11) [.ref (cw_ad ad1 (cut2 (ow2 C1)) 2 h31.2.1 2 0)] h55 (fun r h1 => qF (cN C) (cw_ad ad1 (cut2 (ow2 C1)) 2 h31.2.1) (cw_ad ad1 (cut2 (ow2 C1)) 2 h31.2.1) h31 (ckN ad1 (cut2 (ow2 C1)) np h31.2.1) h55 R (abN R nk ab) nk nn' np (hoI R np) r h1) := by
      rcases hj01 with j0 | j1
      · have eh : hoI R np = R.1 23 := by unfold hoI; rw [if_neg (by rw [j0]; decide)]
        rw [eh] at hcV ⊢
        exact cp_no (d := d + 8) (by rw [hw5, hW2.2.2.1, j0]) (by rw [hK.1 23 (by unfold kkS kbS kpS; omega)]; exact hh23) hcV z4 hk.2.2.2.2.2.2.1 z5 hN1 hpv.1 hpv.2.1 hpv.2.2 (oK.refl hNN) ⟨fun _ _ _ _ _ => rfl, fun _ => rfl, fun _ _ => rfl⟩ hC
      · have eh : hoI R np = hmI R np (R.2.2.2.1 104 0) := by unfold hoI; rw [if_pos j1]
        rw [eh] at hcV ⊢
        have w7 := hW2.2.2.2.1 j1
        exact cp_with (d := d + 8) hlt2 (by rw [hw5, hW2.2.2.1, j1]) (by rw [cL_o (ckN_o (by decide))]; exact w7.1) (by rw [hw5]; exact w7.2) hcV z4 hk.2.2.2.2.2.2.1 z5 hN1 hpv.1 hpv.2.1 hpv.2.2 (oK.refl hNN) ⟨fun _ _ _ _ _ => rfl, fun _ => rfl, fun _ _ => rfl⟩ hC
    have k11 : ckN ad1 (cut2 (ow2 C1)) np h31.2.1 11 = ow2 C1 11 := (ckN_o (by decide)).trans q11
    refine mm_post (fun r_ h_ z_ => ?_) (mm_weakK (pk_55 (d := d + 8) hck (by omega) hpv.1.2.2.2.2.2.1.1 (by rw [cN_o k11, ow2_N]; exact m11) (by rw [cN_o (ckN_o (by decide)), cN_o (o2 13 (by decide) (by decide))]; exact m13) (by rw [cR_o (ckN_o (by decide)), c3, cw_ad_o (by rw [cN_o (o2 7 (by decide) (by decide))]; exact hR1.1.1)]) (by rw [cR_o (ckN_o (by decide)), c9, cw_ad_o (by rw [cN_o (o2 13 (by decide) (by decide))]; exact m13)]) hC) (And.intro rfl (And.intro rfl trivial)))
    refine ⟨_, _, h31, h55, ok3, ⟨?_, ?_, ?_, ?_, fun j j1 j2 => ?_, fun j => ?_⟩, z_, ?_, ?_, ?_, ?_⟩
    · rw [cw_ad_o (by rw [cN_o q11, ow2_N]; exact m11)]; exact okA.A n11
    · rw [cN_o k11, ow2_N]; exact m11
    · rw [cI_o k11]; unfold ow2; rw [cI_sI_n (by omega), cI_sI_e]
    · rw [cI_o k11]; unfold ow2; rw [cI_sI_e]
    · rw [cI_o k11]; unfold ow2; rw [cI_sI_n (by omega), cI_sI_n (by omega)]; exact okA.I n11
    · rw [cR_o k11]; unfold ow2; rw [cR_sI, cR_sI]; exact okA.R n11
    · rw [s55, hab_.1]; show h31.2.1 + 1 ≤ _; omega
    · rw [s55, hab_.2]; show h31.2.2 + 4 ≤ _; omega
    · rw [cL_o (ckN_o (by decide))]; exact hW2.2.1
    · rw [hw5]; exact hW2.2.2.2.2.1
  · exact absurd zeq hr

