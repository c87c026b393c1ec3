/-! the class's pack, from its beginning -/
def rlO (ad : Nat → Nat → Nat) (C : cw_C) (M : mw_S) : Prop := (0 < cN C 11 ∧ 0 < cN C 12 ∧ 0 < cN C 13) ∧ cR C 11 0 0 = some (ad 12 0) ∧ cI C 11 0 1 = M.1 1 ∧ cI C 11 0 2 = M.1 24 ∧ cR C 11 0 3 = some (ad 7 0) ∧ cR C 11 0 9 = some (ad 13 0) ∧ (∀ c, 1 ≤ c → c ≤ 4 → cI C 13 0 c = M.2.2.1 2 c) ∧ ∀ i, i < 800 → cI C 12 0 i = M.2.2.1 0 i
def rlK (ad : Nat → Nat → Nat) (C : cw_C) (M : mw_S) (ab : Nat → Option Nat) (nk np : Nat) : Prop := rgR ad C M nk np ∧ ckE ad C M ab nk ∧ (cN C 4 = nk ∧ cN C 21 = nk ∧ cN C 5 = np ∧ cN C 20 = np ∧ cN C 2 = 0 ∧ cN C 6 = 0 ∧ cN C 10 = 0)
/-- the reader was made -/
def rdC (C : cw_C) (x : Nat) : cw_C := cw_sR (cw_sI (cw_new C 6) 6 0 0 (-1)) 6 0 1 (some x)
theorem rdC_o {C : cw_C} {x f : Nat} (h : ¬ f = 6) : rdC C x f = C f := (cw_sR_o h).trans ((cw_sI_o h).trans (cw_ext_o h))
theorem rdC_oK {ad : Nat → Nat → Nat} {C : cw_C} {x y : Nat} (h6 : cN C 6 = 0) : oK (cN C) ad C (cw_ad ad C 6 y) (rdC C x) := (((oK.refl (fun f => Nat.le_refl _)).ext).sI (f := 6) (i := 0) (by omega)).sR (f := 6) (i := 0) (by omega)
theorem rdC_6 {C : cw_C} {x : Nat} (h6 : cN C 6 = 0) : cN (rdC C x) 6 = 1 := by
  unfold rdC
  rw [cw_sR_N, cw_sI_N, show cN (cw_new C 6) 6 = cN C 6 + 1 from cN_ext, h6]

/-- pack ends with a fault of the text -/
def pkT (ad : Nat → Nat → Nat) (h0 : mm_H) (C : cw_C) (a b p : Nat) (r : Option Value) (h1 : mm_H) : Prop := ∃ ad1 C1, oK (cN C) ad C ad1 C1 ∧ cw ad1 h0 (cw_sI (cw_sI C1 11 0 1 0) 11 0 2 (nI p)) h1 ∧ (h1.2.1 ≤ a ∧ h1.2.2 ≤ b) ∧ r = some (.int 1)

theorem pk_L {G : mm_G} {L : Nat × Nat} {d : Nat} {h : mm_H} {h0 : mm_H} {ad : Nat → Nat → Nat} {C : cw_C} {M : mw_S} {ab : Nat → Option Nat} {nk np n : Nat} (hk : rlK ad C M ab nk np) (ho : rlO ad C M) (hn : M.1 1 = nI n) {a_ b_ : Nat} (hab_ : a_ = h.2.1 + 4 ∧ b_ = h.2.2 + 25) (hn7 : 700 < n) (hn8 : n ≤ 800) (hL1 : h.2.1 + 4 ≤ L.1) (hL2 : h.2.2 + 25 ≤ L.2) (hC : cw ad h0 C h) : mm_Ok G mX11_pack L (d + 3) [.ref (ad 11 0)] h (fun r h1 => pkT ad h0 C a_ b_ 700 r h1) := by
  refine mm_Ok.of [(0, .ref (ad 11 0))] rfl kX11_pack.2.2.2.2.2 rfl (fun A => ?_)
  have n11 := ho.1.1
  have n12 := ho.1.2.1
  have h6 := hk.2.2.2.2.2.2.2.1
  refine mm_new (pc := 0) dX11_pack_0 nl_X11_99 ((by omega)) ((by show h.2.2 + 2 ≤ L.2; omega)) ?_
  have hC := hC.new 6 (by decide) rfl rfl
  have en : cw_ad ad C 6 h.2.1 6 0 = h.2.1 := by rw [← h6]; exact cw_ad_n
  have e11 : cw_ad ad C 6 h.2.1 11 0 = ad 11 0 := cw_ad_o n11
  have e12 : cw_ad ad C 6 h.2.1 12 0 = ad 12 0 := cw_ad_o n12
  rw [← en, ← e11]
  have m6 : 0 < cN (cw_new C 6) 6 := by rw [show cN (cw_new C 6) 6 = cN C 6 + 1 from cN_ext]; omega
  refine mm_dup (pc := 3) dX11_pack_3 rfl ?_
  refine mm_callIN (pc := 4) (As := []) dX11_pack_4 inl_X11_101 (x6_init (d := d) m6 (show h.2.1 + 1 + 1 ≤ L.1 by omega) (show h.2.2 + 2 + 5 ≤ L.2 by omega) hC) rfl rfl (Nat.le_of_ble_eq_true rfl) ?_
  rintro _ h4 ⟨x4, hC, s4, rfl⟩
  have hC : cw (cw_ad ad C 6 h.2.1) h0 (rdC C x4) h4 := hC
  have s4 : h4.2 = (h.2.1 + 2, h.2.2 + 7) := by rw [s4]; rfl
  have ok4 : oK (cN C) ad C (cw_ad ad C 6 h.2.1) (rdC C x4) := rdC_oK h6
  have c6 := rdC_6 (x := x4) h6
  have r11 : cR (rdC C x4) 11 0 0 = some (cw_ad ad C 6 h.2.1 12 0) := by rw [cR_o (rdC_o (by decide)), e12]; exact ho.2.1
  have i11 : cI (rdC C x4) 11 0 1 = nI n := by rw [cI_o (rdC_o (by decide)), ho.2.2.1]; exact hn
  have k11 : 0 < cN (rdC C x4) 11 := by rw [cN_o (rdC_o (by decide))]; exact n11
  refine mm_astore_n (pc := 7) dX11_pack_7 (by first | trivial | assumption | exact mm_isr_rf _) rfl (Nat.le_of_ble_eq_true rfl) ?_
  refine mm_aload_n (pc := 8) dX11_pack_8 rfl (by first | trivial | assumption | exact mm_isr_rf _) ?_
  refine mm_aload_n (pc := 9) dX11_pack_9 rfl (by first | trivial | assumption | exact mm_isr_rf _) ?_
  refine cw_grS (pc := 10) 11 0 0 hC (rfl) rfl (k11) dX11_pack_10 fl_X11_9 rfl rfl rfl (r11) ?_
  refine mm_aload_n (pc := 13) dX11_pack_13 rfl (by first | trivial | assumption | exact mm_isr_rf _) ?_
  refine cw_gi (pc := 14) 11 0 1 hC (rfl) rfl (k11) dX11_pack_14 fl_X11_13 rfl rfl rfl ?_
  refine mm_topi _ i11 ?_
  refine mm_callV (pc := 17) (As := [_, _]) (kd := ?kd_17_1) (fs := ?fs_17_1) dX11_pack_17 vl_X11_102 (rp_long (d := d) (np := np) (N := cN C) (by rw [cN_o (rdC_o (by decide))]; exact n12) hn7 hn8 c6 (by rw [cN_o (rdC_o (by decide))]; exact hk.2.2.2.2.1) (by rw [cN_o (rdC_o (by decide))]; exact hk.2.2.2.2.2.1) (fun f => (ok4 f).1) h6 (by rw [s4]; show h.2.1 + 2 + 2 ≤ L.1; omega) (by rw [s4]; show h.2.2 + 7 + 18 ≤ L.2; omega) hC) ?hc_17_1 ?hk_17_1 rfl rfl (Nat.le_of_ble_eq_true rfl) ?_; (case hc_17_1 => exact cw_cell (f := 6) (i := 0) hC rfl rfl (show 0 < cN (rdC C x4) 6 by rw [c6]; decide)); (case hk_17_1 => rfl)
  rintro _ h17 ⟨ad1, C1, rfl, hC, ok1, e6, n6, s17, f0⟩
  have okA := ok4.trans ok1
  have m11 : 0 < cN C1 11 := Nat.lt_of_lt_of_le n11 (okA 11).1
  rw [← e6, ← show ad1 11 0 = cw_ad ad C 6 h.2.1 11 0 from ok1.A n11]
  refine mm_post (fun r_ h_ z_ => ?_) (mm_weakK (pk_20F (p := 700) m11 n6 f0 (by decide) hC) (And.intro rfl (And.intro rfl trivial)))
  exact ⟨ad1, C1, okA, z_.2.1, by rw [z_.2.2, s17, s4, hab_.1, hab_.2]; exact ⟨Nat.le_refl _, Nat.le_refl _⟩, z_.1⟩

theorem ckE.ad {ad ad1 : Nat → Nat → Nat} {C C1 : cw_C} {M M' : mw_S} {ab : Nat → Option Nat} {nk : Nat} (hE : ckE ad C M ab nk) (ha : ∀ f i, i < cN C f → ad1 f i = ad f i) (hn4 : nk ≤ cN C 4) (e0 : C1 0 = C 0) (e1 : C1 1 = C 1) (e4 : C1 4 = C 4) (e21 : C1 21 = C 21) (hV : M'.2.2.1 = M.2.2.1) (hW : M'.2.2.2.1 = M.2.2.2.1) (h13 : M'.1 13 = M.1 13) (h111 : M'.1 111 = M.1 111) : ckE ad1 C1 M' ab nk := by
  obtain ⟨⟨a1, a2, a3, a4⟩, b, c, ⟨d1, d2⟩, e, f⟩ := hE
  have ek : kg M' = kg M := by unfold kg; rw [h111]
  have eh : ∀ q i, rm_has M' q i = rm_has M q i := fun q i => by unfold rm_has; rw [hV]
  have eE : ∀ q, rm_E M' q = rm_E M q := fun q => by funext x z; unfold rm_E rm_has rm_sees; rw [hV]
  have eg : ∀ i q, gb M' i q = gb M i q := fun i q => by unfold gb; rw [hV]
  refine ⟨⟨a1, a2, by rw [cN_o e4]; exact a3, by rw [cN_o e21]; exact a4⟩, fun i hi => ⟨?_, fun q hq hh u hu => ?_⟩, fun g hg => ?_, ⟨by rw [cN_o e1, ek]; exact d1, by rw [ek]; exact d2⟩, fun i hi q hq hh => ?_, f.same e0 (fun i hi => ha 0 i hi) h13 (by rw [hV]) (by rw [hV]) (by rw [hV]) (by rw [hV]) (by rw [hV]) (by rw [hV])⟩
  · obtain ⟨k0, k4, k5, k6_, k7, k8, k11, kH⟩ := (b i hi).1
    unfold kS0
    rw [cL_o e4, cI_o e4, cR_o e4, cI_o e4, cI_o e4, cI_o e4, cR_o e4, hV, hW]
    refine ⟨k0, k4, ?_, k6_, k7, k8, by rw [k11, ha 21 i (by omega)], fun q hq => ?_⟩
    · rw [k5]
      cases z : ab i with
      | none => rfl
      | some x =>
        have := a1 i x hi z
        show some (ad 4 x) = some (ad1 4 x)
        rw [ha 4 x (by omega)]
    · rw [eh, cR_o e21, cN_o e1, hV]
      rcases kH q hq with z | ⟨z1, g, z2, z3, z4⟩
      · exact Or.inl z
      · exact Or.inr ⟨z1, g, z2, z3, by rw [z4, ha 1 g z2]⟩
  · rw [eh] at hh
    rw [eg, eE, cL_o e1]
    exact (b i hi).2 q hq hh u hu
  · rw [cN_o e1] at hg
    exact (c g hg).mono (fun j => cI_o e1) (fun j _ => cR_o e1) (by rw [cN_o e4]; exact Nat.le_refl _) (fun i hi => ha 4 i hi) (by rw [cN_o e0]; exact Nat.le_refl _) (fun i hi => ha 0 i hi) (fun j _ => by rw [hV])
  · rw [eh] at hh
    obtain ⟨g, z⟩ := e i hi q hq hh
    refine ⟨g, ?_⟩
    unfold yK
    rw [ek, hV]
    exact z

theorem pk_F {G : mm_G} {L : Nat × Nat} {d : Nat} {h : mm_H} {h0 : mm_H} {ad : Nat → Nat → Nat} {C : cw_C} {M : mw_S} {ab : Nat → Option Nat} {nk np n a0 g0 : Nat} (hk : rlK ad C M ab nk np) (ho : rlO ad C M) (hn : M.1 1 = nI n) {tb : Nat → Nat} {a_ b_ : Nat} (hab_ : a_ = h.2.1 + 2 * n + 7 ∧ b_ = h.2.2 + 14 * n + 48) (htb : ∀ i, tb i < 256) (hTp : tpC C tb) (hlt : lt_ G h0) (hn7 : n ≤ 700) (hI : pI tb n a0 (rm_word (pkM0 M) tb n (qs tb n 0)) 0) (hg : gI tb n g0 (rm_word (pkM0 M) tb n (qs tb n 0)) 0) (hs3 : M.1 3 = nI nk) (hs19 : M.1 19 = nI np) (hr : (pPack tb n (pkM0 M)).1 = 0) (hL1 : h.2.1 + 2 * n + 7 ≤ L.1) (hL2 : h.2.2 + 14 * n + 48 ≤ L.2) (hC : cw ad h0 C h) : mm_Ok G mX11_pack L (d + 20) [.ref (ad 11 0)] h (fun r h1 => ∃ p, (pPack tb n (pkM0 M)).2.1.1 24 = nI p ∧ p ≤ 800 ∧ pkT ad h0 C a_ b_ p r h1) := by
  refine mm_Ok.of [(0, .ref (ad 11 0))] rfl kX11_pack.2.2.2.2.2 rfl (fun A => ?_)
  have n11 := ho.1.1
  have n12 := ho.1.2.1
  have h6 := hk.2.2.2.2.2.2.2.1
  refine mm_new (pc := 0) dX11_pack_0 nl_X11_99 ((by omega)) ((by show h.2.2 + 2 ≤ L.2; omega)) ?_
  have hC := hC.new 6 (by decide) rfl rfl
  have en : cw_ad ad C 6 h.2.1 6 0 = h.2.1 := by rw [← h6]; exact cw_ad_n
  have e11 : cw_ad ad C 6 h.2.1 11 0 = ad 11 0 := cw_ad_o n11
  have e12 : cw_ad ad C 6 h.2.1 12 0 = ad 12 0 := cw_ad_o n12
  rw [← en, ← e11]
  have m6 : 0 < cN (cw_new C 6) 6 := by rw [show cN (cw_new C 6) 6 = cN C 6 + 1 from cN_ext]; omega
  refine mm_dup (pc := 3) dX11_pack_3 rfl ?_
  refine mm_callIN (pc := 4) (As := []) dX11_pack_4 inl_X11_101 (x6_init (d := d + 17) m6 (show h.2.1 + 1 + 1 ≤ L.1 by omega) (show h.2.2 + 2 + 5 ≤ L.2 by omega) hC) rfl rfl (Nat.le_of_ble_eq_true rfl) ?_
  rintro _ h4 ⟨x4, hC, s4, rfl⟩
  have hC : cw (cw_ad ad C 6 h.2.1) h0 (rdC C x4) h4 := hC
  have s4 : h4.2 = (h.2.1 + 2, h.2.2 + 7) := by rw [s4]; rfl
  have ok4 : oK (cN C) ad C (cw_ad ad C 6 h.2.1) (rdC C x4) := rdC_oK h6
  have c6 := rdC_6 (x := x4) h6
  have r11 : cR (rdC C x4) 11 0 0 = some (cw_ad ad C 6 h.2.1 12 0) := by rw [cR_o (rdC_o (by decide)), e12]; exact ho.2.1
  have i11 : cI (rdC C x4) 11 0 1 = nI n := by rw [cI_o (rdC_o (by decide)), ho.2.2.1]; exact hn
  have k11 : 0 < cN (rdC C x4) 11 := by rw [cN_o (rdC_o (by decide))]; exact n11
  have hE4 : ckE (cw_ad ad C 6 h.2.1) (rdC C x4) (pkM0 M) ab nk := hk.2.1.ad (fun f i hi => cw_ad_o hi) hk.2.1.1.2.2.1 (rdC_o (by decide)) (rdC_o (by decide)) (rdC_o (by decide)) (rdC_o (by decide)) rfl rfl rfl rfl
  refine mm_astore_n (pc := 7) dX11_pack_7 (by first | trivial | assumption | exact mm_isr_rf _) rfl (Nat.le_of_ble_eq_true rfl) ?_
  refine mm_aload_n (pc := 8) dX11_pack_8 rfl (by first | trivial | assumption | exact mm_isr_rf _) ?_
  refine mm_aload_n (pc := 9) dX11_pack_9 rfl (by first | trivial | assumption | exact mm_isr_rf _) ?_
  refine cw_grS (pc := 10) 11 0 0 hC (rfl) rfl (k11) dX11_pack_10 fl_X11_9 rfl rfl rfl (r11) ?_
  refine mm_aload_n (pc := 13) dX11_pack_13 rfl (by first | trivial | assumption | exact mm_isr_rf _) ?_
  refine cw_gi (pc := 14) 11 0 1 hC (rfl) rfl (k11) dX11_pack_14 fl_X11_13 rfl rfl rfl ?_
  refine mm_topi _ i11 ?_
  refine mm_callV (pc := 17) (As := [_, _]) (kd := ?kd_17_2) (fs := ?fs_17_2) dX11_pack_17 vl_X11_102 (rp_ok (d := d) (M := pkM0 M) (N := cN C) htb ⟨htb, by rw [cN_o (rdC_o (by decide))]; exact n12, fun i hi => by rw [cI_o (rdC_o (by decide))]; exact hTp.2.2 i hi⟩ hlt hn7 (by rw [cN_o (rdC_o (by decide))]; exact hk.2.2.2.2.2.2.2.2) c6 (show cI (rdC C x4) 6 0 0 = -1 by unfold rdC; rw [cI_sR, cI_sI_e]) (by rw [cN_o (rdC_o (by decide))]; exact hk.2.2.2.2.1) (by rw [cN_o (rdC_o (by decide))]; exact hk.2.2.2.2.2.1) (by rw [cN_o (rdC_o (by decide))]; exact hk.2.2.1) (by rw [cN_o (rdC_o (by decide))]; exact hk.2.2.2.1) (hE4.2.2.2.2.2) (hE4.2.2.2.1.1) (hE4.2.2.1) hI hg hs3 rfl hs19 hk.1.2.1.1 hk.1.2.1.2 (fun f => (ok4 f).1) (by rw [hk.2.2.1]; exact Nat.le_refl _) (by rw [hk.2.2.2.1]; exact Nat.le_refl _) h6 hk.2.2.2.2.2.2.2.2 (by rw [s4]; show h.2.1 + 2 + 2 * n + 5 ≤ L.1; omega) (by rw [s4]; show h.2.2 + 7 + 14 * n + 41 ≤ L.2; omega) hC) ?hc_17_2 ?hk_17_2 rfl rfl (Nat.le_of_ble_eq_true rfl) ?_; (case hc_17_2 => exact cw_cell (f := 6) (i := 0) hC rfl rfl (show 0 < cN (rdC C x4) 6 by rw [c6]; decide)); (case hk_17_2 => rfl)
  rintro _ h17 ⟨ad1, C1, rfl, hC, ok1, e6, n6, rx, ⟨zne, -⟩ | ⟨zeq, p, p8, f0, z24⟩⟩
  · exact absurd hr zne
  · have okA := ok4.trans ok1
    have m11 : 0 < cN C1 11 := Nat.lt_of_lt_of_le n11 (okA 11).1
    rw [← e6, ← show ad1 11 0 = cw_ad ad C 6 h.2.1 11 0 from ok1.A n11]
    refine mm_post (fun r_ h_ z_ => ?_) (mm_weakK (pk_20F (p := p) m11 n6 f0 p8 hC) (And.intro rfl (And.intro rfl trivial)))
    refine ⟨p, z24, p8, ad1, C1, okA, z_.2.1, ?_, z_.1⟩
    unfold rmX pkB at rx
    rw [s4] at rx
    rw [z_.2.2, hab_.1, hab_.2]
    exact ⟨by have := rx.1; show h17.2.1 ≤ _; omega, by have := rx.2; show h17.2.2 ≤ _; omega⟩

