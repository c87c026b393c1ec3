/-! the class's constructor: kinds are settled -/
theorem kg_k {M : mw_S} {g : Nat} (h : g < 2 ^ 31) : kg (mw_setS M 111 (nI g)) = g := by
  show (nI g).toNatClampNeg = g
  exact nI_clamp h
theorem cur1_b {p q g g' : Nat} (h : (if p = q then some g else none) = some g') : g' < g + 1 := by
  split at h
  · cases h; omega
  · cases h
section X7S
variable {G : mm_G} {L : Nat × Nat} {d : Nat} {h h0 : mm_H} {ad : Nat → Nat → Nat} {C C2 : cw_C} {x y z k g a s j xa : Nat} {cur : Nat → Option Nat} {W_ : Int64}
theorem kdH_G {S : Nat → Int32} (hk : k < 3) (hg : (if k = 0 then 6 else k + 6) = g) (hK : KC k g s W_ cur ad C) (hcur : ∀ q, q < 6 → cur q = if hG3 k q = true then some (if k = 0 then q else k + 5) else none) : kdH ad C (S, none, vG, wG, (MF x y z).2.2.2.2) k := by
  refine kdH_mk hK (fun q hq => ?_)
  have e : rm_has (MG x y z) q k = hG3 k q := has_G hk hq
  have e : rm_has (S, none, vG, wG, (MF x y z).2.2.2.2) q k = hG3 k q := e
  rw [e, hcur q hq]
  cases z : hG3 k q with
  | false => exact Or.inl ⟨rfl, if_neg (by decide)⟩
  | true =>
    refine Or.inr ⟨rfl, _, ?_, ((vG_h k hk q hq).2 z).1, if_pos rfl⟩
    rw [← hg]
    by_cases e0 : k = 0
    · rw [if_pos e0, if_pos e0]; exact hq
    · rw [if_neg e0, if_neg e0]; omega
theorem hBm_all (hk : k < 3) (hg : (if k = 0 then 6 else k + 6) = g) : ∀ i, i < k + 1 → hBm (mw_setS (MG x y z) 111 (nI g)) i := fun i hi => by
  refine hBm_G (x := x) (y := y) (z := z) (g := g) (S := mw_u sG 111 (nI g)) cu_eq ?_ (by omega) ?_
  · rw [← hg]; split <;> omega
  · rw [← hg]
    by_cases e0 : i = 0
    · rw [if_pos e0]; split <;> omega
    · rw [if_neg e0, if_neg (by omega)]; omega
theorem ST.se (h : ST xa (MG x y z) k g a ad C) (hk : k < 3) (hg : (if k = 0 then 6 else k + 6) = g) (kc : KC k g s W_ cur ad C) (hst : stF C C2 (mw_setS (MG x y z) 111 (nI g)) k) (hkS : kSt ad C2 (mw_setS (MG x y z) 111 (nI g)) ab3 k) : ST xa (MG x y z) (k + 1) g a ad (apC C2 k (ad 4 k)) ∧ cN (apC C2 k (ad 4 k)) 4 = k + 1 ∧ cN (apC C2 k (ad 4 k)) 21 = k + 1 ∧ cN (apC C2 k (ad 4 k)) 1 = g := by
  obtain ⟨hO, hR, hP, n0⟩ := h
  have hO : KO (mw_setS (MG x y z) 111 (nI g)) ab3 k g a ad C := hO
  have hg8 : g < 2 ^ 30 := by rw [← hg]; split <;> omega
  have hO2 : KO (mw_setS (MG x y z) 111 (nI g)) ab3 (k + 1) g a ad (apC C2 k (ad 4 k)) := hO.se hst kc.1.1 kc.1.2.1 hkS (fun i hi => hBm_all hk hg i (by omega)) (by rw [kg_k (by omega)]; exact hg8)
  exact ⟨⟨hO2, hR.se hst kc.1.1, hP.se hst, by rw [apC_N, hst.2.1, n0]⟩, by rw [apC_N, hst.2.1, kc.1.1], by rw [apC_N, hst.2.1, kc.1.2.1], by rw [apC_N, hst.2.1, kc.1.2.2]⟩

theorem x7_N (hS : ST xa (MG x y z) k g a ad C) (kc : KC k g s (spL (kNm.getD k [])) cur ad C) (hk : k < 3) (hg : (if k = 0 then 6 else k + 6) = g) (hcur : ∀ q, q < 6 → cur q = if hG3 k q = true then some (if k = 0 then q else k + 5) else none) (hab : ab3 k = none) (hC : cw ad h0 C h) : mm_Ok G mX7_settle L (d + 3) [.ref (ad 7 0), .ref (ad 4 k), .null, .int 0, .int (-7)] h (fun r h1 => ∃ C9, cw ad h0 C9 h1 ∧ ST xa (MG x y z) (k + 1) g a ad C9 ∧ (cN C9 4 = k + 1 ∧ cN C9 21 = k + 1 ∧ cN C9 1 = g) ∧ h1.2 = h.2 ∧ r = none) := by
  have hS' := hS
  obtain ⟨hO, hR, hP, n0⟩ := hS'
  have hg8 : g < 2 ^ 30 := by rw [← hg]; split <;> omega
  refine mm_Ok.post (x7_stN (d := d) (M := mw_setS (MG x y z) 111 (nI g)) (ab := ab3) (k := k) hR.1.1 hR.1.2 (by omega) hR.2.1 hR.2.2.1 (kf_le (by omega)) (by omega) (by rw [kc.1.1]; omega) (by rw [kc.1.2.1]; omega) hO.2.1 (fun g' hg' => hO.2.2.1 g' (by rw [← kc.1.2.2]; exact hg')) (by rw [kg_k (by omega)]; exact kc.1.2.2) (by rw [kg_k (by omega)]; exact hg8) (hBm_all hk hg) kc.2.1 kc.2.2.1 (kdH_G (x := x) (y := y) (z := z) hk hg kc hcur) (vG_k k hk).1.symm (vG_k k hk).2.1.symm hab hC) (fun r h1 zz => ?_)
  obtain ⟨C2, hst, hkS, hC2, e, rfl⟩ := zz
  obtain ⟨q1, q2⟩ := ST.se hS hk hg kc hst hkS
  exact ⟨_, hC2, q1, q2, e, rfl⟩

theorem x7_S (hS : ST xa (MG x y z) k g a ad C) (kc : KC k g s (spL (kNm.getD k [])) cur ad C) (hk : k < 3) (hg : (if k = 0 then 6 else k + 6) = g) (hcur : ∀ q, q < 6 → cur q = if hG3 k q = true then some (if k = 0 then q else k + 5) else none) (hab : ab3 k = some j) (hC : cw ad h0 C h) : mm_Ok G mX7_settle L (d + 3) [.ref (ad 7 0), .ref (ad 4 k), .ref (ad 4 j), .int 0, .int (-7)] h (fun r h1 => ∃ C9, cw ad h0 C9 h1 ∧ ST xa (MG x y z) (k + 1) g a ad C9 ∧ (cN C9 4 = k + 1 ∧ cN C9 21 = k + 1 ∧ cN C9 1 = g) ∧ h1.2 = h.2 ∧ r = none) := by
  have hS' := hS
  obtain ⟨hO, hR, hP, n0⟩ := hS'
  have hg8 : g < 2 ^ 30 := by rw [← hg]; split <;> omega
  refine mm_Ok.post (x7_stS (d := d) (M := mw_setS (MG x y z) 111 (nI g)) (ab := ab3) (k := k) hR.1.1 hR.1.2 (by omega) hR.2.1 hR.2.2.1 (kf_le (by omega)) (by omega) (by rw [kc.1.1]; omega) (by rw [kc.1.2.1]; omega) hO.2.1 (fun g' hg' => hO.2.2.1 g' (by rw [← kc.1.2.2]; exact hg')) (by rw [kg_k (by omega)]; exact kc.1.2.2) (by rw [kg_k (by omega)]; exact hg8) (hBm_all hk hg) kc.2.1 kc.2.2.1 (kdH_G (x := x) (y := y) (z := z) hk hg kc hcur) (vG_k k hk).1.symm (vG_k k hk).2.1.symm hab hC) (fun r h1 zz => ?_)
  obtain ⟨C2, hst, hkS, hC2, e, rfl⟩ := zz
  obtain ⟨q1, q2⟩ := ST.se hS hk hg kc hst hkS
  exact ⟨_, hC2, q1, q2, e, rfl⟩

end X7S

theorem x11_d {G : mm_G} {A : Nat → Prop} {L : Nat × Nat} {d b1 b2 x y z xa : Nat} {Q : Option Value → mm_H → Prop} {h0 : mm_H} (hlt : lt_ G h0) (hL1 : b1 + 24 ≤ L.1) (hL2 : b2 + 186 ≤ L.2)  {ad : Nat → Nat → Nat} {C : cw_C} {h : mm_H} (hC : cw ad h0 C h) (hS : ST xa (MG x y z) 0 6 6 ad C) {s : Nat} (kc : KC 0 6 s (spL [115, 116, 105, 108, 108]) (cur0 6) ad C) (sz : h.2 = (b1 + (2 + 2 * 6), b2 + (18 + 15 * 6))) (kk : ∀ ad C h, cw ad h0 C h → ST xa (MG x y z) (0 + 1) 6 6 ad C → (cN C 4 = 0 + 1 ∧ cN C 21 = 0 + 1 ∧ cN C 1 = 6) → h.2 = (b1 + (2 + 2 * 6), b2 + (18 + 15 * 6)) → mm_Run G mX11_init A L (d + 8) 151 [(1, .ref (ad 4 0)), (0, .ref (ad 11 0))] [] h Q) : mm_Run G mX11_init A L (d + 8) 139 [(1, .ref (ad 4 0)), (0, .ref (ad 11 0))] [] h Q := by
  have n11 := hS.2.2.1.n11
  have n7 := hS.2.2.1.n7
  have q3_ := hS.2.2.1.2.2.1.2.2.2.1
  refine mm_aload_n (pc := 139) dX11_init_139 rfl (by first | trivial | assumption | exact mm_isr_rf _) ?_
  refine cw_grS (pc := 140) 11 0 3 hC (rfl) rfl (n11) dX11_init_140 fl_X11_23 rfl rfl rfl (q3_) ?_
  refine mm_aload_n (pc := 143) dX11_init_143 rfl (by first | trivial | assumption | exact mm_isr_rf _) ?_
  refine mm_null (pc := 144) dX11_init_144 ?_
  refine mm_iconst (pc := 145) (v := 0) dX11_init_145 (by decide) ?_
  refine mm_bipush (pc := 146) (v := (-7)) dX11_init_146 (by decide) ?_
  refine mm_callV (pc := 148) (As := [_, _, _, _]) (kd := ?kd_148_1) (fs := ?fs_148_1) dX11_init_148 vl_X11_88 (x7_N (d := d + 4) (x := x) (y := y) (z := z) (k := 0) (g := 6) (a := 6) hS kc (by decide) rfl (by decide) rfl hC) ?hc_148_1 ?hk_148_1 rfl rfl (Nat.le_of_ble_eq_true rfl) ?_; (case hc_148_1 => exact cw_cell (f := 7) hC rfl rfl n7); (case hk_148_1 => rfl)
  rintro _ hZ ⟨C9, hC, hS, hn, eZ, rfl⟩
  exact mm_weakK (kk ad C9 hZ hC hS hn (by rw [eZ]; exact sz)) (And.intro rfl (And.intro rfl trivial))

theorem x11_e {G : mm_G} {A : Nat → Prop} {L : Nat × Nat} {d b1 b2 x y z xa : Nat} {Q : Option Value → mm_H → Prop} {h0 : mm_H} (hlt : lt_ G h0) (hL1 : b1 + 24 ≤ L.1) (hL2 : b2 + 186 ≤ L.2)  {ad : Nat → Nat → Nat} {C : cw_C} {h : mm_H} (hC : cw ad h0 C h) (hS0 : ST xa (MG x y z) 1 6 6 ad C) (hn : cN C 4 = 1 ∧ cN C 21 = 1 ∧ cN C 1 = 6) (sz : h.2 = (b1 + (2 + 2 * 6), b2 + (18 + 15 * 6))) (kk : ∀ ad C h, cw ad h0 C h → ST xa (MG x y z) 1 6 6 ad C → KC 1 6 6 (spL [112, 111, 116]) (fun _ => none) ad C → h.2 = (b1 + (2 + 2 * 6) + 2, b2 + (18 + 15 * 6) + 18) → mm_Run G mX11_init A L (d + 8) 165 [(2, .ref (ad 4 1)), (1, .ref (ad 4 0)), (0, .ref (ad 11 0))] [] h Q) : mm_Run G mX11_init A L (d + 8) 151 [(1, .ref (ad 4 0)), (0, .ref (ad 11 0))] [] h Q := by
  obtain ⟨s1_, s2_, s3_, n0⟩ := hS0
  have hS : KO (MG x y z) ab3 1 6 6 ad C ∧ RG 1 ad C ∧ PR xa ad C := ⟨s1_, s2_, s3_⟩
  clear s1_ s2_ s3_
  have n11 := hS.2.2.n11
  obtain ⟨n4, n21, n1⟩ := hn
  refine mm_new (pc := 151) dX11_init_151 nl_X11_56 (by rw [sz]; show b1 + (2 + 2 * 6) + 1 ≤ L.1; omega) (by rw [sz]; show b2 + (18 + 15 * 6) + 12 ≤ L.2; omega) ?_
  have hC := hC.new 4 (by decide) rfl rfl
  have en : cw_ad ad C 4 h.2.1 4 1 = h.2.1 := by have z_ := cw_ad_n (ad := ad) (C := C) (f := 4) (a := h.2.1); rw [n4] at z_; exact z_
  have n4c : 1 < cN (cw_new C 4) 4 := by rw [show cN (cw_new C 4) 4 = cN C 4 + 1 from cN_ext, n4]; omega
  rw [← en]
  refine mm_dup (pc := 154) dX11_init_154 rfl ?_
  refine mm_ldcS (pc := 155) (i := 1) dX11_init_155 rfl ?_
  refine mm_callS (pc := 157) (As := [_]) dX11_init_157 sl_X11_60 (sp_ok (d := d + 3) (cs := [112, 111, 116]) ((lt_.of hlt hC).t (i := 1) rfl) (show ltr [112, 111, 116] by unfold ltr; decide)) rfl rfl (Nat.le_of_ble_eq_true rfl) ?_
  rintro _ _ ⟨rfl, rfl⟩
  refine mm_iconst (pc := 160) (v := 0) dX11_init_160 (by decide) ?_
  refine mm_callI (pc := 161) (As := [_, _]) dX11_init_161 il_X11_64 (x4_init (d := d + 6) (k := 1) n4c (by show h.2.1 + 1 + 1 ≤ L.1; rw [sz]; show b1 + (2 + 2 * 6) + 1 + 1 ≤ L.1; omega) (by show h.2.2 + 12 + 6 ≤ L.2; rw [sz]; show b2 + (18 + 15 * 6) + 12 + 6 ≤ L.2; omega) hC) rfl rfl (Nat.le_of_ble_eq_true rfl) ?_
  rintro _ hA ⟨ad1, C1, hC, hA_, hkI, eS, rfl⟩
  obtain ⟨fo, kc, n0_⟩ := st_kind (ad := ad) (x := h.2.1) (g := 6) (a := 6) n4 n21 (by omega) (by omega) hA_ hkI
  rw [n1] at kc
  have n0 := n0_.trans n0
  have hS := ST.st hS fo (kf_le (by decide)) (gb_lt (by decide) (by decide))
  have e_ := hA_ 4 1 n4c
  rw [← fo.1 11 0 (n11)]
  rw [← fo.1 4 0 (by omega)]
  rw [← e_]
  have sz : hA.2 = (b1 + (2 + 2 * 6) + 2, b2 + (18 + 15 * 6) + 18) := by rw [eS]; exact congrArg (fun p : Nat × Nat => (p.1 + 1 + 1, p.2 + 12 + 6)) sz
  refine mm_astore_n (pc := 164) dX11_init_164 (by first | trivial | assumption | exact mm_isr_rf _) rfl (Nat.le_of_ble_eq_true rfl) ?_
  exact mm_weakK (kk ad1 C1 hA hC ⟨hS.1, hS.2.1, hS.2.2, n0⟩ kc sz) (And.intro rfl (And.intro rfl (And.intro rfl trivial)))

theorem x11_f {G : mm_G} {A : Nat → Prop} {L : Nat × Nat} {d b1 b2 x y z xa : Nat} {Q : Option Value → mm_H → Prop} {h0 : mm_H} (hlt : lt_ G h0) (hL1 : b1 + 24 ≤ L.1) (hL2 : b2 + 186 ≤ L.2)  {ad : Nat → Nat → Nat} {C : cw_C} {h : mm_H} (hC : cw ad h0 C h) (hS0 : ST xa (MG x y z) 1 6 6 ad C) (kc : KC 1 6 6 (spL [112, 111, 116]) (fun _ => none) ad C) (sz : h.2 = (b1 + (2 + 2 * 6) + 2, b2 + (18 + 15 * 6) + 18)) (kk : ∀ ad C h, cw ad h0 C h → ST xa (MG x y z) 1 (6 + 1) (6 + 2) ad C → KC 1 (6 + 1) 6 (spL [112, 111, 116]) (fun p => if p = 4 then some 6 else none) ad C → h.2 = (b1 + (2 + 2 * 6) + 2 + 1 + 1 + 1, b2 + (18 + 15 * 6) + 18 + 9 + 6 + 6) → mm_Run G mX11_init A L (d + 8) 204 [(2, .ref (ad 4 1)), (1, .ref (ad 4 0)), (0, .ref (ad 11 0))] [] h Q) : mm_Run G mX11_init A L (d + 8) 165 [(2, .ref (ad 4 1)), (1, .ref (ad 4 0)), (0, .ref (ad 11 0))] [] h Q := by
  obtain ⟨s1_, s2_, s3_, n0⟩ := hS0
  have hS : KO (MG x y z) ab3 1 6 6 ad C ∧ RG 1 ad C ∧ PR xa ad C := ⟨s1_, s2_, s3_⟩
  clear s1_ s2_ s3_
  have n11 := hS.2.2.n11
  refine mm_aload_n (pc := 165) dX11_init_165 rfl (by first | trivial | assumption | exact mm_isr_rf _) ?_
  refine mm_new (pc := 166) dX11_init_166 nl_X11_67 (by rw [sz]; show b1 + (2 + 2 * 6) + 2 + 1 ≤ L.1; omega) (by rw [sz]; show b2 + (18 + 15 * 6) + 18 + 9 ≤ L.2; omega) ?_
  have hC := hC.new 1 (by decide) rfl rfl
  have en : cw_ad ad C 1 h.2.1 1 (6) = h.2.1 := by have z_ := cw_ad_n (ad := ad) (C := C) (f := 1) (a := h.2.1); rw [kc.1.2.2] at z_; exact z_
  have m1 : 6 < cN (cw_new C 1) 1 := by rw [show cN (cw_new C 1) 1 = cN C 1 + 1 from cN_ext, kc.1.2.2]; omega
  have m4_ : 1 < cN C 4 := by rw [kc.1.1]; omega
  rw [← en]
  refine mm_dup (pc := 169) dX11_init_169 rfl ?_
  refine mm_aload_n (pc := 170) dX11_init_170 rfl (by first | trivial | assumption | exact mm_isr_rf _) ?_
  refine mm_iconst (pc := 171) (v := 4) dX11_init_171 (by decide) ?_
  refine mm_iconst (pc := 172) (v := 2) dX11_init_172 (by decide) ?_
  refine mm_iconst (pc := 173) (v := 0) dX11_init_173 (by decide) ?_
  refine mm_iconst (pc := 174) (v := 0) dX11_init_174 (by decide) ?_
  refine mm_callI (pc := 175) (As := [_, _, _, _, _]) dX11_init_175 il_X11_73 (ok_X1_init (d := d + 6) (Or.inl rfl) (cw_cell (f := 1) hC rfl rfl m1)) rfl rfl (Nat.le_of_ble_eq_true rfl) ?_
  rintro _ hB ⟨rfl, eB⟩
  have hC := hC.row 1 (6) (by decide) m1 (fun j => [0, nI (4), 2, 0, 0].getD j 0) (fun _ => 0) (fun j => bif Nat.beq j 0 then some (ad 4 1) else none) eB
  have hC : cw (cw_ad ad C 1 h.2.1) h0 (bd9 (cw_new C 1) (6) (ad 4 1) (nI (4)) (2) (0) 0) hB := hC
  have szB : hB.2 = (h.2.1 + 1, h.2.2 + 9) := by rw [eB]; rfl
  obtain ⟨v4, v1, v21, v11, vh, v10⟩ := gv_pre (q := 4) (x := h.2.1) (r := 2) (l := 0) kc
  have e4 : cw_ad ad C 1 h.2.1 4 1 = ad 4 1 := cw_ad_o (by rw [kc.1.1]; omega)
  rw [← e4]
  refine mm_callV (pc := 178) (As := [_]) (kd := ?kd_178_2) (fs := ?fs_178_2) dX11_init_178 vl_X11_76 (gv_any (d := d + 6) (6) v4 v1 v21 (by decide) v11 vh v10 hC) ?hc_178_2 ?hk_178_2 rfl rfl (Nat.le_of_ble_eq_true rfl) ?_; (case hc_178_2 => exact cw_cell (f := 4) hC rfl rfl v4); (case hk_178_2 => rfl)
  rintro _ hD ⟨C6, hC, eD, rfl, hgv⟩
  obtain ⟨fo, kc, n0_, bf⟩ := st_body (a := 6) kc (by omega) (Nat.le_refl _) (by decide) rfl (fun p g_ _ z_ => by cases z_) hgv
  have n0 := n0_.trans n0
  have n11 := hS.2.2.n11
  rw [← fo.1 11 0 (n11)]
  rw [← fo.1 4 0 (by omega)]
  have hS := ST.st hS fo (kf_le (by decide)) (gb_lt (by decide) (by decide))
  have sz : hD.2 = (b1 + (2 + 2 * 6) + 2 + 1, b2 + (18 + 15 * 6) + 18 + 9) := by rw [eD, szB]; exact congrArg (fun p : Nat × Nat => (p.1 + 1, p.2 + 9)) sz
  have eb : cR C6 21 1 (4) = some (cw_ad ad C 1 h.2.1 1 (6)) := by
    rw [kc.2.2.2.2 (4) (by decide)]
    show (if _ = _ then some (6) else _).map _ = _
    rw [if_pos rfl]; rfl
  generalize cw_ad ad C 1 h.2.1 = ad1 at *
  clear hgv
  have n4 : 1 < cN C6 4 := by rw [kc.1.1]; omega
  have n21 : 1 < cN C6 21 := by rw [kc.1.2.1]; omega
  have n1 : 6 < cN C6 1 := by rw [kc.1.2.2]; omega
  refine mm_aload_n (pc := 181) dX11_init_181 rfl (by first | trivial | assumption | exact mm_isr_rf _) ?_
  refine mm_iconst (pc := 182) (v := 4) dX11_init_182 (by decide) ?_
  refine mm_callV (pc := 183) (As := [_]) (kd := ?kd_183_3) (fs := ?fs_183_3) dX11_init_183 vl_X11_80 (bo_w (d := d + 7) (k := 1) (q := 4) n4 n21 (by decide) kc.2.2.1 hC) ?hc_183_3 ?hk_183_3 rfl rfl (Nat.le_of_ble_eq_true rfl) ?_; (case hc_183_3 => exact cw_cell (f := 4) hC rfl rfl n4); (case hk_183_3 => rfl)
  rintro _ hD ⟨rfl, rfl⟩
  rw [eb]
  refine mm_bipush (pc := 186) (v := 13) dX11_init_186 (by decide) ?_
  refine mm_iconst (pc := 188) (v := 0) dX11_init_188 (by decide) ?_
  refine mm_callS (pc := 189) (As := [_, _, _]) dX11_init_189 sl_X11_84 (ah_0 (d := d + 5) (w := 13) (g := 6) n1 (by rw [sz]; show b1 + (2 + 2 * 6) + 2 + 1 + 1 ≤ L.1; omega) (by rw [sz]; show b2 + (18 + 15 * 6) + 18 + 9 + 6 ≤ L.2; omega) bf.2.2.2.2.2.1 hC) rfl rfl (Nat.le_of_ble_eq_true rfl) ?_
  rintro _ had2 ⟨C7, hC, eC7, ead2, rfl⟩
  have n0o := n0
  obtain ⟨fo, kc, n0, bf, af⟩ := st_a0 (x := hD.2.1) (w := 13) (v := 0) kc n0 (fun p g_ _ z_ => cur1_b (q := 4) (g := 6) z_) bf
  have ea : cw_ad ad1 C6 0 hD.2.1 0 (6) = hD.2.1 := by have z_ := cw_ad_n (ad := ad1) (C := C6) (f := 0) (a := hD.2.1); rw [n0o] at z_; exact z_
  have bf := bf.re ea
  have n11 := hS.2.2.n11
  rw [← fo.1 11 0 (n11)]
  rw [← fo.1 4 0 (by omega)]
  rw [← fo.1 4 1 (n4)]
  have hS := ST.st hS fo (kf_le (by decide)) (gb_lt (by decide) (by decide))
  rw [← eC7] at fo kc n0 bf af hS
  have sz : had2.2 = (b1 + (2 + 2 * 6) + 2 + 1 + 1, b2 + (18 + 15 * 6) + 18 + 9 + 6) := by rw [ead2]; exact congrArg (fun p : Nat × Nat => (p.1 + 1, p.2 + 6)) sz
  generalize cw_ad ad1 C6 0 hD.2.1 = ad2 at *
  clear eC7 ea
  have n4 : 1 < cN C7 4 := by rw [kc.1.1]; omega
  have n21 : 1 < cN C7 21 := by rw [kc.1.2.1]; omega
  have n1 : 6 < cN C7 1 := by rw [kc.1.2.2]; omega
  have eb : cR C7 21 1 4 = some (ad2 1 6) := by
    rw [kc.2.2.2.2 4 (by decide)]
    show (if _ = _ then some 6 else _).map _ = _
    rw [if_pos rfl]; rfl
  refine mm_aload_n (pc := 192) dX11_init_192 rfl (by first | trivial | assumption | exact mm_isr_rf _) ?_
  refine mm_iconst (pc := 193) (v := 4) dX11_init_193 (by decide) ?_
  refine mm_callV (pc := 194) (As := [_]) (kd := ?kd_194_4) (fs := ?fs_194_4) dX11_init_194 vl_X11_80 (bo_w (d := d + 7) (k := 1) (q := 4) n4 n21 (by decide) kc.2.2.1 hC) ?hc_194_4 ?hk_194_4 rfl rfl (Nat.le_of_ble_eq_true rfl) ?_; (case hc_194_4 => exact cw_cell (f := 4) hC rfl rfl n4); (case hk_194_4 => rfl)
  rintro _ had2 ⟨rfl, rfl⟩
  rw [eb]
  refine mm_bipush (pc := 197) (v := 15) dX11_init_197 (by decide) ?_
  refine mm_bipush (pc := 199) (v := 14) dX11_init_199 (by decide) ?_
  refine mm_callS (pc := 201) (As := [_, _, _]) dX11_init_201 sl_X11_84 (ah_1 (d := d + 5) (w := 15) (g := 6) (y := 6) n1 (by rw [sz]; show b1 + (2 + 2 * 6) + 2 + 1 + 1 + 1 ≤ L.1; omega) (by rw [sz]; show b2 + (18 + 15 * 6) + 18 + 9 + 6 + 6 ≤ L.2; omega) (by omega) bf.2.2.2.2.2.1 hC) rfl rfl (Nat.le_of_ble_eq_true rfl) ?_
  rintro _ had3 ⟨C8, hC, eC8, ead3, rfl⟩
  have n0o := n0
  obtain ⟨fo, kc, n0, bf, af, af1⟩ := st_a1 (x := had2.2.1) (w := 15) (v := 14) kc n0 (fun p g_ _ z_ => cur1_b (q := 4) (g := 6) z_) bf af
  have ea : cw_ad ad2 C7 0 had2.2.1 0 (6 + 1) = had2.2.1 := by have z_ := cw_ad_n (ad := ad2) (C := C7) (f := 0) (a := had2.2.1); rw [n0o] at z_; exact z_
  have ey : cw_ad ad2 C7 0 had2.2.1 0 (6) = ad2 0 (6) := cw_ad_o (by omega)
  have bf := bf.re ey
  have af := af.re ea
  have n11 := hS.2.2.n11
  rw [← fo.1 11 0 (n11)]
  rw [← fo.1 4 0 (by omega)]
  rw [← fo.1 4 1 (n4)]
  have hS := ST.st hS fo (kf_le (by decide)) (gb_lt (by decide) (by decide))
  rw [← eC8] at fo kc n0 bf af hS
  rw [← eC8] at af1
  have sz : had3.2 = (b1 + (2 + 2 * 6) + 2 + 1 + 1 + 1, b2 + (18 + 15 * 6) + 18 + 9 + 6 + 6) := by rw [ead3]; exact congrArg (fun p : Nat × Nat => (p.1 + 1, p.2 + 6)) sz
  generalize cw_ad ad2 C7 0 had2.2.1 = ad3 at *
  clear eC8 ea
  have n4 : 1 < cN C8 4 := by rw [kc.1.1]; omega
  have n21 : 1 < cN C8 21 := by rw [kc.1.2.1]; omega
  have n1 : 6 < cN C8 1 := by rw [kc.1.2.2]; omega
  have hb_ : (vG 98 6).toNatClampNeg = 1 ∧ vG 99 6 = nI 4 ∧ vG 112 6 = 2 ∧ vG 113 6 = 0 ∧ vG 107 6 = 0 ∧ vG 108 6 = nI 6 ∧ vG 109 6 = 2 := by decide +kernel
  obtain ⟨b1_, b2_, b3_, b4_, b5_, b6_, b7_⟩ := hb_
  have ha_ : vG 14 6 + 12 = nI 13 ∧ vG 83 6 = 0 ∧ vG 15 6 = 0 ∧ vG 16 6 = -1 ∧ vG 17 6 = -1 ∧ vG 18 6 = nI (6 + 1) := by decide +kernel
  obtain ⟨a1_, a2_, a3_, a4_, a5_, a6_⟩ := ha_
  have hc_ : vG 14 (6 + 1) + 12 = nI 15 ∧ vG 83 (6 + 1) = 0 ∧ vG 15 (6 + 1) = 14 ∧ vG 16 (6 + 1) = -1 ∧ vG 17 (6 + 1) = -1 ∧ vG 18 (6 + 1) = -1 := by decide +kernel
  obtain ⟨c1_, c2_, c3_, c4_, c5_, c6_⟩ := hc_
  have hO := hS.1.ad_ (a' := 6 + 2) n1 (by omega) (bd_mk bf b1_ n4 b2_ b3_ b4_ b5_ b6_ (by omega) b7_) (fun j j1 j2 => by
    by_cases e_ : j = 6
    · subst e_; exact aR_mk af a1_ a2_ a3_ a4_ a5_ (Or.inr ⟨6 + 1, by omega, a6_, rfl⟩)
    · obtain rfl : j = 6 + 1 := (by omega)
      exact aR_mk af1 c1_ c2_ c3_ c4_ c5_ (by rw [show (MG x y z).2.2.1 18 (6 + 1) = -1 from c6_]; exact lkR_n))
  exact mm_weakK (kk ad3 C8 had3 hC ⟨hO, hS.2.1, hS.2.2, n0⟩ kc sz) (And.intro rfl (And.intro rfl (And.intro rfl trivial)))

theorem x11_g {G : mm_G} {A : Nat → Prop} {L : Nat × Nat} {d b1 b2 x y z xa : Nat} {Q : Option Value → mm_H → Prop} {h0 : mm_H} (hlt : lt_ G h0) (hL1 : b1 + 24 ≤ L.1) (hL2 : b2 + 186 ≤ L.2)  {ad : Nat → Nat → Nat} {C : cw_C} {h : mm_H} (hC : cw ad h0 C h) (hS : ST xa (MG x y z) 1 7 8 ad C) {s : Nat} (kc : KC 1 7 s (spL [112, 111, 116]) (fun p => if p = 4 then some 6 else none) ad C) (sz : h.2 = (b1 + (2 + 2 * 6) + 2 + 1 + 1 + 1, b2 + (18 + 15 * 6) + 18 + 9 + 6 + 6)) (kk : ∀ ad C h, cw ad h0 C h → ST xa (MG x y z) (1 + 1) 7 8 ad C → (cN C 4 = 1 + 1 ∧ cN C 21 = 1 + 1 ∧ cN C 1 = 7) → h.2 = (b1 + (2 + 2 * 6) + 2 + 1 + 1 + 1, b2 + (18 + 15 * 6) + 18 + 9 + 6 + 6) → mm_Run G mX11_init A L (d + 8) 216 [(2, .ref (ad 4 1)), (1, .ref (ad 4 0)), (0, .ref (ad 11 0))] [] h Q) : mm_Run G mX11_init A L (d + 8) 204 [(2, .ref (ad 4 1)), (1, .ref (ad 4 0)), (0, .ref (ad 11 0))] [] h Q := by
  have n11 := hS.2.2.1.n11
  have n7 := hS.2.2.1.n7
  have q3_ := hS.2.2.1.2.2.1.2.2.2.1
  refine mm_aload_n (pc := 204) dX11_init_204 rfl (by first | trivial | assumption | exact mm_isr_rf _) ?_
  refine cw_grS (pc := 205) 11 0 3 hC (rfl) rfl (n11) dX11_init_205 fl_X11_23 rfl rfl rfl (q3_) ?_
  refine mm_aload_n (pc := 208) dX11_init_208 rfl (by first | trivial | assumption | exact mm_isr_rf _) ?_
  refine mm_aload_n (pc := 209) dX11_init_209 rfl (by first | trivial | assumption | exact mm_isr_rf _) ?_
  refine mm_iconst (pc := 210) (v := 0) dX11_init_210 (by decide) ?_
  refine mm_bipush (pc := 211) (v := (-7)) dX11_init_211 (by decide) ?_
  refine mm_callV (pc := 213) (As := [_, _, _, _]) (kd := ?kd_213_5) (fs := ?fs_213_5) dX11_init_213 vl_X11_88 (x7_S (d := d + 4) (x := x) (y := y) (z := z) (k := 1) (g := 7) (a := 8) hS kc (by decide) rfl (by decide) rfl hC) ?hc_213_5 ?hk_213_5 rfl rfl (Nat.le_of_ble_eq_true rfl) ?_; (case hc_213_5 => exact cw_cell (f := 7) hC rfl rfl n7); (case hk_213_5 => rfl)
  rintro _ hZ ⟨C9, hC, hS, hn, eZ, rfl⟩
  exact mm_weakK (kk ad C9 hZ hC hS hn (by rw [eZ]; exact sz)) (And.intro rfl (And.intro rfl (And.intro rfl trivial)))

theorem x11_h {G : mm_G} {A : Nat → Prop} {L : Nat × Nat} {d b1 b2 x y z xa : Nat} {Q : Option Value → mm_H → Prop} {h0 : mm_H} (hlt : lt_ G h0) (hL1 : b1 + 24 ≤ L.1) (hL2 : b2 + 186 ≤ L.2)  {ad : Nat → Nat → Nat} {C : cw_C} {h : mm_H} (hC : cw ad h0 C h) (hS0 : ST xa (MG x y z) 2 7 8 ad C) (hn : cN C 4 = 2 ∧ cN C 21 = 2 ∧ cN C 1 = 7) (sz : h.2 = (b1 + (2 + 2 * 6) + 2 + 1 + 1 + 1, b2 + (18 + 15 * 6) + 18 + 9 + 6 + 6)) (kk : ∀ ad C h, cw ad h0 C h → ST xa (MG x y z) 2 7 8 ad C → KC 2 7 7 (spL [99, 111, 108, 117, 109, 110]) (fun _ => none) ad C → h.2 = (b1 + (2 + 2 * 6) + 2 + 1 + 1 + 1 + 2, b2 + (18 + 15 * 6) + 18 + 9 + 6 + 6 + 18) → mm_Run G mX11_init A L (d + 8) 230 [(3, .ref (ad 4 2)), (2, .ref (ad 4 1)), (1, .ref (ad 4 0)), (0, .ref (ad 11 0))] [] h Q) : mm_Run G mX11_init A L (d + 8) 216 [(2, .ref (ad 4 1)), (1, .ref (ad 4 0)), (0, .ref (ad 11 0))] [] h Q := by
  obtain ⟨s1_, s2_, s3_, n0⟩ := hS0
  have hS : KO (MG x y z) ab3 2 7 8 ad C ∧ RG 2 ad C ∧ PR xa ad C := ⟨s1_, s2_, s3_⟩
  clear s1_ s2_ s3_
  have n11 := hS.2.2.n11
  obtain ⟨n4, n21, n1⟩ := hn
  refine mm_new (pc := 216) dX11_init_216 nl_X11_56 (by rw [sz]; show b1 + (2 + 2 * 6) + 2 + 1 + 1 + 1 + 1 ≤ L.1; omega) (by rw [sz]; show b2 + (18 + 15 * 6) + 18 + 9 + 6 + 6 + 12 ≤ L.2; omega) ?_
  have hC := hC.new 4 (by decide) rfl rfl
  have en : cw_ad ad C 4 h.2.1 4 2 = h.2.1 := by have z_ := cw_ad_n (ad := ad) (C := C) (f := 4) (a := h.2.1); rw [n4] at z_; exact z_
  have n4c : 2 < cN (cw_new C 4) 4 := by rw [show cN (cw_new C 4) 4 = cN C 4 + 1 from cN_ext, n4]; omega
  rw [← en]
  refine mm_dup (pc := 219) dX11_init_219 rfl ?_
  refine mm_ldcS (pc := 220) (i := 2) dX11_init_220 rfl ?_
  refine mm_callS (pc := 222) (As := [_]) dX11_init_222 sl_X11_60 (sp_ok (d := d + 3) (cs := [99, 111, 108, 117, 109, 110]) ((lt_.of hlt hC).t (i := 2) rfl) (show ltr [99, 111, 108, 117, 109, 110] by unfold ltr; decide)) rfl rfl (Nat.le_of_ble_eq_true rfl) ?_
  rintro _ _ ⟨rfl, rfl⟩
  refine mm_iconst (pc := 225) (v := 0) dX11_init_225 (by decide) ?_
  refine mm_callI (pc := 226) (As := [_, _]) dX11_init_226 il_X11_64 (x4_init (d := d + 6) (k := 2) n4c (by show h.2.1 + 1 + 1 ≤ L.1; rw [sz]; show b1 + (2 + 2 * 6) + 2 + 1 + 1 + 1 + 1 + 1 ≤ L.1; omega) (by show h.2.2 + 12 + 6 ≤ L.2; rw [sz]; show b2 + (18 + 15 * 6) + 18 + 9 + 6 + 6 + 12 + 6 ≤ L.2; omega) hC) rfl rfl (Nat.le_of_ble_eq_true rfl) ?_
  rintro _ hA ⟨ad1, C1, hC, hA_, hkI, eS, rfl⟩
  obtain ⟨fo, kc, n0_⟩ := st_kind (ad := ad) (x := h.2.1) (g := 7) (a := 8) n4 n21 (by omega) (by omega) hA_ hkI
  rw [n1] at kc
  have n0 := n0_.trans n0
  have hS := ST.st hS fo (kf_le (by decide)) (gb_lt (by decide) (by decide))
  have e_ := hA_ 4 2 n4c
  rw [← fo.1 11 0 (n11)]
  rw [← fo.1 4 0 (by omega)]
  rw [← fo.1 4 1 (by omega)]
  rw [← e_]
  have sz : hA.2 = (b1 + (2 + 2 * 6) + 2 + 1 + 1 + 1 + 2, b2 + (18 + 15 * 6) + 18 + 9 + 6 + 6 + 18) := by rw [eS]; exact congrArg (fun p : Nat × Nat => (p.1 + 1 + 1, p.2 + 12 + 6)) sz
  refine mm_astore_n (pc := 229) dX11_init_229 (by first | trivial | assumption | exact mm_isr_rf _) rfl (Nat.le_of_ble_eq_true rfl) ?_
  exact mm_weakK (kk ad1 C1 hA hC ⟨hS.1, hS.2.1, hS.2.2, n0⟩ kc sz) (And.intro rfl (And.intro rfl (And.intro rfl (And.intro rfl trivial))))

theorem x11_i {G : mm_G} {A : Nat → Prop} {L : Nat × Nat} {d b1 b2 x y z xa : Nat} {Q : Option Value → mm_H → Prop} {h0 : mm_H} (hlt : lt_ G h0) (hL1 : b1 + 24 ≤ L.1) (hL2 : b2 + 186 ≤ L.2)  {ad : Nat → Nat → Nat} {C : cw_C} {h : mm_H} (hC : cw ad h0 C h) (hS0 : ST xa (MG x y z) 2 7 8 ad C) (kc : KC 2 7 7 (spL [99, 111, 108, 117, 109, 110]) (fun _ => none) ad C) (sz : h.2 = (b1 + (2 + 2 * 6) + 2 + 1 + 1 + 1 + 2, b2 + (18 + 15 * 6) + 18 + 9 + 6 + 6 + 18)) (kk : ∀ ad C h, cw ad h0 C h → ST xa (MG x y z) 2 (7 + 1) (8 + 2) ad C → KC 2 (7 + 1) 7 (spL [99, 111, 108, 117, 109, 110]) (fun p => if p = 2 then some 7 else none) ad C → h.2 = (b1 + (2 + 2 * 6) + 2 + 1 + 1 + 1 + 2 + 1 + 1 + 1, b2 + (18 + 15 * 6) + 18 + 9 + 6 + 6 + 18 + 9 + 6 + 6) → mm_Run G mX11_init A L (d + 8) 268 [(3, .ref (ad 4 2)), (2, .ref (ad 4 1)), (1, .ref (ad 4 0)), (0, .ref (ad 11 0))] [] h Q) : mm_Run G mX11_init A L (d + 8) 230 [(3, .ref (ad 4 2)), (2, .ref (ad 4 1)), (1, .ref (ad 4 0)), (0, .ref (ad 11 0))] [] h Q := by
  obtain ⟨s1_, s2_, s3_, n0⟩ := hS0
  have hS : KO (MG x y z) ab3 2 7 8 ad C ∧ RG 2 ad C ∧ PR xa ad C := ⟨s1_, s2_, s3_⟩
  clear s1_ s2_ s3_
  have n11 := hS.2.2.n11
  refine mm_aload_n (pc := 230) dX11_init_230 rfl (by first | trivial | assumption | exact mm_isr_rf _) ?_
  refine mm_new (pc := 231) dX11_init_231 nl_X11_67 (by rw [sz]; show b1 + (2 + 2 * 6) + 2 + 1 + 1 + 1 + 2 + 1 ≤ L.1; omega) (by rw [sz]; show b2 + (18 + 15 * 6) + 18 + 9 + 6 + 6 + 18 + 9 ≤ L.2; omega) ?_
  have hC := hC.new 1 (by decide) rfl rfl
  have en : cw_ad ad C 1 h.2.1 1 (7) = h.2.1 := by have z_ := cw_ad_n (ad := ad) (C := C) (f := 1) (a := h.2.1); rw [kc.1.2.2] at z_; exact z_
  have m1 : 7 < cN (cw_new C 1) 1 := by rw [show cN (cw_new C 1) 1 = cN C 1 + 1 from cN_ext, kc.1.2.2]; omega
  have m4_ : 2 < cN C 4 := by rw [kc.1.1]; omega
  rw [← en]
  refine mm_dup (pc := 234) dX11_init_234 rfl ?_
  refine mm_aload_n (pc := 235) dX11_init_235 rfl (by first | trivial | assumption | exact mm_isr_rf _) ?_
  refine mm_iconst (pc := 236) (v := 2) dX11_init_236 (by decide) ?_
  refine mm_iconst (pc := 237) (v := 1) dX11_init_237 (by decide) ?_
  refine mm_iconst (pc := 238) (v := 1) dX11_init_238 (by decide) ?_
  refine mm_iconst (pc := 239) (v := 0) dX11_init_239 (by decide) ?_
  refine mm_callI (pc := 240) (As := [_, _, _, _, _]) dX11_init_240 il_X11_73 (ok_X1_init (d := d + 6) (Or.inr rfl) (cw_cell (f := 1) hC rfl rfl m1)) rfl rfl (Nat.le_of_ble_eq_true rfl) ?_
  rintro _ hB ⟨rfl, eB⟩
  have hC := hC.row 1 (7) (by decide) m1 (fun j => [0, nI (2), 1, 1, 0].getD j 0) (fun _ => 0) (fun j => bif Nat.beq j 0 then some (ad 4 2) else none) eB
  have hC : cw (cw_ad ad C 1 h.2.1) h0 (bd9 (cw_new C 1) (7) (ad 4 2) (nI (2)) (1) (1) 0) hB := hC
  have szB : hB.2 = (h.2.1 + 1, h.2.2 + 9) := by rw [eB]; rfl
  obtain ⟨v4, v1, v21, v11, vh, v10⟩ := gv_pre (q := 2) (x := h.2.1) (r := 1) (l := 1) kc
  have e4 : cw_ad ad C 1 h.2.1 4 2 = ad 4 2 := cw_ad_o (by rw [kc.1.1]; omega)
  rw [← e4]
  refine mm_callV (pc := 243) (As := [_]) (kd := ?kd_243_6) (fs := ?fs_243_6) dX11_init_243 vl_X11_76 (gv_any (d := d + 6) (7) v4 v1 v21 (by decide) v11 vh v10 hC) ?hc_243_6 ?hk_243_6 rfl rfl (Nat.le_of_ble_eq_true rfl) ?_; (case hc_243_6 => exact cw_cell (f := 4) hC rfl rfl v4); (case hk_243_6 => rfl)
  rintro _ hD ⟨C6, hC, eD, rfl, hgv⟩
  obtain ⟨fo, kc, n0_, bf⟩ := st_body (a := 8) kc (by omega) (Nat.le_refl _) (by decide) rfl (fun p g_ _ z_ => by cases z_) hgv
  have n0 := n0_.trans n0
  have n11 := hS.2.2.n11
  rw [← fo.1 11 0 (n11)]
  rw [← fo.1 4 0 (by omega)]
  rw [← fo.1 4 1 (by omega)]
  have hS := ST.st hS fo (kf_le (by decide)) (gb_lt (by decide) (by decide))
  have sz : hD.2 = (b1 + (2 + 2 * 6) + 2 + 1 + 1 + 1 + 2 + 1, b2 + (18 + 15 * 6) + 18 + 9 + 6 + 6 + 18 + 9) := by rw [eD, szB]; exact congrArg (fun p : Nat × Nat => (p.1 + 1, p.2 + 9)) sz
  have eb : cR C6 21 2 (2) = some (cw_ad ad C 1 h.2.1 1 (7)) := by
    rw [kc.2.2.2.2 (2) (by decide)]
    show (if _ = _ then some (7) else _).map _ = _
    rw [if_pos rfl]; rfl
  generalize cw_ad ad C 1 h.2.1 = ad1 at *
  clear hgv
  have n4 : 2 < cN C6 4 := by rw [kc.1.1]; omega
  have n21 : 2 < cN C6 21 := by rw [kc.1.2.1]; omega
  have n1 : 7 < cN C6 1 := by rw [kc.1.2.2]; omega
  refine mm_aload_n (pc := 246) dX11_init_246 rfl (by first | trivial | assumption | exact mm_isr_rf _) ?_
  refine mm_iconst (pc := 247) (v := 2) dX11_init_247 (by decide) ?_
  refine mm_callV (pc := 248) (As := [_]) (kd := ?kd_248_7) (fs := ?fs_248_7) dX11_init_248 vl_X11_80 (bo_w (d := d + 7) (k := 2) (q := 2) n4 n21 (by decide) kc.2.2.1 hC) ?hc_248_7 ?hk_248_7 rfl rfl (Nat.le_of_ble_eq_true rfl) ?_; (case hc_248_7 => exact cw_cell (f := 4) hC rfl rfl n4); (case hk_248_7 => rfl)
  rintro _ hD ⟨rfl, rfl⟩
  rw [eb]
  refine mm_bipush (pc := 251) (v := 13) dX11_init_251 (by decide) ?_
  refine mm_iconst (pc := 253) (v := 0) dX11_init_253 (by decide) ?_
  refine mm_callS (pc := 254) (As := [_, _, _]) dX11_init_254 sl_X11_84 (ah_0 (d := d + 5) (w := 13) (g := 7) n1 (by rw [sz]; show b1 + (2 + 2 * 6) + 2 + 1 + 1 + 1 + 2 + 1 + 1 ≤ L.1; omega) (by rw [sz]; show b2 + (18 + 15 * 6) + 18 + 9 + 6 + 6 + 18 + 9 + 6 ≤ L.2; omega) bf.2.2.2.2.2.1 hC) rfl rfl (Nat.le_of_ble_eq_true rfl) ?_
  rintro _ had2 ⟨C7, hC, eC7, ead2, rfl⟩
  have n0o := n0
  obtain ⟨fo, kc, n0, bf, af⟩ := st_a0 (x := hD.2.1) (w := 13) (v := 0) kc n0 (fun p g_ _ z_ => cur1_b (q := 2) (g := 7) z_) bf
  have ea : cw_ad ad1 C6 0 hD.2.1 0 (8) = hD.2.1 := by have z_ := cw_ad_n (ad := ad1) (C := C6) (f := 0) (a := hD.2.1); rw [n0o] at z_; exact z_
  have bf := bf.re ea
  have n11 := hS.2.2.n11
  rw [← fo.1 11 0 (n11)]
  rw [← fo.1 4 0 (by omega)]
  rw [← fo.1 4 1 (by omega)]
  rw [← fo.1 4 2 (n4)]
  have hS := ST.st hS fo (kf_le (by decide)) (gb_lt (by decide) (by decide))
  rw [← eC7] at fo kc n0 bf af hS
  have sz : had2.2 = (b1 + (2 + 2 * 6) + 2 + 1 + 1 + 1 + 2 + 1 + 1, b2 + (18 + 15 * 6) + 18 + 9 + 6 + 6 + 18 + 9 + 6) := by rw [ead2]; exact congrArg (fun p : Nat × Nat => (p.1 + 1, p.2 + 6)) sz
  generalize cw_ad ad1 C6 0 hD.2.1 = ad2 at *
  clear eC7 ea
  have n4 : 2 < cN C7 4 := by rw [kc.1.1]; omega
  have n21 : 2 < cN C7 21 := by rw [kc.1.2.1]; omega
  have n1 : 7 < cN C7 1 := by rw [kc.1.2.2]; omega
  have eb : cR C7 21 2 2 = some (ad2 1 7) := by
    rw [kc.2.2.2.2 2 (by decide)]
    show (if _ = _ then some 7 else _).map _ = _
    rw [if_pos rfl]; rfl
  refine mm_aload_n (pc := 257) dX11_init_257 rfl (by first | trivial | assumption | exact mm_isr_rf _) ?_
  refine mm_iconst (pc := 258) (v := 2) dX11_init_258 (by decide) ?_
  refine mm_callV (pc := 259) (As := [_]) (kd := ?kd_259_8) (fs := ?fs_259_8) dX11_init_259 vl_X11_80 (bo_w (d := d + 7) (k := 2) (q := 2) n4 n21 (by decide) kc.2.2.1 hC) ?hc_259_8 ?hk_259_8 rfl rfl (Nat.le_of_ble_eq_true rfl) ?_; (case hc_259_8 => exact cw_cell (f := 4) hC rfl rfl n4); (case hk_259_8 => rfl)
  rintro _ had2 ⟨rfl, rfl⟩
  rw [eb]
  refine mm_bipush (pc := 262) (v := 16) dX11_init_262 (by decide) ?_
  refine mm_iconst (pc := 264) (v := 1) dX11_init_264 (by decide) ?_
  refine mm_callS (pc := 265) (As := [_, _, _]) dX11_init_265 sl_X11_84 (ah_1 (d := d + 5) (w := 16) (g := 7) (y := 8) n1 (by rw [sz]; show b1 + (2 + 2 * 6) + 2 + 1 + 1 + 1 + 2 + 1 + 1 + 1 ≤ L.1; omega) (by rw [sz]; show b2 + (18 + 15 * 6) + 18 + 9 + 6 + 6 + 18 + 9 + 6 + 6 ≤ L.2; omega) (by omega) bf.2.2.2.2.2.1 hC) rfl rfl (Nat.le_of_ble_eq_true rfl) ?_
  rintro _ had3 ⟨C8, hC, eC8, ead3, rfl⟩
  have n0o := n0
  obtain ⟨fo, kc, n0, bf, af, af1⟩ := st_a1 (x := had2.2.1) (w := 16) (v := 1) kc n0 (fun p g_ _ z_ => cur1_b (q := 2) (g := 7) z_) bf af
  have ea : cw_ad ad2 C7 0 had2.2.1 0 (8 + 1) = had2.2.1 := by have z_ := cw_ad_n (ad := ad2) (C := C7) (f := 0) (a := had2.2.1); rw [n0o] at z_; exact z_
  have ey : cw_ad ad2 C7 0 had2.2.1 0 (8) = ad2 0 (8) := cw_ad_o (by omega)
  have bf := bf.re ey
  have af := af.re ea
  have n11 := hS.2.2.n11
  rw [← fo.1 11 0 (n11)]
  rw [← fo.1 4 0 (by omega)]
  rw [← fo.1 4 1 (by omega)]
  rw [← fo.1 4 2 (n4)]
  have hS := ST.st hS fo (kf_le (by decide)) (gb_lt (by decide) (by decide))
  rw [← eC8] at fo kc n0 bf af hS
  rw [← eC8] at af1
  have sz : had3.2 = (b1 + (2 + 2 * 6) + 2 + 1 + 1 + 1 + 2 + 1 + 1 + 1, b2 + (18 + 15 * 6) + 18 + 9 + 6 + 6 + 18 + 9 + 6 + 6) := by rw [ead3]; exact congrArg (fun p : Nat × Nat => (p.1 + 1, p.2 + 6)) sz
  generalize cw_ad ad2 C7 0 had2.2.1 = ad3 at *
  clear eC8 ea
  have n4 : 2 < cN C8 4 := by rw [kc.1.1]; omega
  have n21 : 2 < cN C8 21 := by rw [kc.1.2.1]; omega
  have n1 : 7 < cN C8 1 := by rw [kc.1.2.2]; omega
  have hb_ : (vG 98 7).toNatClampNeg = 2 ∧ vG 99 7 = nI 2 ∧ vG 112 7 = 1 ∧ vG 113 7 = 1 ∧ vG 107 7 = 0 ∧ vG 108 7 = nI 8 ∧ vG 109 7 = 2 := by decide +kernel
  obtain ⟨b1_, b2_, b3_, b4_, b5_, b6_, b7_⟩ := hb_
  have ha_ : vG 14 8 + 12 = nI 13 ∧ vG 83 8 = 0 ∧ vG 15 8 = 0 ∧ vG 16 8 = -1 ∧ vG 17 8 = -1 ∧ vG 18 8 = nI (8 + 1) := by decide +kernel
  obtain ⟨a1_, a2_, a3_, a4_, a5_, a6_⟩ := ha_
  have hc_ : vG 14 (8 + 1) + 12 = nI 16 ∧ vG 83 (8 + 1) = 0 ∧ vG 15 (8 + 1) = 1 ∧ vG 16 (8 + 1) = -1 ∧ vG 17 (8 + 1) = -1 ∧ vG 18 (8 + 1) = -1 := by decide +kernel
  obtain ⟨c1_, c2_, c3_, c4_, c5_, c6_⟩ := hc_
  have hO := hS.1.ad_ (a' := 8 + 2) n1 (by omega) (bd_mk bf b1_ n4 b2_ b3_ b4_ b5_ b6_ (by omega) b7_) (fun j j1 j2 => by
    by_cases e_ : j = 8
    · subst e_; exact aR_mk af a1_ a2_ a3_ a4_ a5_ (Or.inr ⟨8 + 1, by omega, a6_, rfl⟩)
    · obtain rfl : j = 8 + 1 := (by omega)
      exact aR_mk af1 c1_ c2_ c3_ c4_ c5_ (by rw [show (MG x y z).2.2.1 18 (8 + 1) = -1 from c6_]; exact lkR_n))
  exact mm_weakK (kk ad3 C8 had3 hC ⟨hO, hS.2.1, hS.2.2, n0⟩ kc sz) (And.intro rfl (And.intro rfl (And.intro rfl (And.intro rfl trivial))))

theorem x11_j {G : mm_G} {A : Nat → Prop} {L : Nat × Nat} {d b1 b2 x y z xa : Nat} {Q : Option Value → mm_H → Prop} {h0 : mm_H} (hlt : lt_ G h0) (hL1 : b1 + 24 ≤ L.1) (hL2 : b2 + 186 ≤ L.2)  {ad : Nat → Nat → Nat} {C : cw_C} {h : mm_H} (hC : cw ad h0 C h) (hS : ST xa (MG x y z) 2 8 10 ad C) {s : Nat} (kc : KC 2 8 s (spL [99, 111, 108, 117, 109, 110]) (fun p => if p = 2 then some 7 else none) ad C) (sz : h.2 = (b1 + (2 + 2 * 6) + 2 + 1 + 1 + 1 + 2 + 1 + 1 + 1, b2 + (18 + 15 * 6) + 18 + 9 + 6 + 6 + 18 + 9 + 6 + 6)) (kk : ∀ ad C h, cw ad h0 C h → ST xa (MG x y z) (2 + 1) 8 10 ad C → (cN C 4 = 2 + 1 ∧ cN C 21 = 2 + 1 ∧ cN C 1 = 8) → h.2 = (b1 + (2 + 2 * 6) + 2 + 1 + 1 + 1 + 2 + 1 + 1 + 1, b2 + (18 + 15 * 6) + 18 + 9 + 6 + 6 + 18 + 9 + 6 + 6) → Q none h) : mm_Run G mX11_init A L (d + 8) 268 [(3, .ref (ad 4 2)), (2, .ref (ad 4 1)), (1, .ref (ad 4 0)), (0, .ref (ad 11 0))] [] h Q := by
  have n11 := hS.2.2.1.n11
  have n7 := hS.2.2.1.n7
  have q3_ := hS.2.2.1.2.2.1.2.2.2.1
  refine mm_aload_n (pc := 268) dX11_init_268 rfl (by first | trivial | assumption | exact mm_isr_rf _) ?_
  refine cw_grS (pc := 269) 11 0 3 hC (rfl) rfl (n11) dX11_init_269 fl_X11_23 rfl rfl rfl (q3_) ?_
  refine mm_aload_n (pc := 272) dX11_init_272 rfl (by first | trivial | assumption | exact mm_isr_rf _) ?_
  refine mm_aload_n (pc := 273) dX11_init_273 rfl (by first | trivial | assumption | exact mm_isr_rf _) ?_
  refine mm_iconst (pc := 274) (v := 0) dX11_init_274 (by decide) ?_
  refine mm_bipush (pc := 275) (v := (-7)) dX11_init_275 (by decide) ?_
  refine mm_callV (pc := 277) (As := [_, _, _, _]) (kd := ?kd_277_9) (fs := ?fs_277_9) dX11_init_277 vl_X11_88 (x7_S (d := d + 4) (x := x) (y := y) (z := z) (k := 2) (g := 8) (a := 10) hS kc (by decide) rfl (by decide) rfl hC) ?hc_277_9 ?hk_277_9 rfl rfl (Nat.le_of_ble_eq_true rfl) ?_; (case hc_277_9 => exact cw_cell (f := 7) hC rfl rfl n7); (case hk_277_9 => rfl)
  rintro _ hZ ⟨C9, hC, hS, hn, eZ, rfl⟩
  refine mm_vret (pc := 280) dX11_init_280 rfl ?_
  exact kk ad C9 hZ hC hS hn (by rw [eZ]; exact sz)

