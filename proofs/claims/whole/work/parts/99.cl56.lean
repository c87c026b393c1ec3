/-! the class's constructor: kinds are settled -/
theorem kg_k {M : mw_S} {g : Nat} (h : g < 2 ^ 31) : kg (mw_setS M 111 (nI g)) = g := by
  show (nI g).toNatClampNeg = g
  exact nI_clamp h
theorem cur1_b {p q g g' : Nat} (h : (if p = q then some g else none) = some g') : g' < g + 1 := by
  split at h
  · cases h; omega
  · cases h
section X7S
variable {G : mm_G} {L : Nat × Nat} {d : Nat} {h h0 : mm_H} {ad : Nat → Nat → Nat} {C C2 : cw_C} {x y z k g a s j : Nat} {cur : Nat → Option Nat} {W_ : Int64}
theorem kdH_G {S : Nat → Int32} (hk : k < 3) (hg : (if k = 0 then 6 else k + 6) = g) (hK : KC k g s W_ cur ad C) (hcur : ∀ q, q < 6 → cur q = if hG3 k q = true then some (if k = 0 then q else k + 5) else none) : kdH ad C (S, none, vG, wG, (MF x y z).2.2.2.2) k := by
  refine kdH_mk hK (fun q hq => ?_)
  have e : rm_has (MG x y z) q k = hG3 k q := has_G hk hq
  have e : rm_has (S, none, vG, wG, (MF x y z).2.2.2.2) q k = hG3 k q := e
  rw [e, hcur q hq]
  cases z : hG3 k q with
  | false => exact Or.inl ⟨rfl, if_neg (by decide)⟩
  | true =>
    refine Or.inr ⟨rfl, _, ?_, ((vG_h k hk q hq).2 z).1, if_pos rfl⟩
    rw [← hg]
    by_cases e0 : k = 0
    · rw [if_pos e0, if_pos e0]; exact hq
    · rw [if_neg e0, if_neg e0]; omega
theorem hBm_all (hk : k < 3) (hg : (if k = 0 then 6 else k + 6) = g) : ∀ i, i < k + 1 → hBm (mw_setS (MG x y z) 111 (nI g)) i := fun i hi => by
  refine hBm_G (x := x) (y := y) (z := z) (g := g) (S := mw_u sG 111 (nI g)) cu_eq ?_ (by omega) ?_
  · rw [← hg]; split <;> omega
  · rw [← hg]
    by_cases e0 : i = 0
    · rw [if_pos e0]; split <;> omega
    · rw [if_neg e0, if_neg (by omega)]; omega
theorem ST.se (h : ST (MG x y z) k g a ad C) (hk : k < 3) (hg : (if k = 0 then 6 else k + 6) = g) (kc : KC k g s W_ cur ad C) (hst : stF C C2 (mw_setS (MG x y z) 111 (nI g)) k) (hkS : kSt ad C2 (mw_setS (MG x y z) 111 (nI g)) ab3 k) : ST (MG x y z) (k + 1) g a ad (apC C2 k (ad 4 k)) ∧ cN (apC C2 k (ad 4 k)) 4 = k + 1 ∧ cN (apC C2 k (ad 4 k)) 21 = k + 1 ∧ cN (apC C2 k (ad 4 k)) 1 = g := by
  obtain ⟨hO, hR, hP, n0⟩ := h
  have hO : KO (mw_setS (MG x y z) 111 (nI g)) ab3 k g a ad C := hO
  have hg8 : g < 2 ^ 30 := by rw [← hg]; split <;> omega
  have hO2 : KO (mw_setS (MG x y z) 111 (nI g)) ab3 (k + 1) g a ad (apC C2 k (ad 4 k)) := hO.se hst kc.1.1 kc.1.2.1 hkS (fun i hi => hBm_all hk hg i (by omega)) (by rw [kg_k (by omega)]; exact hg8)
  exact ⟨⟨hO2, hR.se hst kc.1.1, hP.se hst, by rw [apC_N, hst.2.1, n0]⟩, by rw [apC_N, hst.2.1, kc.1.1], by rw [apC_N, hst.2.1, kc.1.2.1], by rw [apC_N, hst.2.1, kc.1.2.2]⟩

theorem x7_N (hS : ST (MG x y z) k g a ad C) (kc : KC k g s (spL (kNm.getD k [])) cur ad C) (hk : k < 3) (hg : (if k = 0 then 6 else k + 6) = g) (hcur : ∀ q, q < 6 → cur q = if hG3 k q = true then some (if k = 0 then q else k + 5) else none) (hab : ab3 k = none) (hC : cw ad h0 C h) : mm_Ok G mX7_settle L (d + 3) [.ref (ad 7 0), .ref (ad 4 k), .null, .int 0, .int (-7)] h (fun r h1 => ∃ C9, cw ad h0 C9 h1 ∧ ST (MG x y z) (k + 1) g a ad C9 ∧ (cN C9 4 = k + 1 ∧ cN C9 21 = k + 1 ∧ cN C9 1 = g) ∧ h1.2 = h.2 ∧ r = none) := by
  have hS' := hS
  obtain ⟨hO, hR, hP, n0⟩ := hS'
  have hg8 : g < 2 ^ 30 := by rw [← hg]; split <;> omega
  refine mm_Ok.post (x7_stN (d := d) (M := mw_setS (MG x y z) 111 (nI g)) (ab := ab3) (k := k) hR.1.1 hR.1.2 (by omega) hR.2.1 hR.2.2.1 (kf_le (by omega)) (by omega) (by rw [kc.1.1]; omega) (by rw [kc.1.2.1]; omega) hO.2.1 (fun g' hg' => hO.2.2.1 g' (by rw [← kc.1.2.2]; exact hg')) (by rw [kg_k (by omega)]; exact kc.1.2.2) (by rw [kg_k (by omega)]; exact hg8) (hBm_all hk hg) kc.2.1 kc.2.2.1 (kdH_G (x := x) (y := y) (z := z) hk hg kc hcur) (vG_k k hk).1.symm (vG_k k hk).2.1.symm hab hC) (fun r h1 zz => ?_)
  obtain ⟨C2, hst, hkS, hC2, e, rfl⟩ := zz
  obtain ⟨q1, q2⟩ := ST.se hS hk hg kc hst hkS
  exact ⟨_, hC2, q1, q2, e, rfl⟩

theorem x7_S (hS : ST (MG x y z) k g a ad C) (kc : KC k g s (spL (kNm.getD k [])) cur ad C) (hk : k < 3) (hg : (if k = 0 then 6 else k + 6) = g) (hcur : ∀ q, q < 6 → cur q = if hG3 k q = true then some (if k = 0 then q else k + 5) else none) (hab : ab3 k = some j) (hC : cw ad h0 C h) : mm_Ok G mX7_settle L (d + 3) [.ref (ad 7 0), .ref (ad 4 k), .ref (ad 4 j), .int 0, .int (-7)] h (fun r h1 => ∃ C9, cw ad h0 C9 h1 ∧ ST (MG x y z) (k + 1) g a ad C9 ∧ (cN C9 4 = k + 1 ∧ cN C9 21 = k + 1 ∧ cN C9 1 = g) ∧ h1.2 = h.2 ∧ r = none) := by
  have hS' := hS
  obtain ⟨hO, hR, hP, n0⟩ := hS'
  have hg8 : g < 2 ^ 30 := by rw [← hg]; split <;> omega
  refine mm_Ok.post (x7_stS (d := d) (M := mw_setS (MG x y z) 111 (nI g)) (ab := ab3) (k := k) hR.1.1 hR.1.2 (by omega) hR.2.1 hR.2.2.1 (kf_le (by omega)) (by omega) (by rw [kc.1.1]; omega) (by rw [kc.1.2.1]; omega) hO.2.1 (fun g' hg' => hO.2.2.1 g' (by rw [← kc.1.2.2]; exact hg')) (by rw [kg_k (by omega)]; exact kc.1.2.2) (by rw [kg_k (by omega)]; exact hg8) (hBm_all hk hg) kc.2.1 kc.2.2.1 (kdH_G (x := x) (y := y) (z := z) hk hg kc hcur) (vG_k k hk).1.symm (vG_k k hk).2.1.symm hab hC) (fun r h1 zz => ?_)
  obtain ⟨C2, hst, hkS, hC2, e, rfl⟩ := zz
  obtain ⟨q1, q2⟩ := ST.se hS hk hg kc hst hkS
  exact ⟨_, hC2, q1, q2, e, rfl⟩

end X7S

theorem x11_d {G : mm_G} {A : Nat → Prop} {L : Nat × Nat} {d b1 b2 x y z : Nat} {Q : Option Value → mm_H → Prop} {h0 : mm_H} (hlt : lt_ G h0) (hL1 : b1 + 24 ≤ L.1) (hL2 : b2 + 186 ≤ L.2)  {ad : Nat → Nat → Nat} {C : cw_C} {h : mm_H} (hC : cw ad h0 C h) (hS : ST (MG x y z) 0 6 6 ad C) {s : Nat} (kc : KC 0 6 s (spL [115, 116, 105, 108, 108]) (cur0 6) ad C) (sz : h.2 = (b1 + (2 + 2 * 6), b2 + (18 + 15 * 6))) (kk : ∀ ad C h, cw ad h0 C h → ST (MG x y z) (0 + 1) 6 6 ad C → (cN C 4 = 0 + 1 ∧ cN C 21 = 0 + 1 ∧ cN C 1 = 6) → h.2 = (b1 + (2 + 2 * 6), b2 + (18 + 15 * 6)) → mm_Run G mX11_init A L (d + 8) 151 [(1, .ref (ad 4 0)), (0, .ref (ad 11 0))] [] h Q) : mm_Run G mX11_init A L (d + 8) 139 [(1, .ref (ad 4 0)), (0, .ref (ad 11 0))] [] h Q := by
  have n11 := hS.2.2.1.n11
  have n7 := hS.2.2.1.n7
  have q3_ := hS.2.2.1.2.2.1.2.2.2.1
  refine mm_aload_n (pc := 139) dX11_init_139 rfl (by first | trivial | assumption | exact mm_isr_rf _) ?_
  refine cw_grS (pc := 140) 11 0 3 hC (rfl) rfl (n11) dX11_init_140 fl_X11_23 rfl rfl rfl (q3_) ?_
  refine mm_aload_n (pc := 143) dX11_init_143 rfl (by first | trivial | assumption | exact mm_isr_rf _) ?_
  refine mm_null (pc := 144) dX11_init_144 ?_
  refine mm_iconst (pc := 145) (v := 0) dX11_init_145 (by decide) ?_
  refine mm_bipush (pc := 146) (v := (-7)) dX11_init_146 (by decide) ?_
  refine mm_callV (pc := 148) (As := [_, _, _, _]) (kd := ?kd_148_1) (fs := ?fs_148_1) dX11_init_148 vl_X11_88 (x7_N (d := d + 4) (x := x) (y := y) (z := z) (k := 0) (g := 6) (a := 6) hS kc (by decide) rfl (by decide) rfl hC) ?hc_148_1 ?hk_148_1 rfl rfl (Nat.le_of_ble_eq_true rfl) ?_; (case hc_148_1 => exact cw_cell (f := 7) hC rfl rfl n7); (case hk_148_1 => rfl)
  rintro _ hZ ⟨C9, hC, hS, hn, eZ, rfl⟩
  exact mm_weakK (kk ad C9 hZ hC hS hn (by rw [eZ]; exact sz)) (And.intro rfl (And.intro rfl trivial))

theorem x11_e {G : mm_G} {A : Nat → Prop} {L : Nat × Nat} {d b1 b2 x y z : Nat} {Q : Option Value → mm_H → Prop} {h0 : mm_H} (hlt : lt_ G h0) (hL1 : b1 + 24 ≤ L.1) (hL2 : b2 + 186 ≤ L.2)  {ad : Nat → Nat → Nat} {C : cw_C} {h : mm_H} (hC : cw ad h0 C h) (hS0 : ST (MG x y z) 1 6 6 ad C) (hn : cN C 4 = 1 ∧ cN C 21 = 1 ∧ cN C 1 = 6) (sz : h.2 = (b1 + (2 + 2 * 6), b2 + (18 + 15 * 6))) (kk : ∀ ad C h, cw ad h0 C h → ST (MG x y z) 1 6 6 ad C → KC 1 6 6 (spL [112, 111, 116]) (fun _ => none) ad C → h.2 = (b1 + (2 + 2 * 6) + 2, b2 + (18 + 15 * 6) + 18) → mm_Run G mX11_init A L (d + 8) 165 [(2, .ref (ad 4 1)), (1, .ref (ad 4 0)), (0, .ref (ad 11 0))] [] h Q) : mm_Run G mX11_init A L (d + 8) 151 [(1, .ref (ad 4 0)), (0, .ref (ad 11 0))] [] h Q := by
  obtain ⟨s1_, s2_, s3_, n0⟩ := hS0
  have hS : KO (MG x y z) ab3 1 6 6 ad C ∧ RG 1 ad C ∧ PR ad C := ⟨s1_, s2_, s3_⟩
  clear s1_ s2_ s3_
  have n11 := hS.2.2.n11
  obtain ⟨n4, n21, n1⟩ := hn
  refine mm_new (pc := 151) dX11_init_151 nl_X11_56 (by rw [sz]; show b1 + (2 + 2 * 6) + 1 ≤ L.1; omega) (by rw [sz]; show b2 + (18 + 15 * 6) + 12 ≤ L.2; omega) ?_
  have hC := hC.new 4 (by decide) rfl rfl
  have en : cw_ad ad C 4 h.2.1 4 1 = h.2.1 := by have z_ := cw_ad_n (ad := ad) (C := C) (f := 4) (a := h.2.1); rw [n4] at z_; exact z_
  have n4c : 1 < cN (cw_new C 4) 4 := by rw [show cN (cw_new C 4) 4 = cN C 4 + 1 from cN_ext, n4]; omega
  rw [← en]
  refine mm_dup (pc := 154) dX11_init_154 rfl ?_
  refine mm_ldcS (pc := 155) (i := 1) dX11_init_155 rfl ?_
  refine mm_callS (pc := 157) (As := [_]) dX11_init_157 sl_X11_60 (sp_ok (d := d + 3) (cs := [112, 111, 116]) ((lt_.of hlt hC).t (i := 1) rfl) (show ltr [112, 111, 116] by unfold ltr; decide)) rfl rfl (Nat.le_of_ble_eq_true rfl) ?_
  rintro _ _ ⟨rfl, rfl⟩
  refine mm_iconst (pc := 160) (v := 0) dX11_init_160 (by decide) ?_
  refine mm_callI (pc := 161) (As := [_, _]) dX11_init_161 il_X11_64 (x4_init (d := d + 6) (k := 1) n4c (by show h.2.1 + 1 + 1 ≤ L.1; rw [sz]; show b1 + (2 + 2 * 6) + 1 + 1 ≤ L.1; omega) (by show h.2.2 + 12 + 6 ≤ L.2; rw [sz]; show b2 + (18 + 15 * 6) + 12 + 6 ≤ L.2; omega) hC) rfl rfl (Nat.le_of_ble_eq_true rfl) ?_
  rintro _ hA ⟨ad1, C1, hC, hA_, hkI, eS, rfl⟩
  obtain ⟨fo, kc, n0_⟩ := st_kind (ad := ad) (x := h.2.1) (g := 6) (a := 6) n4 n21 (by omega) (by omega) hA_ hkI
  rw [n1] at kc
  have n0 := n0_.trans n0
  have hS := ST.st hS fo (kf_le (by decide)) (gb_lt (by decide) (by decide))
  have e_ := hA_ 4 1 n4c
  rw [← fo.1 11 0 (n11)]
  rw [← fo.1 4 0 (by omega)]
  rw [← e_]
  have sz : hA.2 = (b1 + (2 + 2 * 6) + 2, b2 + (18 + 15 * 6) + 18) := by rw [eS]; exact congrArg (fun p : Nat × Nat => (p.1 + 1 + 1, p.2 + 12 + 6)) sz
  refine mm_astore_n (pc := 164) dX11_init_164 (by first | trivial | assumption | exact mm_isr_rf _) rfl (Nat.le_of_ble_eq_true rfl) ?_
  exact mm_weakK (kk ad1 C1 hA hC ⟨hS.1, hS.2.1, hS.2.2, n0⟩ kc sz) (And.intro rfl (And.intro rfl (And.intro rfl trivial)))

