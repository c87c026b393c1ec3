/-! the class's constructor: its kinds -/
theorem vG_b6 : ∀ i, i < 6 → (vG 98 i).toNatClampNeg = 0 ∧ vG 99 i = nI i ∧ vG 112 i = roH (nI i) ∧ vG 113 i = 0 ∧ vG 107 i = 0 ∧ vG 108 i = nI i ∧ vG 109 i = 1 := by decide +kernel
theorem vG_a6 : ∀ i, i < 6 → vG 14 i + 12 = nI 15 ∧ vG 83 i = 0 ∧ vG 15 i = nI i ∧ vG 16 i = -1 ∧ vG 17 i = -1 ∧ vG 18 i = -1 := by decide +kernel
theorem PR.n11 {xa : Nat} {ad : Nat → Nat → Nat} {C : cw_C} (h : PR xa ad C) : 0 < cN C 11 := by
  rw [h.1.2.2.2.1]; decide
theorem PR.n7 {xa : Nat} {ad : Nat → Nat → Nat} {C : cw_C} (h : PR xa ad C) : 0 < cN C 7 := by
  rw [h.1.2.1]; decide
theorem aR_mk {ad : Nat → Nat → Nat} {C : cw_C} {M : mw_S} {a w : Nat} {v : Int32} {o : Option Nat} (hA : AF a w v o C) (e14 : M.2.2.1 14 a + 12 = nI w) (e83 : M.2.2.1 83 a = 0) (e15 : M.2.2.1 15 a = v) (e16 : M.2.2.1 16 a = -1) (e17 : M.2.2.1 17 a = -1) (h18 : lkR ad (cN C 0) (M.2.2.1 18 a) o) : aR ad C M a := by
  obtain ⟨a0, a1, a2, a3, a4, a5⟩ := hA
  exact ⟨by rw [e14]; exact a0, by rw [e83]; exact a1, by rw [e15]; exact a2, by rw [e16, a3]; exact lkR_n, by rw [e17, a4]; exact lkR_n, by rw [a5]; exact h18⟩
theorem BF.re {k g q x y : Nat} {r l n : Int32} {ad : Nat → Nat → Nat} {C : cw_C} (h : BF k g q r l n (some x) ad C) (e : y = x) : BF k g q r l n (some y) ad C := by rw [e]; exact h
theorem AF.re {a w x y : Nat} {v : Int32} {C : cw_C} (h : AF a w v (some x) C) (e : y = x) : AF a w v (some y) C := by rw [e]; exact h
def cur0 (i q : Nat) : Option Nat := if q < i then some q else none
theorem cur0_s {i : Nat} : (fun p => if p = i then some i else cur0 i p) = cur0 (i + 1) := funext fun p => by
  unfold cur0
  by_cases e : p = i
  · subst e; rw [if_pos rfl, if_pos (by omega)]
  · rw [if_neg e]
    by_cases l : p < i
    · rw [if_pos l, if_pos (by omega)]
    · rw [if_neg l, if_neg (by omega)]
theorem cur0_b {i p g : Nat} (h : cur0 i p = some g) : g < i := by
  unfold cur0 at h
  split at h
  · cases h; assumption
  · cases h
def ST (xa : Nat) (M : mw_S) (k g a : Nat) (ad : Nat → Nat → Nat) (C : cw_C) : Prop := KO M ab3 k g a ad C ∧ RG k ad C ∧ PR xa ad C ∧ cN C 0 = a
theorem ST.st {M : mw_S} {k g a xa : Nat} {ad ad1 : Nat → Nat → Nat} {C C1 : cw_C} (h : KO M ab3 k g a ad C ∧ RG k ad C ∧ PR xa ad C) (z : fO k g a ad C ad1 C1) (hkf : kf_ok ab3 k) (hG : ∀ i q, i < k → q < 6 → rm_has M q i = true → gb M i q < g) : KO M ab3 k g a ad1 C1 ∧ RG k ad1 C1 ∧ PR xa ad1 C1 := ⟨h.1.st z hkf hG, h.2.1.st z, h.2.2.st z⟩
theorem kf_le {k : Nat} (h : k ≤ 3) : kf_ok ab3 k := fun i j hi e => kf_3 i j (by omega) e
theorem gb_lt {x y z k g : Nat} (hk : k ≤ 3) (hg : ∀ i, i < k → ∀ q, q < 6 → (if i = 0 then q else i + 5) < g) : ∀ i q, i < k → q < 6 → rm_has (MG x y z) q i = true → gb (MG x y z) i q < g := fun i q hi hq h => by
  rw [gb_G (by omega) hq h]; exact hg i hi q hq

theorem x11_b {G : mm_G} {A : Nat → Prop} {L : Nat × Nat} {d b1 b2 x y z xa : Nat} {Q : Option Value → mm_H → Prop} {h0 : mm_H} (hlt : lt_ G h0) (hL1 : b1 + 24 ≤ L.1) (hL2 : b2 + 186 ≤ L.2)  {h : mm_H} {ad : Nat → Nat → Nat} {C : cw_C} (hS : KO (MG x y z) ab3 0 0 0 ad C ∧ RG 0 ad C ∧ PR xa ad C) (n4 : cN C 4 = 0) (n21 : cN C 21 = 0) (n1 : cN C 1 = 0) (n0 : cN C 0 = 0) (hC : cw ad h0 C h) (sz : h.2 = (b1 + 0, b2 + 0)) (kk : ∀ ad C h, cw ad h0 C h → ST xa (MG x y z) 0 0 0 ad C → KC 0 0 0 (spL [115, 116, 105, 108, 108]) (cur0 0) ad C → h.2 = (b1 + 0 + 2, b2 + 0 + 18) → mm_Run G mX11_init A L (d + 8) 97 [(2, .int (nI 0)), (1, .ref (ad 4 0)), (0, .ref (ad 11 0))] [] h Q) : mm_Run G mX11_init A L (d + 8) 81 [(0, .ref (ad 11 0))] [] h Q := by
  have n11 := hS.2.2.n11
  refine mm_new (pc := 81) dX11_init_81 nl_X11_56 (by rw [sz]; show b1 + 0 + 1 ≤ L.1; omega) (by rw [sz]; show b2 + 0 + 12 ≤ L.2; omega) ?_
  have hC := hC.new 4 (by decide) rfl rfl
  have en : cw_ad ad C 4 h.2.1 4 0 = h.2.1 := by have z_ := cw_ad_n (ad := ad) (C := C) (f := 4) (a := h.2.1); rw [n4] at z_; exact z_
  have n4c : 0 < cN (cw_new C 4) 4 := by rw [show cN (cw_new C 4) 4 = cN C 4 + 1 from cN_ext, n4]; omega
  rw [← en]
  refine mm_dup (pc := 84) dX11_init_84 rfl ?_
  refine mm_ldcS (pc := 85) (i := 0) dX11_init_85 rfl ?_
  refine mm_callS (pc := 87) (As := [_]) dX11_init_87 sl_X11_60 (sp_ok (d := d + 3) (cs := [115, 116, 105, 108, 108]) ((lt_.of hlt hC).t (i := 0) rfl) (show ltr [115, 116, 105, 108, 108] by unfold ltr; decide)) rfl rfl (Nat.le_of_ble_eq_true rfl) ?_
  rintro _ _ ⟨rfl, rfl⟩
  refine mm_iconst (pc := 90) (v := 0) dX11_init_90 (by decide) ?_
  refine mm_callI (pc := 91) (As := [_, _]) dX11_init_91 il_X11_64 (x4_init (d := d + 6) (k := 0) n4c (by show h.2.1 + 1 + 1 ≤ L.1; rw [sz]; show b1 + 0 + 1 + 1 ≤ L.1; omega) (by show h.2.2 + 12 + 6 ≤ L.2; rw [sz]; show b2 + 0 + 12 + 6 ≤ L.2; omega) hC) rfl rfl (Nat.le_of_ble_eq_true rfl) ?_
  rintro _ hA ⟨ad1, C1, hC, hA_, hkI, eS, rfl⟩
  obtain ⟨fo, kc, n0_⟩ := st_kind (ad := ad) (x := h.2.1) (g := 0) (a := 0) n4 n21 (by omega) (by omega) hA_ hkI
  rw [n1] at kc
  have n0 := n0_.trans n0
  have hS := ST.st hS fo (kf_le (by decide)) (gb_lt (by decide) (by decide))
  have e_ := hA_ 4 0 n4c
  rw [← fo.1 11 0 (n11)]
  rw [← e_]
  have sz : hA.2 = (b1 + 0 + 2, b2 + 0 + 18) := by rw [eS]; exact congrArg (fun p : Nat × Nat => (p.1 + 1 + 1, p.2 + 12 + 6)) sz
  refine mm_astore_n (pc := 94) dX11_init_94 (by first | trivial | assumption | exact mm_isr_rf _) rfl (Nat.le_of_ble_eq_true rfl) ?_
  refine mm_iconst (pc := 95) (v := 0) dX11_init_95 (by decide) ?_
  refine mm_istore_n (pc := 96) dX11_init_96 rfl (Nat.le_of_ble_eq_true rfl) ?_
  exact mm_weakK (kk ad1 C1 hA hC ⟨hS.1, hS.2.1, hS.2.2, n0⟩ kc sz) (And.intro rfl (And.intro rfl (And.intro rfl trivial)))

theorem x11_c {G : mm_G} {A : Nat → Prop} {L : Nat × Nat} {d b1 b2 x y z xa : Nat} {Q : Option Value → mm_H → Prop} {h0 : mm_H} (hlt : lt_ G h0) (hL1 : b1 + 24 ≤ L.1) (hL2 : b2 + 186 ≤ L.2)  (kk : ∀ ad C h, cw ad h0 C h → ST xa (MG x y z) 0 6 6 ad C → KC 0 6 0 (spL [115, 116, 105, 108, 108]) (cur0 6) ad C → h.2 = (b1 + (2 + 2 * 6), b2 + (18 + 15 * 6)) → mm_Run G mX11_init A L (d + 8) 139 [(1, .ref (ad 4 0)), (0, .ref (ad 11 0))] [] h Q) : ∀ (v i : Nat) (ad : Nat → Nat → Nat) (C : cw_C) (h : mm_H), i + v = 6 → cw ad h0 C h → ST xa (MG x y z) 0 i i ad C → KC 0 i 0 (spL [115, 116, 105, 108, 108]) (cur0 i) ad C → h.2 = (b1 + (2 + 2 * i), b2 + (18 + 15 * i)) → mm_Run G mX11_init A L (d + 8) 97 [(2, .int (nI i)), (1, .ref (ad 4 0)), (0, .ref (ad 11 0))] [] h Q := by
  intro v
  induction v with
  | zero =>
    intro i ad C h hv hC hS kc sz
    obtain ⟨s1_, s2_, s3_, n0⟩ := hS
    have hS : KO (MG x y z) ab3 0 i i ad C ∧ RG 0 ad C ∧ PR xa ad C := ⟨s1_, s2_, s3_⟩
    refine mm_iload_n (pc := 97) dX11_init_97 rfl ?_
    refine mm_bipush (pc := 98) (v := 6) dX11_init_98 (by decide) ?_
    refine mm_icmp_ge (pc := 100) (tgt := 139) dX11_init_100 (by decide) (fun c100 => ?_) (fun c100 => absurd ((nI_leI (a := 6) (by decide) (by omega)).mpr (by omega)) c100)
    obtain rfl : i = 6 := (by omega)
    exact mm_weakK (kk ad C h hC ⟨hS.1, hS.2.1, hS.2.2, n0⟩ kc sz) (And.intro rfl (And.intro rfl trivial))
  | succ v ih =>
    intro i ad C h hv hC hS kc sz
    obtain ⟨s1_, s2_, s3_, n0⟩ := hS
    have hS : KO (MG x y z) ab3 0 i i ad C ∧ RG 0 ad C ∧ PR xa ad C := ⟨s1_, s2_, s3_⟩
    clear s1_ s2_ s3_
    have hi6 : i < 6 := by omega
    refine mm_iload_n (pc := 97) dX11_init_97 rfl ?_
    refine mm_bipush (pc := 98) (v := 6) dX11_init_98 (by decide) ?_
    refine mm_icmp_ge (pc := 100) (tgt := 139) dX11_init_100 (by decide) (fun c100 => absurd c100 (nI_ge (b := (6 : Nat)) hi6 (by decide))) (fun c100 => ?_)
    refine mm_aload_n (pc := 103) dX11_init_103 rfl (by first | trivial | assumption | exact mm_isr_rf _) ?_
    refine mm_new (pc := 104) dX11_init_104 nl_X11_67 (by rw [sz]; show b1 + (2 + 2 * i) + 1 ≤ L.1; omega) (by rw [sz]; show b2 + (18 + 15 * i) + 9 ≤ L.2; omega) ?_
    have hC := hC.new 1 (by decide) rfl rfl
    have en : cw_ad ad C 1 h.2.1 1 (i) = h.2.1 := by have z_ := cw_ad_n (ad := ad) (C := C) (f := 1) (a := h.2.1); rw [kc.1.2.2] at z_; exact z_
    have m1 : i < cN (cw_new C 1) 1 := by rw [show cN (cw_new C 1) 1 = cN C 1 + 1 from cN_ext, kc.1.2.2]; omega
    have m4_ : 0 < cN C 4 := by rw [kc.1.1]; omega
    rw [← en]
    refine mm_dup (pc := 107) dX11_init_107 rfl ?_
    refine mm_aload_n (pc := 108) dX11_init_108 rfl (by first | trivial | assumption | exact mm_isr_rf _) ?_
    refine mm_iload_n (pc := 109) dX11_init_109 rfl ?_
    refine mm_iload_n (pc := 110) dX11_init_110 rfl ?_
    refine mm_callS (pc := 111) (As := [_]) dX11_init_111 sl_X11_69 (roH_ok (d := d + 7) (i := nI i)) rfl rfl (Nat.le_of_ble_eq_true rfl) ?_
    rintro _ _ ⟨rfl, rfl⟩
    refine mm_iconst (pc := 114) (v := 0) dX11_init_114 (by decide) ?_
    refine mm_iconst (pc := 115) (v := 0) dX11_init_115 (by decide) ?_
    refine mm_callI (pc := 116) (As := [_, _, _, _, _]) dX11_init_116 il_X11_73 (ok_X1_init (d := d + 6) (Or.inl rfl) (cw_cell (f := 1) hC rfl rfl m1)) rfl rfl (Nat.le_of_ble_eq_true rfl) ?_
    rintro _ hB ⟨rfl, eB⟩
    have hC := hC.row 1 (i) (by decide) m1 (fun j => [0, nI (i), roH (nI i), 0, 0].getD j 0) (fun _ => 0) (fun j => bif Nat.beq j 0 then some (ad 4 0) else none) eB
    have hC : cw (cw_ad ad C 1 h.2.1) h0 (bd9 (cw_new C 1) (i) (ad 4 0) (nI (i)) (roH (nI i)) (0) 0) hB := hC
    have szB : hB.2 = (h.2.1 + 1, h.2.2 + 9) := by rw [eB]; rfl
    obtain ⟨v4, v1, v21, v11, vh, v10⟩ := gv_pre (q := i) (x := h.2.1) (r := roH (nI i)) (l := 0) kc
    have e4 : cw_ad ad C 1 h.2.1 4 0 = ad 4 0 := cw_ad_o (by rw [kc.1.1]; omega)
    rw [← e4]
    refine mm_callV (pc := 119) (As := [_]) (kd := ?kd_119_1) (fs := ?fs_119_1) dX11_init_119 vl_X11_76 (gv_any (d := d + 6) (0) v4 v1 v21 hi6 v11 vh v10 hC) ?hc_119_1 ?hk_119_1 rfl rfl (Nat.le_of_ble_eq_true rfl) ?_; (case hc_119_1 => exact cw_cell (f := 4) hC rfl rfl v4); (case hk_119_1 => rfl)
    rintro _ hD ⟨C6, hC, eD, rfl, hgv⟩
    obtain ⟨fo, kc, n0_, bf⟩ := st_body (a := i) kc (by omega) (Nat.zero_le _) hi6 (if_neg (Nat.lt_irrefl _)) (fun p g_ _ z_ => cur0_b z_) hgv
    have n0 := n0_.trans n0
    have n11 := hS.2.2.n11
    rw [← fo.1 11 0 (n11)]
    have hS := ST.st hS fo (kf_le (by decide)) (gb_lt (by decide) (fun _ h_ => absurd h_ (Nat.not_lt_zero _)))
    have sz : hD.2 = (b1 + (2 + 2 * i) + 1, b2 + (18 + 15 * i) + 9) := by rw [eD, szB]; exact congrArg (fun p : Nat × Nat => (p.1 + 1, p.2 + 9)) sz
    have eb : cR C6 21 0 (i) = some (cw_ad ad C 1 h.2.1 1 (i)) := by
      rw [kc.2.2.2.2 (i) hi6]
      show (if _ = _ then some (i) else _).map _ = _
      rw [if_pos rfl]; rfl
    generalize cw_ad ad C 1 h.2.1 = ad1 at *
    clear hgv
    have n4 : 0 < cN C6 4 := by rw [kc.1.1]; omega
    have n21 : 0 < cN C6 21 := by rw [kc.1.2.1]; omega
    have n1 : i < cN C6 1 := by rw [kc.1.2.2]; omega
    refine mm_aload_n (pc := 122) dX11_init_122 rfl (by first | trivial | assumption | exact mm_isr_rf _) ?_
    refine mm_iload_n (pc := 123) dX11_init_123 rfl ?_
    refine mm_callV (pc := 124) (As := [_]) (kd := ?kd_124_2) (fs := ?fs_124_2) dX11_init_124 vl_X11_80 (bo_w (d := d + 7) (k := 0) (q := i) n4 n21 hi6 kc.2.2.1 hC) ?hc_124_2 ?hk_124_2 rfl rfl (Nat.le_of_ble_eq_true rfl) ?_; (case hc_124_2 => exact cw_cell (f := 4) hC rfl rfl n4); (case hk_124_2 => rfl)
    rintro _ hD ⟨rfl, rfl⟩
    rw [eb]
    refine mm_bipush (pc := 127) (v := 15) dX11_init_127 (by decide) ?_
    refine mm_iload_n (pc := 129) dX11_init_129 rfl ?_
    refine mm_callS (pc := 130) (As := [_, _, _]) dX11_init_130 sl_X11_84 (ah_0 (d := d + 5) (w := 15) (g := i) n1 (by rw [sz]; show b1 + (2 + 2 * i) + 1 + 1 ≤ L.1; omega) (by rw [sz]; show b2 + (18 + 15 * i) + 9 + 6 ≤ L.2; omega) bf.2.2.2.2.2.1 hC) rfl rfl (Nat.le_of_ble_eq_true rfl) ?_
    rintro _ had2 ⟨C7, hC, eC7, ead2, rfl⟩
    have n0o := n0
    obtain ⟨fo, kc, n0, bf, af⟩ := st_a0 (x := hD.2.1) (w := 15) (v := nI i) kc n0 (fun p g_ _ z_ => by have z_ : cur0 (i + 1) p = some g_ := (by rw [← cur0_s]; exact z_); exact cur0_b z_) bf
    have ea : cw_ad ad1 C6 0 hD.2.1 0 (i) = hD.2.1 := by have z_ := cw_ad_n (ad := ad1) (C := C6) (f := 0) (a := hD.2.1); rw [n0o] at z_; exact z_
    have bf := bf.re ea
    have n11 := hS.2.2.n11
    rw [← fo.1 11 0 (n11)]
    rw [← fo.1 4 0 (n4)]
    have hS := ST.st hS fo (kf_le (by decide)) (gb_lt (by decide) (fun _ h_ => absurd h_ (Nat.not_lt_zero _)))
    rw [← eC7] at fo kc n0 bf af hS
    have sz : had2.2 = (b1 + (2 + 2 * i) + 1 + 1, b2 + (18 + 15 * i) + 9 + 6) := by rw [ead2]; exact congrArg (fun p : Nat × Nat => (p.1 + 1, p.2 + 6)) sz
    generalize cw_ad ad1 C6 0 hD.2.1 = ad2 at *
    clear eC7 ea
    have n4 : 0 < cN C7 4 := by rw [kc.1.1]; omega
    have n21 : 0 < cN C7 21 := by rw [kc.1.2.1]; omega
    have n1 : i < cN C7 1 := by rw [kc.1.2.2]; omega
    refine mm_iinc (pc := 133) dX11_init_133 rfl rfl rfl (Nat.le_of_ble_eq_true rfl) ?_
    refine mm_goto (pc := 136) (tgt := 97) dX11_init_136 (by decide) ?_
    obtain ⟨b1_, b2_, b3_, b4_, b5_, b6_, b7_⟩ := vG_b6 i hi6
    obtain ⟨a1_, a2_, a3_, a4_, a5_, a6_⟩ := vG_a6 i hi6
    have hO := hS.1.ad_ (a' := i + 1) n1 (by omega) (bd_mk bf b1_ n4 b2_ b3_ b4_ b5_ b6_ (by omega) b7_) (fun j j1 j2 => by obtain rfl : j = i := (by omega); exact aR_mk af a1_ a2_ a3_ a4_ a5_ (by rw [show (MG x y z).2.2.1 18 j = -1 from a6_]; exact lkR_n))
    rw [cur0_s] at kc
    exact mm_weakK (ih (i + 1) ad2 C7 had2 (by omega) hC ⟨hO, hS.2.1, hS.2.2, n0⟩ kc (by rw [sz]; exact Prod.ext (by show b1 + (2 + 2 * i) + 1 + 1 = b1 + (2 + 2 * (i + 1)); omega) (by show b2 + (18 + 15 * i) + 9 + 6 = b2 + (18 + 15 * (i + 1)); omega))) (And.intro (congrArg some (congrArg Value.int nI_p1)) (And.intro rfl (And.intro rfl trivial)))

