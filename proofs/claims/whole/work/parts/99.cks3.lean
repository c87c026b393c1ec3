/-! the class's checker -/
def k2 (C C1 : cw_C) : Prop := ∀ g, (¬ g = 2 → C1 g = C g) ∧ cN C1 g = cN C g ∧ (∀ i j, cR C1 g i j = cR C g i j) ∧ (cI C1 2 0 0 = 0 → cI C 2 0 0 = 0 ∧ cI C1 2 0 1 = cI C 2 0 1)
theorem k2.refl (C : cw_C) : k2 C C := fun _ => ⟨fun _ => rfl, rfl, fun _ _ => rfl, fun z => ⟨z, rfl⟩⟩
theorem k2.trans {C C1 C2 : cw_C} (a : k2 C C1) (b : k2 C1 C2) : k2 C C2 := fun g => ⟨fun hg => ((b g).1 hg).trans ((a g).1 hg), (b g).2.1.trans (a g).2.1, fun i j => ((b g).2.2.1 i j).trans ((a g).2.2.1 i j), fun z => ⟨((a g).2.2.2 ((b g).2.2.2 z).1).1, ((b g).2.2.2 z).2.trans ((a g).2.2.2 ((b g).2.2.2 z).1).2⟩⟩
/-- kinds below n are settled, bodies and actions stand -/
def ckE (ad : Nat → Nat → Nat) (C : cw_C) (M : mw_S) (ab : Nat → Option Nat) (n : Nat) : Prop := (kf_ok ab n ∧ n ≤ 50 ∧ n ≤ cN C 4 ∧ n ≤ cN C 21) ∧ (∀ i, i < n → kSt ad C M ab i) ∧ (∀ g, g < cN C 1 → bdR ad C M g) ∧ (cN C 1 = kg M ∧ kg M < 2 ^ 30) ∧ (∀ i, i < n → hBm M i) ∧ aA ad C M
theorem ckE.xk {ad : Nat → Nat → Nat} {h0 h : mm_H} {C : cw_C} {M : mw_S} {ab : Nat → Option Nat} {n : Nat} (hE : ckE ad C M ab n) (hC : cw ad h0 C h) : xk h (xkT ad C M ab) n := xk_of hC hE.1.1 hE.1.2.1 hE.1.2.2.1 hE.1.2.2.2 (fun i hi => (hE.2.1 i hi).1) hE.2.2.1 hE.2.2.2.1.1 hE.2.2.2.1.2 hE.2.2.2.2.1
theorem ckE.same {ad : Nat → Nat → Nat} {C C1 : cw_C} {M : mw_S} {ab : Nat → Option Nat} {n : Nat} (hE : ckE ad C M ab n) (e0 : C1 0 = C 0) (e1 : C1 1 = C 1) (e4 : C1 4 = C 4) (e21 : C1 21 = C 21) : ckE ad C1 M ab n := by
  obtain ⟨⟨a1, a2, a3, a4⟩, b, c, ⟨d1, d2⟩, e, f⟩ := hE
  refine ⟨⟨a1, a2, by rw [cN_o e4]; exact a3, by rw [cN_o e21]; exact a4⟩, fun i hi => ?_, fun g hg => ?_, ⟨by rw [cN_o e1]; exact d1, d2⟩, e, f.same e0 (fun _ _ => rfl) rfl rfl rfl rfl rfl rfl rfl⟩
  · obtain ⟨⟨k0, k4, k5, k6_, k7, k8, k11, kH⟩, ko⟩ := b i hi
    refine ⟨?_, fun q hq hh u hu => by rw [cL_o e1]; exact ko q hq hh u hu⟩
    unfold kS0
    rw [cL_o e4, cI_o e4, cR_o e4, cI_o e4, cI_o e4, cI_o e4, cR_o e4]
    exact ⟨k0, k4, k5, k6_, k7, k8, k11, kH.same e21 (cN_o e1)⟩
  · rw [cN_o e1] at hg
    exact (c g hg).mono (fun j => cI_o e1) (fun j _ => cR_o e1) (by rw [cN_o e4]; exact Nat.le_refl _) (fun _ _ => rfl) (by rw [cN_o e0]; exact Nat.le_refl _) (fun _ _ => rfl) (fun _ _ => rfl)
theorem ckE.k2 {ad : Nat → Nat → Nat} {C C1 : cw_C} {M : mw_S} {ab : Nat → Option Nat} {n : Nat} (hE : ckE ad C M ab n) (y : k2 C C1) : ckE ad C1 M ab n := hE.same ((y 0).1 (by decide)) ((y 1).1 (by decide)) ((y 4).1 (by decide)) ((y 21).1 (by decide))
/-- the body that a kind sees -/
theorem ck_res {G : mm_G} {L : Nat × Nat} {d : Nat} {h h0 : mm_H} {ad : Nat → Nat → Nat} {C : cw_C} {M : mw_S} {ab : Nat → Option Nat} {n k q : Nat} {c0 : Option Nat} (hE : ckE ad C M ab n) (hC : cw ad h0 C h) (hk : k < n) (hq : q < 6) (hc0 : kf_lt n c0) : mm_Ok G mX4_resolve L (d + 1) [.ref (ad 4 k), .int (nI q), va_rf (c0.map (ad 4))] h (fun r h1 => h1 = h ∧ r = some (va_rf ((rn_fnd M ab k q c0).map (fun x => ad 1 (gb M x q))))) := by
  refine mm_Ok.post (ok_X4_resolve (T := xkT ad C M ab) (hE.xk hC) hk hq hc0) ?_
  rintro r h1 ⟨a, b⟩
  refine ⟨a, ?_⟩
  rw [b]
  have e : (fun x => (xbO (xkT ad C M ab) x q).isSome && (Nat.beq x k || xsees (xkT ad C M ab) q k x)) = (fun x => rm_has M q x && (Nat.beq x k || rm_sees M q k x)) := by
    funext x
    rw [show (xbO (xkT ad C M ab) x q).isSome = rm_has M q x from xbo_is]
    rfl
  rw [e]
  show some (va_rf ((rn_fnd M ab k q c0).bind (fun x => xbo ad M x q))) = _
  congr 2
  cases z : rn_fnd M ab k q c0 with
  | none => rfl
  | some x =>
    have hp : kf_lt n c0 := hc0
    have hs := (kfind_sat hE.1.1 (by have := hE.1.2.1; omega) n c0 x hp hp z).1
    have hs : rm_has M q x = true := (Bool.and_eq_true_iff.mp hs).1
    show xbo ad M x q = _
    unfold xbo
    rw [if_pos hs]
    rfl
theorem ck_bo {G : mm_G} {L : Nat × Nat} {d : Nat} {h h0 : mm_H} {ad : Nat → Nat → Nat} {C : cw_C} {M : mw_S} {ab : Nat → Option Nat} {n i q : Nat} (hE : ckE ad C M ab n) (hC : cw ad h0 C h) (hi : i < n) (hq : q < 6) : mm_Ok G mX4_bodyOf L d [.ref (ad 4 i), .int (nI q)] h (fun r h1 => h1 = h ∧ r = some (va_rf (xbo ad M i q))) := xk_bodyOf (T := xkT ad C M ab) (hE.xk hC) hi hq rfl
theorem ck_sf {G : mm_G} {L : Nat × Nat} {d : Nat} {h h0 : mm_H} {ad : Nat → Nat → Nat} {C : cw_C} {M : mw_S} {ab : Nat → Option Nat} {n j g : Nat} (hE : ckE ad C M ab n) (hC : cw ad h0 C h) (hj : j < n) (hg : g < cN C 1) : mm_Ok G mX1_standsFor L (d + 1) [.ref (ad 1 g), .ref (ad 4 j)] h (fun r h1 => h1 = h ∧ r = some (.int (bI (xb (cL C 1 g 7) j)))) := by
  have hcb : h.1 (ad 1 g) = some (1, [va_rf (cR C 1 g 0), .int (cI C 1 g 1), .int (cI C 1 g 2), .int (cI C 1 g 3), .int (cI C 1 g 4), va_rf (cR C 1 g 5), .int (cI C 1 g 6), .long (cL C 1 g 7), va_rf (cR C 1 g 8)]) := hC.1 1 g (by decide) hg
  obtain ⟨x1, x2, x3, l1, l2, hck⟩ := (hE.xk hC).2.2.2.1 j hj
  refine mm_Ok.post (ok_X1_standsFor hcb hck) ?_
  rintro r h1 ⟨a, b⟩
  refine ⟨a, ?_⟩
  rw [b]
  have hj64 : j < 64 := by have := hE.1.2.1; omega
  cases z : xb (cL C 1 g 7) j with
  | false => rw [if_pos ((xb_test hj64).mpr z)]; rfl
  | true => rw [if_neg (fun y => by rw [(xb_test hj64).mp y] at z; cases z)]; rfl
/-- the fault that an action has, 0 if none -/
noncomputable def cA (M : mw_S) (ab : Nat → Option Nat) (k q y : Nat) : Nat := if M.2.2.1 14 y = 1 then (if rn_fnd M ab k q (ab k) = none then 6 else 0) else if M.2.2.1 14 y = 2 then (if rn_fnd M ab k (M.2.2.1 15 y).toNatClampNeg (some k) = none then 6 else 0) else if M.2.2.1 14 y = 8 then (if q = 0 then 0 else 7) else 0
/-- one item was looked at -/
def ck1 (ad : Nat → Nat → Nat) (h0 : mm_H) (C : cw_C) (h : mm_H) (f : Nat) (p : Int32) (r : Option Value) (h1 : mm_H) : Prop := r = none ∧ ∃ C1, cw ad h0 C1 h1 ∧ k2 C C1 ∧ h1.2 = h.2 ∧ ((f = 0 ∧ cI C1 2 0 0 = 0) ∨ (¬ f = 0 ∧ cI C1 2 0 0 = nI f ∧ cI C1 2 0 1 = p))

theorem ck_bl {G : mm_G} {L : Nat × Nat} {d : Nat} {h : mm_H} {h0 : mm_H} {ad : Nat → Nat → Nat} {C : cw_C} {x p : Int32} (n2 : 0 < cN C 2) (h00 : cI C 2 0 0 = 0) (hx0 : ¬ x = 0) (hC : cw ad h0 C h) : mm_Ok G mX2_blame L (d) [.ref (ad 2 0), .int x, .int p] h (fun r h1 => r = none ∧ ∃ C1, cw ad h0 C1 h1 ∧ k2 C C1 ∧ h1.2 = h.2 ∧ cI C1 2 0 0 = x ∧ cI C1 2 0 1 = p) := by
  refine mm_Ok.of [(0, .ref (ad 2 0)), (1, .int x), (2, .int p)] rfl kX2_blame.2.2.2.2.2 rfl (fun A => ?_)
  refine mm_aload_n (pc := 0) dX2_blame_0 rfl (by first | trivial | assumption | exact mm_isr_rf _) ?_
  refine cw_gi (pc := 1) 2 _ 0 hC (rfl) rfl (n2) dX2_blame_1 fl_X2_9 rfl rfl rfl ?_
  refine mm_if_ne (pc := 4) (tgt := 17) dX2_blame_4 (by decide) (fun c4 => absurd h00 c4) (fun c4 => ?_)
  refine mm_aload_n (pc := 7) dX2_blame_7 rfl (by first | trivial | assumption | exact mm_isr_rf _) ?_
  refine mm_iload_n (pc := 8) dX2_blame_8 rfl ?_
  refine cw_pi (pc := 9) 2 _ 0 hC (rfl) rfl (n2) dX2_blame_9 (pl_X2_9 _) rfl rfl (rfl) (rfl) (fun h9 hC e9 => ?_)
  refine mm_aload_n (pc := 12) dX2_blame_12 rfl (by first | trivial | assumption | exact mm_isr_rf _) ?_
  refine mm_iload_n (pc := 13) dX2_blame_13 rfl ?_
  refine cw_pi (pc := 14) 2 _ 1 hC (rfl) rfl ((by rw [cw_sI_N]; exact n2)) dX2_blame_14 (pl_X2_15 _) rfl rfl (rfl) (rfl) (fun h14 hC e14 => ?_)
  refine mm_vret (pc := 17) dX2_blame_17 rfl ?_
  exact ⟨rfl, _, hC, fun g => ⟨fun hg => (cw_sI_o hg).trans (cw_sI_o hg), cw_sI_N.trans cw_sI_N, fun i j => cR_sI.trans cR_sI, fun z => absurd ((by rw [cI_sI_n (by omega), cI_sI_e] : cI (cw_sI (cw_sI C 2 0 0 x) 2 0 1 p) 2 0 0 = x).symm.trans z) hx0⟩, by rw [e14, e9], by rw [cI_sI_n (by omega), cI_sI_e], cI_sI_e⟩

theorem kf_ab {ab : Nat → Option Nat} {n k : Nat} (h : kf_ok ab n) (hk : k < n) : kf_lt n (ab k) := by
  cases z : ab k with
  | none => trivial
  | some x => exact Nat.lt_trans (h k x hk z) hk

theorem ca70 {G : mm_G} {L : Nat × Nat} {d : Nat} {h0 h : mm_H} {ad : Nat → Nat → Nat} {C : cw_C} {y a : Nat} {A : Nat → Prop} {v1 : Value} (n0 : y < cN C 0) (h20 : ¬ cI C 0 y 0 = 20) (hC : cw ad h0 C h) : mm_Run G mX2_checkAction A L (d + 2) 70 [(0, .ref a), (1, v1), (2, .ref (ad 0 y))] [] h (fun r h1 => r = none ∧ h1 = h) := by
  refine mm_aload_n (pc := 70) dX2_checkAction_70 rfl (by first | trivial | assumption | exact mm_isr_rf _) ?_
  refine cw_gi (pc := 71) 0 y 0 hC (rfl) rfl (n0) dX2_checkAction_71 fl_X2_155 rfl rfl rfl ?_
  refine mm_bipush (pc := 74) (v := 20) dX2_checkAction_74 (by decide) ?_
  refine mm_icmp_ne (pc := 76) (tgt := 96) dX2_checkAction_76 (by decide) (fun c76 => ?_) (fun c76 => absurd c76 h20)
  refine mm_vret (pc := 96) dX2_checkAction_96 rfl ?_
  exact ⟨rfl, rfl⟩

theorem ca39 {G : mm_G} {L : Nat × Nat} {d : Nat} {h0 h : mm_H} {ad : Nat → Nat → Nat} {C : cw_C} {y a : Nat} {A : Nat → Prop} {v1 : Value} (n0 : y < cN C 0) (h14 : ¬ cI C 0 y 0 = 14) (h20 : ¬ cI C 0 y 0 = 20) (hC : cw ad h0 C h) : mm_Run G mX2_checkAction A L (d + 2) 39 [(0, .ref a), (1, v1), (2, .ref (ad 0 y))] [] h (fun r h1 => r = none ∧ h1 = h) := by
  refine mm_aload_n (pc := 39) dX2_checkAction_39 rfl (by first | trivial | assumption | exact mm_isr_rf _) ?_
  refine cw_gi (pc := 40) 0 y 0 hC (rfl) rfl (n0) dX2_checkAction_40 fl_X2_155 rfl rfl rfl ?_
  refine mm_bipush (pc := 43) (v := 14) dX2_checkAction_43 (by decide) ?_
  refine mm_icmp_ne (pc := 45) (tgt := 70) dX2_checkAction_45 (by decide) (fun c45 => ?_) (fun c45 => absurd c45 h14)
  refine mm_aload_n (pc := 70) dX2_checkAction_70 rfl (by first | trivial | assumption | exact mm_isr_rf _) ?_
  refine cw_gi (pc := 71) 0 y 0 hC (rfl) rfl (n0) dX2_checkAction_71 fl_X2_155 rfl rfl rfl ?_
  refine mm_bipush (pc := 74) (v := 20) dX2_checkAction_74 (by decide) ?_
  refine mm_icmp_ne (pc := 76) (tgt := 96) dX2_checkAction_76 (by decide) (fun c76 => ?_) (fun c76 => absurd c76 h20)
  refine mm_vret (pc := 96) dX2_checkAction_96 rfl ?_
  exact ⟨rfl, rfl⟩

theorem ca_up {G : mm_G} {L : Nat × Nat} {d : Nat} {h : mm_H} {h0 : mm_H} {ad : Nat → Nat → Nat} {C : cw_C} {M : mw_S} {ab : Nat → Option Nat} {n k q g y : Nat} (hE : ckE ad C M ab n) (n2 : 0 < cN C 2) (h00 : cI C 2 0 0 = 0) (hk : k < n) (hq6 : q < 6) (n1 : g < cN C 1) (hyK : yK M g = k) (h99 : M.2.2.1 99 g = nI q) (ny : y < cN C 0) (ho : M.2.2.1 14 y = 1) (hC : cw ad h0 C h) : mm_Ok G mX2_checkAction L (d + 2) [.ref (ad 2 0), .ref (ad 1 g), .ref (ad 0 y)] h (fun r h1 => ck1 ad h0 C h (cA M ab k q y) (M.2.2.1 83 y) r h1) := by
  refine mm_Ok.of [(0, .ref (ad 2 0)), (1, .ref (ad 1 g)), (2, .ref (ad 0 y))] rfl kX2_checkAction.2.2.2.2.2 rfl (fun A => ?_)
  have ha := hE.2.2.2.2.2.2.2 y ny
  have hbd := hE.2.2.1 g n1
  have n0 := ny
  have hn50 := hE.1.2.1
  have n4 : k < cN C 4 := by have := hE.1.2.2.1; omega
  have hk0 : cR C 1 g 0 = some (ad 4 k) := by rw [← hyK]; exact hbd.1
  have hq1 : cI C 1 g 1 = nI q := by rw [hbd.2.2.1]; exact h99
  have hw0 : cI C 0 y 0 = 13 := by rw [ha.1, ho]; rfl
  have hab_ : cR C 4 k 5 = (ab k).map (ad 4) := (hE.2.1 k hk).1.2.2.1
  refine mm_aload_n (pc := 0) dX2_checkAction_0 rfl (by first | trivial | assumption | exact mm_isr_rf _) ?_
  refine cw_grS (pc := 1) 1 g 0 hC (rfl) rfl (n1) dX2_checkAction_1 fl_X2_116 rfl rfl rfl (hk0) ?_
  refine mm_astore_n (pc := 4) dX2_checkAction_4 (by first | trivial | assumption | exact mm_isr_rf _) rfl (Nat.le_of_ble_eq_true rfl) ?_
  refine mm_aload_n (pc := 5) dX2_checkAction_5 rfl (by first | trivial | assumption | exact mm_isr_rf _) ?_
  refine cw_gi (pc := 6) 0 y 0 hC (rfl) rfl (n0) dX2_checkAction_6 fl_X2_155 rfl rfl rfl ?_
  refine mm_bipush (pc := 9) (v := 13) dX2_checkAction_9 (by decide) ?_
  refine mm_icmp_ne (pc := 11) (tgt := 39) dX2_checkAction_11 (by decide) (fun c11 => absurd hw0 c11) (fun c11 => ?_)
  refine mm_aload_n (pc := 14) dX2_checkAction_14 rfl (by first | trivial | assumption | exact mm_isr_rf _) ?_
  refine mm_aload_n (pc := 15) dX2_checkAction_15 rfl (by first | trivial | assumption | exact mm_isr_rf _) ?_
  refine cw_gi (pc := 16) 1 g 1 hC (rfl) rfl (n1) dX2_checkAction_16 fl_X2_120 rfl rfl rfl ?_
  refine mm_topi _ hq1 ?_
  refine mm_aload_n (pc := 19) dX2_checkAction_19 rfl (by first | trivial | assumption | exact mm_isr_rf _) ?_
  refine cw_gr (pc := 20) (v := va_rf ((ab k).map (ad 4))) 4 k 5 hC (rfl) rfl (n4) dX2_checkAction_20 fl_X2_128 rfl rfl rfl (by rw [hab_]) ?_
  refine mm_callV (pc := 23) (As := [_, _]) (kd := ?kd_23_1) (fs := ?fs_23_1) dX2_checkAction_23 vl_X2_158 (ck_res hE hC hk hq6 (kf_ab hE.1.1 hk)) ?hc_23_1 ?hk_23_1 rfl rfl (Nat.le_of_ble_eq_true rfl) ?_; (case hc_23_1 => exact cw_cell (f := 4) hC rfl rfl n4); (case hk_23_1 => rfl)
  rintro _ _ ⟨rfl, rfl⟩
  refine mm_ifnonnull (pc := 26) (tgt := 39) dX2_checkAction_26 (by decide) (by first | trivial | assumption | exact mm_isr_rf _) (fun a26 c26 => ?_) (fun c26 => ?_)
  · obtain ⟨x_, hfn⟩ : ∃ x, rn_fnd M ab k q (ab k) = some x := by
      cases z : rn_fnd M ab k q (ab k) with
      | none => rw [z] at c26; cases c26
      | some x => exact ⟨x, rfl⟩
    refine mm_post (fun r_ h_ z_ => ?_) (mm_weakK (ca39 n0 (by rw [hw0]; decide) (by rw [hw0]; decide) hC) (And.intro rfl (And.intro rfl (And.intro rfl trivial))))
    obtain ⟨rfl, rfl⟩ := z_
    exact ⟨rfl, C, hC, k2.refl C, rfl, Or.inl ⟨(by unfold cA; rw [if_pos ho, if_neg (by rw [hfn]; exact fun z => by cases z)]), h00⟩⟩
  · have hfn : rn_fnd M ab k q (ab k) = none := by
      cases z : rn_fnd M ab k q (ab k) with
      | none => rfl
      | some x => rw [z] at c26; cases c26
    refine mm_aload_n (pc := 29) dX2_checkAction_29 rfl (by first | trivial | assumption | exact mm_isr_rf _) ?_
    refine mm_bipush (pc := 30) (v := 6) dX2_checkAction_30 (by decide) ?_
    refine mm_aload_n (pc := 32) dX2_checkAction_32 rfl (by first | trivial | assumption | exact mm_isr_rf _) ?_
    refine cw_gi (pc := 33) 0 y 1 hC (rfl) rfl (n0) dX2_checkAction_33 fl_X2_162 rfl rfl rfl ?_
    refine mm_topi _ ha.2.1 ?_
    refine mm_callV (pc := 36) (As := [_, _]) (kd := ?kd_36_2) (fs := ?fs_36_2) dX2_checkAction_36 vl_X2_51 (ck_bl n2 h00 (by decide) hC) ?hc_36_2 ?hk_36_2 rfl rfl (Nat.le_of_ble_eq_true rfl) ?_; (case hc_36_2 => exact cw_cell (f := 2) hC rfl rfl n2); (case hk_36_2 => rfl)
    rintro _ h36 ⟨rfl, C1, hC, y2, e_, hx, hp⟩
    have e0 : C1 0 = C 0 := (y2 0).1 (by decide)
    refine mm_post (fun r_ h_ z_ => ?_) (mm_weakK (ca39 (by rw [cN_o e0]; exact ny) (by rw [cI_o e0, hw0]; decide) (by rw [cI_o e0, hw0]; decide) hC) (And.intro rfl (And.intro rfl (And.intro rfl trivial))))
    obtain ⟨rfl, rfl⟩ := z_
    have hc_ : cA M ab k q y = 6 := (by unfold cA; rw [if_pos ho, if_pos hfn])
    rw [hc_]
    exact ⟨rfl, C1, hC, y2, e_, Or.inr ⟨by decide, hx, hp⟩⟩

theorem ca_call {G : mm_G} {L : Nat × Nat} {d : Nat} {h : mm_H} {h0 : mm_H} {ad : Nat → Nat → Nat} {C : cw_C} {M : mw_S} {ab : Nat → Option Nat} {n k q g y : Nat} (hE : ckE ad C M ab n) (n2 : 0 < cN C 2) (h00 : cI C 2 0 0 = 0) (hk : k < n) (hq6 : q < 6) (n1 : g < cN C 1) (hyK : yK M g = k) (h99 : M.2.2.1 99 g = nI q) (ny : y < cN C 0) {c : Nat} (ho : M.2.2.1 14 y = 2) (hc6 : c < 6) (hcn : M.2.2.1 15 y = nI c) (hC : cw ad h0 C h) : mm_Ok G mX2_checkAction L (d + 2) [.ref (ad 2 0), .ref (ad 1 g), .ref (ad 0 y)] h (fun r h1 => ck1 ad h0 C h (cA M ab k q y) (M.2.2.1 83 y) r h1) := by
  refine mm_Ok.of [(0, .ref (ad 2 0)), (1, .ref (ad 1 g)), (2, .ref (ad 0 y))] rfl kX2_checkAction.2.2.2.2.2 rfl (fun A => ?_)
  have ha := hE.2.2.2.2.2.2.2 y ny
  have hbd := hE.2.2.1 g n1
  have n0 := ny
  have hn50 := hE.1.2.1
  have n4 : k < cN C 4 := by have := hE.1.2.2.1; omega
  have hk0 : cR C 1 g 0 = some (ad 4 k) := by rw [← hyK]; exact hbd.1
  have hq1 : cI C 1 g 1 = nI q := by rw [hbd.2.2.1]; exact h99
  have hw0 : cI C 0 y 0 = 14 := by rw [ha.1, ho]; rfl
  refine mm_aload_n (pc := 0) dX2_checkAction_0 rfl (by first | trivial | assumption | exact mm_isr_rf _) ?_
  refine cw_grS (pc := 1) 1 g 0 hC (rfl) rfl (n1) dX2_checkAction_1 fl_X2_116 rfl rfl rfl (hk0) ?_
  refine mm_astore_n (pc := 4) dX2_checkAction_4 (by first | trivial | assumption | exact mm_isr_rf _) rfl (Nat.le_of_ble_eq_true rfl) ?_
  refine mm_aload_n (pc := 5) dX2_checkAction_5 rfl (by first | trivial | assumption | exact mm_isr_rf _) ?_
  refine cw_gi (pc := 6) 0 y 0 hC (rfl) rfl (n0) dX2_checkAction_6 fl_X2_155 rfl rfl rfl ?_
  refine mm_bipush (pc := 9) (v := 13) dX2_checkAction_9 (by decide) ?_
  refine mm_icmp_ne (pc := 11) (tgt := 39) dX2_checkAction_11 (by decide) (fun c11 => ?_) (fun c11 => absurd c11 (by rw [hw0]; decide))
  refine mm_aload_n (pc := 39) dX2_checkAction_39 rfl (by first | trivial | assumption | exact mm_isr_rf _) ?_
  refine cw_gi (pc := 40) 0 y 0 hC (rfl) rfl (n0) dX2_checkAction_40 fl_X2_155 rfl rfl rfl ?_
  refine mm_bipush (pc := 43) (v := 14) dX2_checkAction_43 (by decide) ?_
  refine mm_icmp_ne (pc := 45) (tgt := 70) dX2_checkAction_45 (by decide) (fun c45 => absurd hw0 c45) (fun c45 => ?_)
  refine mm_aload_n (pc := 48) dX2_checkAction_48 rfl (by first | trivial | assumption | exact mm_isr_rf _) ?_
  refine mm_aload_n (pc := 49) dX2_checkAction_49 rfl (by first | trivial | assumption | exact mm_isr_rf _) ?_
  refine cw_gi (pc := 50) 0 y 2 hC (rfl) rfl (n0) dX2_checkAction_50 fl_X2_163 rfl rfl rfl ?_
  refine mm_topi _ (ha.2.2.1.trans hcn) ?_
  refine mm_aload_n (pc := 53) dX2_checkAction_53 rfl (by first | trivial | assumption | exact mm_isr_rf _) ?_
  refine mm_callV (pc := 54) (As := [_, _]) (kd := ?kd_54_3) (fs := ?fs_54_3) dX2_checkAction_54 vl_X2_158 (ck_res (c0 := some k) hE hC hk hc6 hk) ?hc_54_3 ?hk_54_3 rfl rfl (Nat.le_of_ble_eq_true rfl) ?_; (case hc_54_3 => exact cw_cell (f := 4) hC rfl rfl n4); (case hk_54_3 => rfl)
  rintro _ _ ⟨rfl, rfl⟩
  refine mm_ifnonnull (pc := 57) (tgt := 70) dX2_checkAction_57 (by decide) (by first | trivial | assumption | exact mm_isr_rf _) (fun a57 c57 => ?_) (fun c57 => ?_)
  · obtain ⟨x_, hfn⟩ : ∃ x, rn_fnd M ab k c (some k) = some x := by
      cases z : rn_fnd M ab k c (some k) with
      | none => rw [z] at c57; cases c57
      | some x => exact ⟨x, rfl⟩
    refine mm_post (fun r_ h_ z_ => ?_) (mm_weakK (ca70 n0 (by rw [hw0]; decide) hC) (And.intro rfl (And.intro rfl (And.intro rfl trivial))))
    obtain ⟨rfl, rfl⟩ := z_
    exact ⟨rfl, C, hC, k2.refl C, rfl, Or.inl ⟨(by unfold cA; rw [if_neg (by rw [ho]; decide), if_pos ho, hcn, nI_clamp (by omega), if_neg (by rw [hfn]; exact fun z => by cases z)]), h00⟩⟩
  · have hfn : rn_fnd M ab k c (some k) = none := by
      cases z : rn_fnd M ab k c (some k) with
      | none => rfl
      | some x => rw [z] at c57; cases c57
    refine mm_aload_n (pc := 60) dX2_checkAction_60 rfl (by first | trivial | assumption | exact mm_isr_rf _) ?_
    refine mm_bipush (pc := 61) (v := 6) dX2_checkAction_61 (by decide) ?_
    refine mm_aload_n (pc := 63) dX2_checkAction_63 rfl (by first | trivial | assumption | exact mm_isr_rf _) ?_
    refine cw_gi (pc := 64) 0 y 1 hC (rfl) rfl (n0) dX2_checkAction_64 fl_X2_162 rfl rfl rfl ?_
    refine mm_topi _ ha.2.1 ?_
    refine mm_callV (pc := 67) (As := [_, _]) (kd := ?kd_67_4) (fs := ?fs_67_4) dX2_checkAction_67 vl_X2_51 (ck_bl n2 h00 (by decide) hC) ?hc_67_4 ?hk_67_4 rfl rfl (Nat.le_of_ble_eq_true rfl) ?_; (case hc_67_4 => exact cw_cell (f := 2) hC rfl rfl n2); (case hk_67_4 => rfl)
    rintro _ h67 ⟨rfl, C1, hC, y2, e_, hx, hp⟩
    have e0 : C1 0 = C 0 := (y2 0).1 (by decide)
    refine mm_post (fun r_ h_ z_ => ?_) (mm_weakK (ca70 (by rw [cN_o e0]; exact ny) (by rw [cI_o e0, hw0]; decide) hC) (And.intro rfl (And.intro rfl (And.intro rfl trivial))))
    obtain ⟨rfl, rfl⟩ := z_
    have hc_ : cA M ab k q y = 6 := (by unfold cA; rw [if_neg (by rw [ho]; decide), if_pos ho, hcn, nI_clamp (by omega), if_pos hfn])
    rw [hc_]
    exact ⟨rfl, C1, hC, y2, e_, Or.inr ⟨by decide, hx, hp⟩⟩

theorem ca_ref {G : mm_G} {L : Nat × Nat} {d : Nat} {h : mm_H} {h0 : mm_H} {ad : Nat → Nat → Nat} {C : cw_C} {M : mw_S} {ab : Nat → Option Nat} {n k q g y : Nat} (hE : ckE ad C M ab n) (n2 : 0 < cN C 2) (h00 : cI C 2 0 0 = 0) (hk : k < n) (hq6 : q < 6) (n1 : g < cN C 1) (hyK : yK M g = k) (h99 : M.2.2.1 99 g = nI q) (ny : y < cN C 0) (ho : M.2.2.1 14 y = 8) (hC : cw ad h0 C h) : mm_Ok G mX2_checkAction L (d + 2) [.ref (ad 2 0), .ref (ad 1 g), .ref (ad 0 y)] h (fun r h1 => ck1 ad h0 C h (cA M ab k q y) (M.2.2.1 83 y) r h1) := by
  refine mm_Ok.of [(0, .ref (ad 2 0)), (1, .ref (ad 1 g)), (2, .ref (ad 0 y))] rfl kX2_checkAction.2.2.2.2.2 rfl (fun A => ?_)
  have ha := hE.2.2.2.2.2.2.2 y ny
  have hbd := hE.2.2.1 g n1
  have n0 := ny
  have hn50 := hE.1.2.1
  have n4 : k < cN C 4 := by have := hE.1.2.2.1; omega
  have hk0 : cR C 1 g 0 = some (ad 4 k) := by rw [← hyK]; exact hbd.1
  have hq1 : cI C 1 g 1 = nI q := by rw [hbd.2.2.1]; exact h99
  have hw0 : cI C 0 y 0 = 20 := by rw [ha.1, ho]; rfl
  refine mm_aload_n (pc := 0) dX2_checkAction_0 rfl (by first | trivial | assumption | exact mm_isr_rf _) ?_
  refine cw_grS (pc := 1) 1 g 0 hC (rfl) rfl (n1) dX2_checkAction_1 fl_X2_116 rfl rfl rfl (hk0) ?_
  refine mm_astore_n (pc := 4) dX2_checkAction_4 (by first | trivial | assumption | exact mm_isr_rf _) rfl (Nat.le_of_ble_eq_true rfl) ?_
  refine mm_aload_n (pc := 5) dX2_checkAction_5 rfl (by first | trivial | assumption | exact mm_isr_rf _) ?_
  refine cw_gi (pc := 6) 0 y 0 hC (rfl) rfl (n0) dX2_checkAction_6 fl_X2_155 rfl rfl rfl ?_
  refine mm_bipush (pc := 9) (v := 13) dX2_checkAction_9 (by decide) ?_
  refine mm_icmp_ne (pc := 11) (tgt := 39) dX2_checkAction_11 (by decide) (fun c11 => ?_) (fun c11 => absurd c11 (by rw [hw0]; decide))
  refine mm_aload_n (pc := 39) dX2_checkAction_39 rfl (by first | trivial | assumption | exact mm_isr_rf _) ?_
  refine cw_gi (pc := 40) 0 y 0 hC (rfl) rfl (n0) dX2_checkAction_40 fl_X2_155 rfl rfl rfl ?_
  refine mm_bipush (pc := 43) (v := 14) dX2_checkAction_43 (by decide) ?_
  refine mm_icmp_ne (pc := 45) (tgt := 70) dX2_checkAction_45 (by decide) (fun c45 => ?_) (fun c45 => absurd c45 (by rw [hw0]; decide))
  refine mm_aload_n (pc := 70) dX2_checkAction_70 rfl (by first | trivial | assumption | exact mm_isr_rf _) ?_
  refine cw_gi (pc := 71) 0 y 0 hC (rfl) rfl (n0) dX2_checkAction_71 fl_X2_155 rfl rfl rfl ?_
  refine mm_bipush (pc := 74) (v := 20) dX2_checkAction_74 (by decide) ?_
  refine mm_icmp_ne (pc := 76) (tgt := 96) dX2_checkAction_76 (by decide) (fun c76 => absurd hw0 c76) (fun c76 => ?_)
  refine mm_aload_n (pc := 79) dX2_checkAction_79 rfl (by first | trivial | assumption | exact mm_isr_rf _) ?_
  refine cw_gi (pc := 80) 1 g 1 hC (rfl) rfl (n1) dX2_checkAction_80 fl_X2_120 rfl rfl rfl ?_
  refine mm_topi _ hq1 ?_
  refine mm_if_eq (pc := 83) (tgt := 96) dX2_checkAction_83 (by decide) (fun c83 => ?_) (fun c83 => ?_)
  · have hq0 : q = 0 := (nI_eq (b := 0) (by omega) (by decide)).mp c83
    refine mm_vret (pc := 96) dX2_checkAction_96 rfl ?_
    exact ⟨rfl, C, hC, k2.refl C, rfl, Or.inl ⟨by unfold cA; rw [if_neg (by rw [ho]; decide), if_neg (by rw [ho]; decide), if_pos ho, if_pos hq0], h00⟩⟩
  · have hq0 : ¬ q = 0 := fun z => c83 (by rw [z]; rfl)
    refine mm_aload_n (pc := 86) dX2_checkAction_86 rfl (by first | trivial | assumption | exact mm_isr_rf _) ?_
    refine mm_bipush (pc := 87) (v := 7) dX2_checkAction_87 (by decide) ?_
    refine mm_aload_n (pc := 89) dX2_checkAction_89 rfl (by first | trivial | assumption | exact mm_isr_rf _) ?_
    refine cw_gi (pc := 90) 0 y 1 hC (rfl) rfl (n0) dX2_checkAction_90 fl_X2_162 rfl rfl rfl ?_
    refine mm_topi _ ha.2.1 ?_
    refine mm_callV (pc := 93) (As := [_, _]) (kd := ?kd_93_5) (fs := ?fs_93_5) dX2_checkAction_93 vl_X2_51 (ck_bl n2 h00 (by decide) hC) ?hc_93_5 ?hk_93_5 rfl rfl (Nat.le_of_ble_eq_true rfl) ?_; (case hc_93_5 => exact cw_cell (f := 2) hC rfl rfl n2); (case hk_93_5 => rfl)
    rintro _ h93 ⟨rfl, C1, hC, y2, e_, hx, hp⟩
    refine mm_vret (pc := 96) dX2_checkAction_96 rfl ?_
    have hc_ : cA M ab k q y = 7 := by unfold cA; rw [if_neg (by rw [ho]; decide), if_neg (by rw [ho]; decide), if_pos ho, if_neg hq0]
    rw [hc_]
    exact ⟨rfl, C1, hC, y2, e_, Or.inr ⟨by decide, hx, hp⟩⟩

theorem ca_no {G : mm_G} {L : Nat × Nat} {d : Nat} {h : mm_H} {h0 : mm_H} {ad : Nat → Nat → Nat} {C : cw_C} {M : mw_S} {ab : Nat → Option Nat} {n k q g y : Nat} (hE : ckE ad C M ab n) (n2 : 0 < cN C 2) (h00 : cI C 2 0 0 = 0) (hk : k < n) (hq6 : q < 6) (n1 : g < cN C 1) (hyK : yK M g = k) (h99 : M.2.2.1 99 g = nI q) (ny : y < cN C 0) {o : Nat} (how : M.2.2.1 14 y = nI o) (hw10 : o ≤ 10) (o1 : ¬ o = 1) (o2 : ¬ o = 2) (o8 : ¬ o = 8) (hC : cw ad h0 C h) : mm_Ok G mX2_checkAction L (d + 2) [.ref (ad 2 0), .ref (ad 1 g), .ref (ad 0 y)] h (fun r h1 => ck1 ad h0 C h (cA M ab k q y) (M.2.2.1 83 y) r h1) := by
  refine mm_Ok.of [(0, .ref (ad 2 0)), (1, .ref (ad 1 g)), (2, .ref (ad 0 y))] rfl kX2_checkAction.2.2.2.2.2 rfl (fun A => ?_)
  have ha := hE.2.2.2.2.2.2.2 y ny
  have hbd := hE.2.2.1 g n1
  have n0 := ny
  have hn50 := hE.1.2.1
  have n4 : k < cN C 4 := by have := hE.1.2.2.1; omega
  have hk0 : cR C 1 g 0 = some (ad 4 k) := by rw [← hyK]; exact hbd.1
  have hq1 : cI C 1 g 1 = nI q := by rw [hbd.2.2.1]; exact h99
  have hw0 : cI C 0 y 0 = nI (o + 12) := by rw [ha.1, how]; exact nI_add o 12
  refine mm_aload_n (pc := 0) dX2_checkAction_0 rfl (by first | trivial | assumption | exact mm_isr_rf _) ?_
  refine cw_grS (pc := 1) 1 g 0 hC (rfl) rfl (n1) dX2_checkAction_1 fl_X2_116 rfl rfl rfl (hk0) ?_
  refine mm_astore_n (pc := 4) dX2_checkAction_4 (by first | trivial | assumption | exact mm_isr_rf _) rfl (Nat.le_of_ble_eq_true rfl) ?_
  refine mm_aload_n (pc := 5) dX2_checkAction_5 rfl (by first | trivial | assumption | exact mm_isr_rf _) ?_
  refine cw_gi (pc := 6) 0 y 0 hC (rfl) rfl (n0) dX2_checkAction_6 fl_X2_155 rfl rfl rfl ?_
  refine mm_bipush (pc := 9) (v := 13) dX2_checkAction_9 (by decide) ?_
  refine mm_icmp_ne (pc := 11) (tgt := 39) dX2_checkAction_11 (by decide) (fun c11 => ?_) (fun c11 => absurd c11 (fun z => o1 (by have := (nI_eq (b := 13) (by omega) (by decide)).mp (hw0.symm.trans z); omega)))
  refine mm_post (fun r_ h_ z_ => ?_) (mm_weakK (ca39 n0 (fun z => o2 (by have := (nI_eq (b := 14) (by omega) (by decide)).mp (hw0.symm.trans z); omega)) (fun z => o8 (by have := (nI_eq (b := 20) (by omega) (by decide)).mp (hw0.symm.trans z); omega)) hC) (And.intro rfl (And.intro rfl (And.intro rfl trivial))))
  obtain ⟨rfl, rfl⟩ := z_
  exact ⟨rfl, C, hC, k2.refl C, rfl, Or.inl ⟨by unfold cA; rw [how, if_neg (show ¬ nI o = (1 : Int32) from fun z => o1 ((nI_eq (b := 1) (by omega) (by decide)).mp z)), if_neg (show ¬ nI o = (2 : Int32) from fun z => o2 ((nI_eq (b := 2) (by omega) (by decide)).mp z)), if_neg (show ¬ nI o = (8 : Int32) from fun z => o8 ((nI_eq (b := 8) (by omega) (by decide)).mp z))], h00⟩⟩

theorem ca_ok {G : mm_G} {L : Nat × Nat} {d : Nat} {h : mm_H} {h0 : mm_H} {ad : Nat → Nat → Nat} {C : cw_C} {M : mw_S} {ab : Nat → Option Nat} {n k q g y : Nat} (hE : ckE ad C M ab n) (n2 : 0 < cN C 2) (h00 : cI C 2 0 0 = 0) (hk : k < n) (hq6 : q < 6) (n1 : g < cN C 1) (hyK : yK M g = k) (h99 : M.2.2.1 99 g = nI q) (ny : y < cN C 0) (hao : act_ok M k q y) (hC : cw ad h0 C h) : mm_Ok G mX2_checkAction L (d + 2) [.ref (ad 2 0), .ref (ad 1 g), .ref (ad 0 y)] h (fun r h1 => ck1 ad h0 C h (cA M ab k q y) (M.2.2.1 83 y) r h1) := by
  obtain ⟨⟨o, ho1, ho2, how⟩, -, hc, -⟩ := hao
  by_cases o1 : o = 1
  · subst o1; exact ca_up hE n2 h00 hk hq6 n1 hyK h99 ny how hC
  · by_cases o2 : o = 2
    · subst o2
      obtain ⟨c, hc6, hcn⟩ := hc how
      exact ca_call hE n2 h00 hk hq6 n1 hyK h99 ny how hc6 hcn hC
    · by_cases o8 : o = 8
      · subst o8; exact ca_ref hE n2 h00 hk hq6 n1 hyK h99 ny how hC
      · exact ca_no hE n2 h00 hk hq6 n1 hyK h99 ny how ho2 o1 o2 o8 hC

