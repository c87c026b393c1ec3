theorem ckF.ref {C C1 : cw_C} {M : mw_S} {k j : Nat} (h : ckF C C1 M k) : cR C1 2 0 j = cR C 2 0 j := by
  obtain ⟨Cm, a, b⟩ := h
  rw [(b 2).2.2.1]
  exact cR_o (a.1 2 (by decide) (by decide))
theorem pkD.ckF {ad : Nat → Nat → Nat} {C C1 : cw_C} {M : mw_S} {k np nn : Nat} (h : pkD ad C np nn) (y : ckF C C1 M k) : pkD ad C1 np nn := by
  have e5 : C1 5 = C 5 := y.o (by decide) (by decide) (by decide)
  unfold pkD
  rw [y.N, y.N, cR_o e5, cI_o e5]
  exact h
theorem pvC.next {ad : Nat → Nat → Nat} {C C1 : cw_C} {M : mw_S} {ab : Nat → Option Nat} {nk nn np a : Nat} {ho : Int32} (h : pvC ad C M ab nk nn np a ho) (y : ckF C C1 M (nk + a)) (hE : ckE ad C1 M ab (nk + a + 1)) (h00 : cI C1 2 0 0 = 0) : pvC ad C1 M ab nk nn np (a + 1) ho := by
  obtain ⟨-, p2, p3, p4, p5, ⟨q1, q2, q3⟩, p7, p8, p9⟩ := h
  have e20 : C1 20 = C 20 := y.o (by decide) (by decide) (by decide)
  refine ⟨hE, p2.ckF y, p3.ckF y, fun i hi => by rw [cR_o e20]; exact p4 i hi, fun i hi => by rw [y.N, y.N, y.L4]; exact p5 i hi, ⟨by rw [y.N]; exact q1, by rw [y.ref]; exact q2, by rw [y.ref]; exact q3⟩, fun i h1 h2 => (p7 i (by omega) h2).ckF y (by omega), ?_, ?_⟩
  · rw [cI_o (y.o (by decide) (by decide) (by decide))]; exact p8
  · obtain ⟨Cm, a_, b_⟩ := y
    rw [((b_ 2).2.2.2 h00).2, cI_o (a_.1 2 (by decide) (by decide))]; exact p9

theorem cp_d67 {G : mm_G} {L : Nat × Nat} {d : Nat} {h : mm_H} {A : Nat → Prop} {h0 : mm_H} {ad : Nat → Nat → Nat} {C : cw_C} {np nn : Nat} {x : Int32} (n2 : 0 < cN C 2) (hx : ¬ cI C 2 0 0 = 0) (hD : pkD ad C np nn) (h23 : cR C 2 0 3 = some (ad 5 np)) (hC : cw ad h0 C h) : mm_Run G mX2_checkPack A L d 67 [(0, .ref (ad 2 0)), (1, .int x)] [] h (fun r h1 => r = none ∧ h1 = h) := by
  refine mm_iload_n (pc := 67) dX2_checkPack_67 rfl ?_
  refine mm_aload_n (pc := 68) dX2_checkPack_68 rfl (by first | trivial | assumption | exact mm_isr_rf _) ?_
  refine cw_grS (pc := 69) 2 _ 3 hC (rfl) rfl (n2) dX2_checkPack_69 fl_X2_22 rfl rfl rfl (h23) ?_
  refine cw_gi (pc := 72) 5 np 7 hC (rfl) rfl (hD.1) dX2_checkPack_72 fl_X2_55 rfl rfl rfl ?_
  refine mm_icmp_ge (pc := 75) (tgt := 117) dX2_checkPack_75 (by decide) (fun c75 => ?_) (fun c75 => ?_)
  · refine mm_vret (pc := 117) dX2_checkPack_117 rfl ?_
    exact ⟨rfl, rfl⟩
  · refine mm_iload_n (pc := 78) dX2_checkPack_78 rfl ?_
    refine mm_aload_n (pc := 79) dX2_checkPack_79 rfl (by first | trivial | assumption | exact mm_isr_rf _) ?_
    refine cw_grS (pc := 80) 2 _ 3 hC (rfl) rfl (n2) dX2_checkPack_80 fl_X2_22 rfl rfl rfl (h23) ?_
    refine cw_grS (pc := 83) 5 np 6 hC (rfl) rfl (hD.1) dX2_checkPack_83 fl_X2_58 rfl rfl rfl (hD.2.2.1) ?_
    refine cw_alen (pc := 86) 20 np hC (rfl) rfl (hD.2.1) dX2_checkPack_86 rfl rfl ?_
    refine mm_icmp_ge (pc := 87) (tgt := 117) dX2_checkPack_87 (by decide) (fun c87 => ?_) (fun c87 => ?_)
    · refine mm_vret (pc := 117) dX2_checkPack_117 rfl ?_
      exact ⟨rfl, rfl⟩
    · refine mm_aload_n (pc := 90) dX2_checkPack_90 rfl (by first | trivial | assumption | exact mm_isr_rf _) ?_
      refine cw_gi (pc := 91) 2 _ 0 hC (rfl) rfl (n2) dX2_checkPack_91 fl_X2_9 rfl rfl rfl ?_
      refine mm_if_ne (pc := 94) (tgt := 117) dX2_checkPack_94 (by decide) (fun c94 => ?_) (fun c94 => absurd c94 hx)
      refine mm_vret (pc := 117) dX2_checkPack_117 rfl ?_
      exact ⟨rfl, rfl⟩

theorem cp_loop {G : mm_G} {L : Nat × Nat} {d : Nat} {A : Nat → Prop} {h0 : mm_H} {N : Nat → Nat} {ad adS : Nat → Nat → Nat} {CS : cw_C} {M : mw_S} {ab : Nat → Option Nat} {nk nn np : Nat} {ho : Int32} (hV : pvR M ab nk nn np ho) (hN4 : N 4 ≤ nk) (hN2 : N 2 = 0) (hN1 : ∀ g, g < N 1 → yK M g < nk) : ∀ (v a : Nat) (C : cw_C) (h : mm_H), a + v = nn → pvC ad C M ab nk nn np a ho → cI C 2 0 0 = 0 → oK N adS CS ad C → dF np CS C → cw ad h0 C h → mm_Run G mX2_checkPack A L (d + 11) 67 [(0, .ref (ad 2 0)), (1, .int (nI a))] [] h (fun r h1 => qP N ad adS h0 CS h M ab nk nn np a ho r h1) := by
  have hnn := hV.2.2.2
  intro v
  induction v with
  | zero =>
    intro a C h hv hpv h00 hok hCS hC
    obtain ⟨hE, hR, hD, hA, hnm, ⟨n2, h22, h23⟩, hkd, hho, hpl_⟩ := id hpv
    refine mm_iload_n (pc := 67) dX2_checkPack_67 rfl ?_
    refine mm_aload_n (pc := 68) dX2_checkPack_68 rfl (by first | trivial | assumption | exact mm_isr_rf _) ?_
    refine cw_grS (pc := 69) 2 _ 3 hC (rfl) rfl (n2) dX2_checkPack_69 fl_X2_22 rfl rfl rfl (h23) ?_
    refine cw_gi (pc := 72) 5 np 7 hC (rfl) rfl (hD.1) dX2_checkPack_72 fl_X2_55 rfl rfl rfl ?_
    refine mm_topi _ hD.2.2.2 ?_
    refine mm_icmp_ge (pc := 75) (tgt := 117) dX2_checkPack_75 (by decide) (fun c75 => ?_) (fun c75 => absurd (nI_le (by omega) (by omega)) c75)
    refine mm_vret (pc := 117) dX2_checkPack_117 rfl ?_
    exact ⟨rfl, C, hC, hok, rfl, hCS, Or.inl ⟨h00, fun k_ z1 z2 => by omega⟩, n2, fun _ => by rw [show nn = a by omega]; rw [show nn = a by omega] at hpv; exact hpv⟩
  | succ v ih =>
    intro a C h hv hpv h00 hok hCS hC
    obtain ⟨hE, hR, hD, hA, hnm, ⟨n2, h22, h23⟩, hkd, hho, hpl_⟩ := id hpv
    have hi_ := hV.2.1 (nk + a) (by omega) (by omega)
    refine mm_iload_n (pc := 67) dX2_checkPack_67 rfl ?_
    refine mm_aload_n (pc := 68) dX2_checkPack_68 rfl (by first | trivial | assumption | exact mm_isr_rf _) ?_
    refine cw_grS (pc := 69) 2 _ 3 hC (rfl) rfl (n2) dX2_checkPack_69 fl_X2_22 rfl rfl rfl (h23) ?_
    refine cw_gi (pc := 72) 5 np 7 hC (rfl) rfl (hD.1) dX2_checkPack_72 fl_X2_55 rfl rfl rfl ?_
    refine mm_topi _ hD.2.2.2 ?_
    refine mm_icmp_ge (pc := 75) (tgt := 117) dX2_checkPack_75 (by decide) (fun c75 => absurd c75 (nI_ge (by omega) (by omega))) (fun c75 => ?_)
    refine mm_iload_n (pc := 78) dX2_checkPack_78 rfl ?_
    refine mm_aload_n (pc := 79) dX2_checkPack_79 rfl (by first | trivial | assumption | exact mm_isr_rf _) ?_
    refine cw_grS (pc := 80) 2 _ 3 hC (rfl) rfl (n2) dX2_checkPack_80 fl_X2_22 rfl rfl rfl (h23) ?_
    refine cw_grS (pc := 83) 5 np 6 hC (rfl) rfl (hD.1) dX2_checkPack_83 fl_X2_58 rfl rfl rfl (hD.2.2.1) ?_
    refine cw_alen (pc := 86) 20 np hC (rfl) rfl (hD.2.1) dX2_checkPack_86 rfl rfl ?_
    refine mm_icmp_ge (pc := 87) (tgt := 117) dX2_checkPack_87 (by decide) (fun c87 => absurd c87 (nI_ge (b := (10 : Nat)) (by omega) (by decide))) (fun c87 => ?_)
    refine mm_aload_n (pc := 90) dX2_checkPack_90 rfl (by first | trivial | assumption | exact mm_isr_rf _) ?_
    refine cw_gi (pc := 91) 2 _ 0 hC (rfl) rfl (n2) dX2_checkPack_91 fl_X2_9 rfl rfl rfl ?_
    refine mm_if_ne (pc := 94) (tgt := 117) dX2_checkPack_94 (by decide) (fun c94 => absurd h00 c94) (fun c94 => ?_)
    refine mm_aload_n (pc := 97) dX2_checkPack_97 rfl (by first | trivial | assumption | exact mm_isr_rf _) ?_
    refine mm_aload_n (pc := 98) dX2_checkPack_98 rfl (by first | trivial | assumption | exact mm_isr_rf _) ?_
    refine cw_grS (pc := 99) 2 _ 3 hC (rfl) rfl (n2) dX2_checkPack_99 fl_X2_22 rfl rfl rfl (h23) ?_
    refine cw_grS (pc := 102) 5 np 6 hC (rfl) rfl (hD.1) dX2_checkPack_102 fl_X2_58 rfl rfl rfl (hD.2.2.1) ?_
    refine mm_iload_n (pc := 105) dX2_checkPack_105 rfl ?_
    refine cw_aald (pc := 106) (v := (.ref (ad 4 (nk + a)))) 20 np a hC (rfl) rfl (hD.2.1) dX2_checkPack_106 rfl rfl rfl (by first | with_reducible rfl | assumption | rfl) (by show a < 10; omega) (by omega) rfl (by rw [hA a (by omega)]; rfl) ?_
    refine mm_iload_n (pc := 107) dX2_checkPack_107 rfl ?_
    refine mm_callV (pc := 108) (As := [_, _]) (kd := ?kd_108_1) (fs := ?fs_108_1) dX2_checkPack_108 vl_X2_62 (ckk_ok (d := d) (ab := ab) (nn := nn) hE hR hD hA (fun i hi => ⟨(hnm i hi).1, (hnm i hi).2.2⟩) hnn n2 h22 h23 h00 (by omega) (hkd (nk + a) (by omega) (by omega)) (hnm (nk + a) (by omega)).2.1 hi_.1 (fun i j z1 z2 => hV.1 i j (by omega) z2) hi_.2.1 hi_.2.2.2.2 hV.2.2.1 (by rw [hho]; exact hi_.2.2.1.symm) hi_.2.2.2.1 hC) ?hc_108_1 ?hk_108_1 rfl rfl (Nat.le_of_ble_eq_true rfl) ?_; (case hc_108_1 => exact cw_cell (f := 2) hC rfl rfl n2); (case hk_108_1 => rfl)
    rintro _ h108 ⟨rfl, C1, hC, yF, e1, kf1, hE1⟩
    have hok1 := ckF.oK hok yF (nk := nk) (by omega) hN4 hN2 hN1
    have hD1 := hD.ckF yF
    have n2b : 0 < cN C1 2 := by rw [yF.N]; exact n2
    have hCS1 : dF np CS C1 := ⟨fun f a1 a2 a4 a5 => (yF.o a1 a2 a4).trans (hCS.1 f a1 a2 a4 a5), fun j => (cL_o (yF.o (by decide) (by decide) (by decide))).trans (hCS.2.1 j), fun j hj => (cI_o (yF.o (by decide) (by decide) (by decide))).trans (hCS.2.2 j hj)⟩
    refine mm_iinc (pc := 111) dX2_checkPack_111 rfl rfl rfl (Nat.le_of_ble_eq_true rfl) ?_
    refine mm_goto (pc := 114) (tgt := 67) dX2_checkPack_114 (by decide) ?_
    by_cases hx : cI C1 2 0 0 = 0
    · have hpv1 := hpv.next yF (hE1 hx) hx
      have hcl : kCl M ab (nk + a) := by rw [hx] at kf1; exact kf1.c
      refine mm_post (fun r_ h_ z_ => ?_) (mm_weakK (ih (a + 1) C1 h108 (by omega) hpv1 hx hok1 hCS1 hC) (And.intro rfl (And.intro (congrArg (fun z => some (Value.int z)) (nI_add a 1)) trivial)))
      obtain ⟨a_, C3, b_, c_, d_, e_, f_, g_⟩ := z_
      exact ⟨a_, C3, b_, c_, by rw [d_, e1], e_, f_.cons hcl, g_⟩
    · refine mm_post (fun r_ h_ z_ => ?_) (mm_weakK (cp_d67 n2b hx hD1 (by rw [yF.ref]; exact h23) hC) (And.intro rfl (And.intro rfl trivial)))
      obtain ⟨rfl, rfl⟩ := z_
      exact ⟨rfl, C1, hC, hok1, e1, hCS1, Or.inr ⟨nk + a, Nat.le_refl _, by omega, fun z z1 z2 => by omega, kf1, hx⟩, n2b, fun z => absurd z hx⟩

