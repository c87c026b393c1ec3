/-- kinds of a pack, appended so far -/
def apR (ad : Nat → Nat → Nat) (C C1 : cw_C) (nk i : Nat) : Prop := (∀ f, ¬ f = 7 → ¬ f = 18 → C1 f = C f) ∧ (∀ f, cN C1 f = cN C f) ∧ (∀ j, cR C1 7 0 j = cR C 7 0 j) ∧ (∀ j, ¬ j = 1 → cI C1 7 0 j = cI C 7 0 j) ∧ cI C1 7 0 1 = nI (nk + i) ∧ ∀ j, cR C1 18 0 j = if nk ≤ j ∧ j < nk + i then some (ad 4 j) else cR C 18 0 j
theorem apR.next {ad : Nat → Nat → Nat} {C C1 : cw_C} {nk i : Nat} (h : apR ad C C1 nk i) : apR ad C (cw_sI (cw_sR C1 18 0 (nk + i) (some (ad 4 (nk + i)))) 7 0 1 (nI (nk + i + 1))) nk (i + 1) := by
  obtain ⟨a, b, c, d, e, f⟩ := h
  refine ⟨fun g h7 h18 => (cw_sI_o h7).trans ((cw_sR_o h18).trans (a g h7 h18)), fun g => cw_sI_N.trans (cw_sR_N.trans (b g)), fun j => ?_, fun j hj => ?_, cI_sI_e, fun j => ?_⟩
  · rw [cR_sI, cR_sR_n (by omega)]; exact c j
  · rw [cI_sI_n (by omega), cI_sR]; exact d j hj
  · rw [cR_sI]
    by_cases z : j = nk + i
    · rw [z, cR_sR_e, if_pos (by omega)]
    · rw [cR_sR_n (by omega), f j]
      by_cases w : nk ≤ j ∧ j < nk + i
      · rw [if_pos w, if_pos (by omega)]
      · rw [if_neg w, if_neg (by omega)]
def adR (ad : Nat → Nat → Nat) (C C1 : cw_C) (nk nn np : Nat) : Prop := (∀ f, ¬ f = 7 → ¬ f = 18 → ¬ f = 19 → C1 f = C f) ∧ (∀ f, cN C1 f = cN C f) ∧ (∀ j, cR C1 7 0 j = cR C 7 0 j) ∧ cI C1 7 0 1 = nI (nk + nn) ∧ cI C1 7 0 3 = nI (np + 1) ∧ cI C1 7 0 4 = (if cI C 7 0 4 < cI C 5 np 4 then cI C 5 np 4 else cI C 7 0 4) ∧ (∀ j, cR C1 18 0 j = if nk ≤ j ∧ j < nk + nn then some (ad 4 j) else cR C 18 0 j) ∧ ∀ p, cR C1 19 0 p = if p = np then some (ad 5 np) else cR C 19 0 p

theorem ad_loop {G : mm_G} {L : Nat × Nat} {d : Nat} {A : Nat → Prop} {h0 : mm_H} {ad : Nat → Nat → Nat} {C : cw_C} {M : mw_S} {nk nn np : Nat} (hR : rgR ad C M nk np) (hD : pkD ad C np nn) (hA : ∀ i, i < nn → cR C 20 np i = some (ad 4 (nk + i))) (hn4 : nk + nn ≤ cN C 4) (hnn : nn ≤ 10) (hp : np < 12) (hk : nk + nn ≤ 40) : ∀ (v i : Nat) (C1 : cw_C) (h : mm_H), i + v = nn → apR ad C C1 nk i → cw ad h0 C1 h → mm_Run G mX7_add A L (d + 1) 11 [(0, .ref (ad 7 0)), (1, .ref (ad 5 np)), (2, .int (nI i))] [] h (fun r h1 => ∃ C3, cw ad h0 C3 h1 ∧ h1.2 = h.2 ∧ r = none ∧ adR ad C C3 nk nn np) := by
  obtain ⟨⟨n7, n18, n19, h4, h5⟩, ⟨hk40, hp12⟩, r0, r1, r2, r3, r4, hK, hP⟩ := id hR
  intro v
  induction v with
  | zero =>
    intro i C1 h hv hy hC
    obtain ⟨y1, y2, y3, y4, y5, y6⟩ := id hy
    have e5 : C1 5 = C 5 := y1 5 (by decide) (by decide)
    have e20 : C1 20 = C 20 := y1 20 (by decide) (by decide)
    have e19 : C1 19 = C 19 := y1 19 (by decide) (by decide)
    have m5 : np < cN C1 5 := by rw [y2]; exact hD.1
    have m20 : np < cN C1 20 := by rw [y2]; exact hD.2.1
    have m7 : 0 < cN C1 7 := by rw [y2]; exact n7
    have m18 : 0 < cN C1 18 := by rw [y2]; exact n18
    have m19 : 0 < cN C1 19 := by rw [y2]; exact n19
    have g6 : cR C1 5 np 6 = some (ad 20 np) := by rw [cR_o e5]; exact hD.2.2.1
    have g7 : cI C1 5 np 7 = nI nn := by rw [cI_o e5]; exact hD.2.2.2
    have g2 : cR C1 7 0 2 = some (ad 19 0) := by rw [y3]; exact r2
    have g3 : cI C1 7 0 3 = nI np := by rw [y4 3 (by decide)]; exact r3
    refine mm_iload_n (pc := 11) dX7_add_11 rfl ?_
    refine mm_aload_n (pc := 12) dX7_add_12 rfl (by first | trivial | assumption | exact mm_isr_rf _) ?_
    refine cw_gi (pc := 13) 5 np 7 hC (rfl) rfl (m5) dX7_add_13 fl_X7_53 rfl rfl rfl ?_
    refine mm_topi _ g7 ?_
    refine mm_icmp_ge (pc := 16) (tgt := 44) dX7_add_16 (by decide) (fun c16 => ?_) (fun c16 => absurd (nI_le (by omega) (by omega)) c16)
    refine mm_aload_n (pc := 44) dX7_add_44 rfl (by first | trivial | assumption | exact mm_isr_rf _) ?_
    refine cw_grS (pc := 45) 7 _ 2 hC (rfl) rfl (m7) dX7_add_45 fl_X7_23 rfl rfl rfl (g2) ?_
    refine mm_aload_n (pc := 48) dX7_add_48 rfl (by first | trivial | assumption | exact mm_isr_rf _) ?_
    refine cw_gi (pc := 49) 7 _ 3 hC (rfl) rfl (m7) dX7_add_49 fl_X7_27 rfl rfl rfl ?_
    refine mm_topi _ g3 ?_
    refine mm_aload_n (pc := 52) dX7_add_52 rfl (by first | trivial | assumption | exact mm_isr_rf _) ?_
    refine cw_aast (pc := 53) 19 0 np hC (rfl) rfl (m19) dX7_add_53 rfl rfl (cw_cell (f := 5) hC rfl rfl m5) rfl rfl (by first | with_reducible rfl | assumption | rfl) (by show np < 12; exact hp) (by omega) rfl (fun h53 hC e53 => ?_)
    refine mm_aload_n (pc := 54) dX7_add_54 rfl (by first | trivial | assumption | exact mm_isr_rf _) ?_
    refine mm_dup (pc := 55) dX7_add_55 rfl ?_
    refine cw_gi (pc := 56) 7 _ 3 hC (rfl) rfl ((by rw [cw_sR_N]; exact m7)) dX7_add_56 fl_X7_27 rfl rfl rfl ?_
    refine mm_topi _ (show cI (cw_sR C1 19 0 np (some (ad 5 np))) 7 0 3 = nI np by rw [cI_sR]; exact g3) ?_
    refine mm_iconst (pc := 59) (v := 1) dX7_add_59 (by decide) ?_
    refine mm_iadd (pc := 60) dX7_add_60 ?_
    refine cw_pi (pc := 61) 7 _ 3 hC (rfl) rfl ((by rw [cw_sR_N]; exact m7)) dX7_add_61 (pl_X7_27 _) rfl rfl (rfl) (rfl) (fun h61 hC e61 => ?_)
    refine mm_aload_n (pc := 64) dX7_add_64 rfl (by first | trivial | assumption | exact mm_isr_rf _) ?_
    refine mm_aload_n (pc := 65) dX7_add_65 rfl (by first | trivial | assumption | exact mm_isr_rf _) ?_
    refine cw_gi (pc := 66) 7 _ 4 hC (rfl) rfl ((by rw [cw_sI_N, cw_sR_N]; exact m7)) dX7_add_66 fl_X7_30 rfl rfl rfl ?_
    refine mm_aload_n (pc := 69) dX7_add_69 rfl (by first | trivial | assumption | exact mm_isr_rf _) ?_
    refine cw_gi (pc := 70) 5 np 4 hC (rfl) rfl ((by rw [cw_sI_N, cw_sR_N]; exact m5)) dX7_add_70 fl_X7_50 rfl rfl rfl ?_
    refine mm_mmax (pc := 73) dX7_add_73 ml_X7_63 mt_max_s mt_i mt_max_c (Nat.le_of_ble_eq_true rfl) ?_
    refine cw_pi (pc := 76) 7 _ 4 hC (rfl) rfl ((by rw [cw_sI_N, cw_sR_N]; exact m7)) dX7_add_76 (pl_X7_30 _) rfl rfl (rfl) (rfl) (fun h76 hC e76 => ?_)
    refine mm_vret (pc := 79) dX7_add_79 rfl ?_
    have q4 : cI (cw_sI (cw_sR C1 19 0 np (some (ad 5 np))) 7 0 3 (nI np + 1)) 7 0 4 = cI C 7 0 4 := by rw [cI_sI_n (by omega), cI_sR]; exact y4 4 (by decide)
    have q5 : cI (cw_sI (cw_sR C1 19 0 np (some (ad 5 np))) 7 0 3 (nI np + 1)) 5 np 4 = cI C 5 np 4 := by rw [cI_sI_n (by omega), cI_sR]; exact cI_o e5
    rw [q4, q5] at hC
    refine ⟨_, hC, by rw [e76, e61, e53], rfl, fun f a7 a18 a19 => ?_, fun f => ?_, fun j => ?_, ?_, ?_, ?_, fun j => ?_, fun p => ?_⟩
    · exact (cw_sI_o a7).trans ((cw_sI_o a7).trans ((cw_sR_o a19).trans (y1 f a7 a18)))
    · exact cw_sI_N.trans (cw_sI_N.trans (cw_sR_N.trans (y2 f)))
    · rw [cR_sI, cR_sI, cR_sR_n (by omega)]; exact y3 j
    · rw [cI_sI_n (by omega), cI_sI_n (by omega), cI_sR, y5, show i = nn by omega]
    · rw [cI_sI_n (by omega), cI_sI_e]; exact nI_add np 1
    · rw [cI_sI_e]
    · rw [cR_sI, cR_sI, cR_sR_n (by omega), y6 j, show i = nn by omega]
    · rw [cR_sI, cR_sI]
      by_cases z : p = np
      · rw [z, cR_sR_e, if_pos rfl]
      · rw [cR_sR_n (by omega), cR_o e19, if_neg z]
  | succ v ih =>
    intro i C1 h hv hy hC
    obtain ⟨y1, y2, y3, y4, y5, y6⟩ := id hy
    have e5 : C1 5 = C 5 := y1 5 (by decide) (by decide)
    have e20 : C1 20 = C 20 := y1 20 (by decide) (by decide)
    have e19 : C1 19 = C 19 := y1 19 (by decide) (by decide)
    have m5 : np < cN C1 5 := by rw [y2]; exact hD.1
    have m20 : np < cN C1 20 := by rw [y2]; exact hD.2.1
    have m7 : 0 < cN C1 7 := by rw [y2]; exact n7
    have m18 : 0 < cN C1 18 := by rw [y2]; exact n18
    have m19 : 0 < cN C1 19 := by rw [y2]; exact n19
    have g6 : cR C1 5 np 6 = some (ad 20 np) := by rw [cR_o e5]; exact hD.2.2.1
    have g7 : cI C1 5 np 7 = nI nn := by rw [cI_o e5]; exact hD.2.2.2
    have g2 : cR C1 7 0 2 = some (ad 19 0) := by rw [y3]; exact r2
    have g3 : cI C1 7 0 3 = nI np := by rw [y4 3 (by decide)]; exact r3
    refine mm_iload_n (pc := 11) dX7_add_11 rfl ?_
    refine mm_aload_n (pc := 12) dX7_add_12 rfl (by first | trivial | assumption | exact mm_isr_rf _) ?_
    refine cw_gi (pc := 13) 5 np 7 hC (rfl) rfl (m5) dX7_add_13 fl_X7_53 rfl rfl rfl ?_
    refine mm_topi _ g7 ?_
    refine mm_icmp_ge (pc := 16) (tgt := 44) dX7_add_16 (by decide) (fun c16 => absurd c16 (nI_ge (by omega) (by omega))) (fun c16 => ?_)
    refine mm_iload_n (pc := 19) dX7_add_19 rfl ?_
    refine mm_aload_n (pc := 20) dX7_add_20 rfl (by first | trivial | assumption | exact mm_isr_rf _) ?_
    refine cw_grS (pc := 21) 5 np 6 hC (rfl) rfl (m5) dX7_add_21 fl_X7_58 rfl rfl rfl (g6) ?_
    refine cw_alen (pc := 24) 20 np hC (rfl) rfl (m20) dX7_add_24 rfl rfl ?_
    refine mm_icmp_ge (pc := 25) (tgt := 44) dX7_add_25 (by decide) (fun c25 => absurd c25 (nI_ge (b := (10 : Nat)) (by omega) (by decide))) (fun c25 => ?_)
    refine mm_aload_n (pc := 28) dX7_add_28 rfl (by first | trivial | assumption | exact mm_isr_rf _) ?_
    refine mm_aload_n (pc := 29) dX7_add_29 rfl (by first | trivial | assumption | exact mm_isr_rf _) ?_
    refine cw_grS (pc := 30) 5 np 6 hC (rfl) rfl (m5) dX7_add_30 fl_X7_58 rfl rfl rfl (g6) ?_
    refine mm_iload_n (pc := 33) dX7_add_33 rfl ?_
    refine cw_aald (pc := 34) (v := (.ref (ad 4 (nk + i)))) 20 np i hC (rfl) rfl (m20) dX7_add_34 rfl rfl rfl (by first | with_reducible rfl | assumption | rfl) (by show i < 10; omega) (by omega) rfl (by rw [cR_o e20, hA i (by omega)]; rfl) ?_
    refine mm_callV (pc := 35) (As := [_]) (kd := ?kd_35_1) (fs := ?fs_35_1) dX7_add_35 vl_X7_59 (ap_ok (m := nk + i) m7 m18 (by rw [y2]; omega) (by omega) (by rw [y3]; exact r0) y5 hC) ?hc_35_1 ?hk_35_1 rfl rfl (Nat.le_of_ble_eq_true rfl) ?_; (case hc_35_1 => exact cw_cell (f := 7) hC rfl rfl m7); (case hk_35_1 => rfl)
    rintro _ h35 ⟨hC, e35, rfl⟩
    refine mm_iinc (pc := 38) dX7_add_38 rfl rfl rfl (Nat.le_of_ble_eq_true rfl) ?_
    refine mm_goto (pc := 41) (tgt := 11) dX7_add_41 (by decide) ?_
    refine mm_post (fun r_ h_ z_ => ?_) (mm_weakK (ih (i + 1) _ h35 (by omega) hy.next hC) (And.intro rfl (And.intro rfl (And.intro (congrArg (fun z => some (Value.int z)) (nI_add i 1)) trivial))))
    obtain ⟨C3, a_, b_, c_⟩ := z_
    exact ⟨C3, a_, by rw [b_, e35], c_⟩

theorem ad_ok {G : mm_G} {L : Nat × Nat} {d : Nat} {h : mm_H} {h0 : mm_H} {ad : Nat → Nat → Nat} {C : cw_C} {M : mw_S} {nk nn np : Nat} (hR : rgR ad C M nk np) (hD : pkD ad C np nn) (hA : ∀ i, i < nn → cR C 20 np i = some (ad 4 (nk + i))) (hn4 : nk + nn ≤ cN C 4) (hnn : nn ≤ 10) (hp : np < 12) (hk : nk + nn ≤ 40) (hC : cw ad h0 C h) : mm_Ok G mX7_add L (d + 1) [.ref (ad 7 0), .ref (ad 5 np)] h (fun r h1 => ∃ C3, cw ad h0 C3 h1 ∧ h1.2 = h.2 ∧ r = none ∧ adR ad C C3 nk nn np) := by
  refine mm_Ok.of [(0, .ref (ad 7 0)), (1, .ref (ad 5 np))] rfl kX7_add.2.2.2.2.2 rfl (fun A => ?_)
  have n7 := hR.1.1
  refine mm_aload_n (pc := 0) dX7_add_0 rfl (by first | trivial | assumption | exact mm_isr_rf _) ?_
  refine mm_aload_n (pc := 1) dX7_add_1 rfl (by first | trivial | assumption | exact mm_isr_rf _) ?_
  refine mm_callV (pc := 2) (As := [_]) (kd := ?kd_2_2) (fs := ?fs_2_2) dX7_add_2 vl_X7_54 (hr_ok hR hD hnn hC) ?hc_2_2 ?hk_2_2 rfl rfl (Nat.le_of_ble_eq_true rfl) ?_; (case hc_2_2 => exact cw_cell (f := 7) hC rfl rfl n7); (case hk_2_2 => rfl)
  rintro _ _ ⟨rfl, rfl⟩
  refine mm_if_ne (pc := 5) (tgt := 9) dX7_add_5 (by decide) (fun c5 => ?_) (fun c5 => absurd c5 (by rw [decide_eq_true ⟨hp, hk⟩]; decide))
  refine mm_iconst (pc := 9) (v := 0) dX7_add_9 (by decide) ?_
  refine mm_istore_n (pc := 10) dX7_add_10 rfl (Nat.le_of_ble_eq_true rfl) ?_
  exact mm_weakK (ad_loop hR hD hA hn4 hnn hp hk nn 0 C _ (by omega) ⟨fun _ _ _ => rfl, fun _ => rfl, fun _ => rfl, fun _ _ => rfl, hR.2.2.2.1, fun j => by rw [if_neg (by omega)]⟩ hC) (And.intro rfl (And.intro rfl (And.intro rfl trivial)))

