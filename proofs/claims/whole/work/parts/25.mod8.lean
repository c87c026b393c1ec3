theorem rk_loop {G : mm_G} {L : Nat × Nat} {h0 : mm_H} {m : Nat} {ad : Nat → Nat} {ab : Nat → Option Nat} {nk na : Nat} {oK oQ : Nat → Nat} {app K e : Nat} : ∀ n, ∀ (d : Nat) (A : Nat → Prop) (M : mw_S) (h : mm_H) (x : Int32) (k q t u : Nat), rn_G M nk na ab oK oQ app K → rn_I M e t u → 400 ≤ t + n → rm_lk na oK oQ k q x → k < nk → q < 6 → Ae ab K k → mw_W m ad h0 M h → ∀ Q : Option Value → mm_H → Prop, (∀ r h1, (∃ g, mw_W m ad h0 (mw_r25 (rnA ab n M x k q).2 g) h1 ∧ h1.2 = h.2 ∧ r = some (.int (rnA ab n M x k q).1)) → Q r h1) → mm_Run G mX12_runAll A L (d + 3 * n + 1) 3 [(4, .int x), (0, .ref m), (2, .int (nI k)), (3, .int (nI q))] [] h Q := by
  intro n
  induction n with
  | zero =>
    intro d A M h x k q t u g_ hI hn hl hk hq hK hW Q hQ
    refine mm_iload (pc := 3) dX12_runAll_3 rfl ?_
    refine mm_if_lt (pc := 5) (tgt := 60) dX12_runAll_5 (by decide) (fun c5 => ?_) (fun c5 => ?_)
    · refine mm_iconst (pc := 60) (v := 0) dX12_runAll_60 (by decide) ?_
      refine mm_iret (pc := 61) dX12_runAll_61 rfl ?_
      refine hQ _ _ ?_
      show ∃ g, mw_W m ad h0 (mw_r25 (if x < 0 then ((0 : Int32), M) else (3, M)).2 g) _ ∧ _ ∧ _ = some (Value.int (if x < 0 then ((0 : Int32), M) else (3, M)).1)
      rw [if_pos c5]
      obtain ⟨gg_, hW⟩ := mw_Wg hW
      exact ⟨gg_, hW, rfl, rfl⟩
    · refine mm_aload_n (pc := 8) dX12_runAll_8 rfl (by first | trivial | assumption | exact mm_isr_rf _) ?_
      refine mw_gets (pc := 9) 67 hW dX12_runAll_9 fl_X12_467 rfl rfl ?_
      refine mm_sipush (pc := 12) (v := 400) dX12_runAll_12 (by decide) ?_
      refine mm_icmp_ne (pc := 15) (tgt := 20) dX12_runAll_15 (by decide) (fun c15 => absurd (show M.1 67 = 400 by rw [hI.1.1, show t = 400 by have := hI.1.2; omega]; decide) c15) (fun c15 => ?_)
      refine mm_iconst (pc := 18) (v := 3) dX12_runAll_18 (by decide) ?_
      refine mm_iret (pc := 19) dX12_runAll_19 rfl ?_
      refine hQ _ _ ?_
      show ∃ g, mw_W m ad h0 (mw_r25 (if x < 0 then ((0 : Int32), M) else (3, M)).2 g) _ ∧ _ ∧ _ = some (Value.int (if x < 0 then ((0 : Int32), M) else (3, M)).1)
      rw [if_neg c5]
      obtain ⟨gg_, hW⟩ := mw_Wg hW
      exact ⟨gg_, hW, rfl, rfl⟩
  | succ n ih =>
    have rec_ : ∀ (d j : Nat), rk_R G L m ad h0 ab nk na oK oQ app K e n (d + 3 * n + 1 + j) := by
      intro d j M h x k q t u a1 a2 a3 a4 a5 a6 a7 a8
      rw [show d + 3 * n + 1 + j = (d + j) + 3 * n + 1 by omega]
      refine mm_Ok.of [(0, .ref m), (1, .int x), (2, .int (nI k)), (3, .int (nI q))] rfl kX12_runAll.2.2.2.2.2 rfl (fun A => ?_)
      refine mm_iload_n (pc := 0) dX12_runAll_0 rfl ?_
      refine mm_istore (pc := 1) dX12_runAll_1 rfl (Nat.le_of_ble_eq_true rfl) ?_
      exact mm_weakK (ih (d + j) A M h x k q t u a1 a2 a3 a4 a5 a6 a7 a8 _ (fun _ _ z => z)) (And.intro rfl (And.intro rfl (And.intro rfl (And.intro rfl trivial))))
    intro d A M h x k q t u g_ hI hn hl hk hq hK hW Q hQ
    show mm_Run G mX12_runAll A L (d + 3 * n + 4) 3 [(4, .int x), (0, .ref m), (2, .int (nI k)), (3, .int (nI q))] [] h Q
    refine mm_iload (pc := 3) dX12_runAll_3 rfl ?_
    refine mm_if_lt (pc := 5) (tgt := 60) dX12_runAll_5 (by decide) (fun c5 => ?_) (fun c5 => ?_)
    · refine mm_iconst (pc := 60) (v := 0) dX12_runAll_60 (by decide) ?_
      refine mm_iret (pc := 61) dX12_runAll_61 rfl ?_
      refine hQ _ _ ?_
      show ∃ g, mw_W m ad h0 (mw_r25 (if x < 0 then ((0 : Int32), M) else if M.1 67 = 400 then (3, M) else rnN (rnA ab n) (rnS ab (rnA ab n) (mw_setS M 67 (M.1 67 + 1)) x.toNatClampNeg k q) x.toNatClampNeg k q).2 g) _ ∧ _ ∧ _ = some (Value.int (if x < 0 then ((0 : Int32), M) else if M.1 67 = 400 then (3, M) else rnN (rnA ab n) (rnS ab (rnA ab n) (mw_setS M 67 (M.1 67 + 1)) x.toNatClampNeg k q) x.toNatClampNeg k q).1)
      rw [if_pos c5]
      obtain ⟨gg_, hW⟩ := mw_Wg hW
      exact ⟨gg_, hW, rfl, rfl⟩
    · refine mm_aload_n (pc := 8) dX12_runAll_8 rfl (by first | trivial | assumption | exact mm_isr_rf _) ?_
      refine mw_gets (pc := 9) 67 hW dX12_runAll_9 fl_X12_467 rfl rfl ?_
      refine mm_sipush (pc := 12) (v := 400) dX12_runAll_12 (by decide) ?_
      refine mm_icmp_ne (pc := 15) (tgt := 20) dX12_runAll_15 (by decide) (fun c15 => ?_) (fun c15 => ?_)
      · have ht2 : t < 400 := by
          rcases Nat.lt_or_ge t 400 with z | z
          · exact z
          · exact absurd (by rw [hI.1.1, show t = 400 by have := hI.1.2; omega]; decide) c15
        rcases hl with rfl | ⟨y, hy, rfl, rfl, rfl⟩
        · exact absurd (by decide) c5
        have hy4 := g_.2.1.1
        obtain ⟨k1, k2, k3⟩ := rn_tick hI ht2
        have hs1 : rn_same M (mw_setS M 67 (M.1 67 + 1)) := rn_sameS (Or.inr (Or.inl rfl))
        have g1_ := rn_G.same hs1 g_
        obtain ⟨s1_, ⟨t1_, ht1_, hI1_⟩, -⟩ := rnS_post (rnA_post n) g1_ k1 k2 k3 (by omega) hy hK
        have g2_ := rn_G.same s1_ g1_
        refine mm_aload_n (pc := 20) dX12_runAll_20 rfl (by first | trivial | assumption | exact mm_isr_rf _) ?_
        refine mm_dup (pc := 21) dX12_runAll_21 rfl ?_
        refine mw_gets (pc := 22) 67 hW dX12_runAll_22 fl_X12_467 rfl rfl ?_
        refine mm_iconst (pc := 25) (v := 1) dX12_runAll_25 (by decide) ?_
        refine mm_iadd (pc := 26) dX12_runAll_26 ?_
        refine mw_put (pc := 27) 67 hW dX12_runAll_27 (pl_X12_467 _) rfl (fun h27 hW e27 => ?_)
        refine mm_aload_n (pc := 30) dX12_runAll_30 rfl (by first | trivial | assumption | exact mm_isr_rf _) ?_
        refine mm_iload (pc := 31) dX12_runAll_31 rfl ?_
        refine mm_iload_n (pc := 33) dX12_runAll_33 rfl ?_
        refine mm_iload_n (pc := 34) dX12_runAll_34 rfl ?_
        refine mm_callV (pc := 35) (As := [_, _, _]) (kd := ?kd) (fs := ?fs) dX12_runAll_35 vl_X12_470 (ok_X12_run (M := mw_setS M 67 (M.1 67 + 1)) (d := d + 3 * n) (fun j => rec_ d j) g1_ k1 (by omega) k2 k3 hy hK hW) ?hc_35 ?hk_35 rfl rfl (Nat.le_of_ble_eq_true rfl) ?_; (case hc_35 => exact hW.1); (case hk_35 => rfl)
        rintro _ h35 ⟨g35, hW, e35, rfl⟩
        refine mm_istore (pc := 38) dX12_runAll_38 rfl (Nat.le_of_ble_eq_true rfl) ?_
        refine mm_iload (pc := 40) dX12_runAll_40 rfl ?_
        refine mm_if_eq (pc := 42) (tgt := 48) dX12_runAll_42 (by decide) (fun c42 => ?_) (fun c42 => ?_)
        · refine mm_aload_n (pc := 48) dX12_runAll_48 rfl (by first | trivial | assumption | exact mm_isr_rf _) ?_
          refine mw_geta (pc := 49) 18 hW dX12_runAll_49 fl_X12_60 rfl rfl ?_
          refine mm_iload (pc := 52) dX12_runAll_52 rfl ?_
          refine mw_iald (pc := 54) 18 y hW dX12_runAll_54 rfl rfl (by first | with_reducible rfl | assumption | rfl) (by show _ < 4000; omega) (by omega) ?_
          refine mm_istore (pc := 55) dX12_runAll_55 rfl (Nat.le_of_ble_eq_true rfl) ?_
          refine mm_goto (pc := 57) (tgt := 3) dX12_runAll_57 (by decide) ?_
          rw [show d + 3 * n + 3 + 1 = d + 3 + 3 * n + 1 by omega]
          refine mm_weakK (ih (d + 3) A (mw_r25 (rnS ab (rnA ab n) (mw_setS M 67 (M.1 67 + 1)) y (oK y) (oQ y)).2 g35) h35 ((rnS ab (rnA ab n) (mw_setS M 67 (M.1 67 + 1)) y (oK y) (oQ y)).2.2.2.1 18 y) (oK y) (oQ y) t1_ u (rn_G_r25 g35 g2_) (rn_I_r25 g35 hI1_) (by omega) (g2_.2.1.2.1 y hy).2.2.2.2.2.1 hk hq hK hW Q ?_) (And.intro rfl (And.intro rfl (And.intro rfl (And.intro rfl trivial))))
          rintro r h1 ⟨g2, hW2, e2, rfl⟩
          refine hQ _ _ ?_
          show ∃ g, mw_W m ad h0 (mw_r25 (if nI y < 0 then ((0 : Int32), M) else if M.1 67 = 400 then (3, M) else rnN (rnA ab n) (rnS ab (rnA ab n) (mw_setS M 67 (M.1 67 + 1)) (nI y).toNatClampNeg (oK y) (oQ y)) (nI y).toNatClampNeg (oK y) (oQ y)).2 g) _ ∧ _ ∧ _ = some (Value.int (if nI y < 0 then ((0 : Int32), M) else if M.1 67 = 400 then (3, M) else rnN (rnA ab n) (rnS ab (rnA ab n) (mw_setS M 67 (M.1 67 + 1)) (nI y).toNatClampNeg (oK y) (oQ y)) (nI y).toNatClampNeg (oK y) (oQ y)).1)
          rw [if_neg c5, if_neg c15, nI_clamp (by omega)]
          unfold rnN
          rw [if_pos c42]
          rw [rnA_r25 ab n] at hW2
          refine ⟨g2, ?_, by rw [e2, e35, e27], ?_⟩
          · rw [show mw_r25 (rp (rnA ab n (rnS ab (rnA ab n) (mw_setS M 67 (M.1 67 + 1)) y (oK y) (oQ y)).2 ((rnS ab (rnA ab n) (mw_setS M 67 (M.1 67 + 1)) y (oK y) (oQ y)).2.2.2.1 18 y) (oK y) (oQ y)) g35).2 g2 = mw_r25 (mw_r25 _ g35) g2 from rfl, mw_r25_r25] at hW2
            exact hW2
          · rw [rnA_r25 ab n]
            rfl
        · refine mm_iload (pc := 45) dX12_runAll_45 rfl ?_
          refine mm_iret (pc := 47) dX12_runAll_47 rfl ?_
          refine hQ _ _ ?_
          show ∃ g, mw_W m ad h0 (mw_r25 (if nI y < 0 then ((0 : Int32), M) else if M.1 67 = 400 then (3, M) else rnN (rnA ab n) (rnS ab (rnA ab n) (mw_setS M 67 (M.1 67 + 1)) (nI y).toNatClampNeg (oK y) (oQ y)) (nI y).toNatClampNeg (oK y) (oQ y)).2 g) _ ∧ _ ∧ _ = some (Value.int (if nI y < 0 then ((0 : Int32), M) else if M.1 67 = 400 then (3, M) else rnN (rnA ab n) (rnS ab (rnA ab n) (mw_setS M 67 (M.1 67 + 1)) (nI y).toNatClampNeg (oK y) (oQ y)) (nI y).toNatClampNeg (oK y) (oQ y)).1)
          rw [if_neg c5, if_neg c15, nI_clamp (by omega)]
          unfold rnN
          rw [if_neg c42]
          exact ⟨g35, hW, by rw [e35, e27], rfl⟩
      · refine mm_iconst (pc := 18) (v := 3) dX12_runAll_18 (by decide) ?_
        refine mm_iret (pc := 19) dX12_runAll_19 rfl ?_
        refine hQ _ _ ?_
        show ∃ g, mw_W m ad h0 (mw_r25 (if x < 0 then ((0 : Int32), M) else if M.1 67 = 400 then (3, M) else rnN (rnA ab n) (rnS ab (rnA ab n) (mw_setS M 67 (M.1 67 + 1)) x.toNatClampNeg k q) x.toNatClampNeg k q).2 g) _ ∧ _ ∧ _ = some (Value.int (if x < 0 then ((0 : Int32), M) else if M.1 67 = 400 then (3, M) else rnN (rnA ab n) (rnS ab (rnA ab n) (mw_setS M 67 (M.1 67 + 1)) x.toNatClampNeg k q) x.toNatClampNeg k q).1)
        rw [if_neg c5, if_pos c15]
        obtain ⟨gg_, hW⟩ := mw_Wg hW
        exact ⟨gg_, hW, rfl, rfl⟩
theorem ok_X12_runAll {G : mm_G} {L : Nat × Nat} {h0 : mm_H} {m : Nat} {ad : Nat → Nat} {ab : Nat → Option Nat} {nk na : Nat} {oK oQ : Nat → Nat} {app K e : Nat} {n d : Nat} : rk_R G L m ad h0 ab nk na oK oQ app K e n (d + 3 * n + 1) := by
  intro M h x k q t u a1 a2 a3 a4 a5 a6 a7 a8
  refine mm_Ok.of [(0, .ref m), (1, .int x), (2, .int (nI k)), (3, .int (nI q))] rfl kX12_runAll.2.2.2.2.2 rfl (fun A => ?_)
  refine mm_iload_n (pc := 0) dX12_runAll_0 rfl ?_
  refine mm_istore (pc := 1) dX12_runAll_1 rfl (Nat.le_of_ble_eq_true rfl) ?_
  exact mm_weakK (rk_loop n d A M h x k q t u a1 a2 a3 a4 a5 a6 a7 a8 _ (fun _ _ z => z)) (And.intro rfl (And.intro rfl (And.intro rfl (And.intro rfl trivial))))

/-- the template's own body of a hook -/
noncomputable def rnH (ab : Nat → Option Nat) (M : mw_S) (q : Nat) : Int32 × mw_S := rnU (rnA ab 400) M (rn_cho M ab 0 q (rn_K M)) q

theorem rn_root {M : mw_S} {nk na app K q : Nat} {ab : Nat → Option Nat} {oK oQ : Nat → Nat} (g_ : rn_G M nk na ab oK oQ app K) (h0K : Ae ab K 0) (h00 : rm_has M q 0 = true) : ∃ j, rn_cho M ab 0 q K = some j ∧ Ae ab K j ∧ j < nk ∧ rm_has M q j = true := by
  obtain ⟨j, hj⟩ := kfind_hit (P := fun x => Nat.beq x 0 || (rm_has M q x && ovB ab (rm_E M q) x 0)) g_.1.1 (by have := g_.1.2.1; omega) (j := 0) rfl (K + 1) K (by omega) g_.2.2.2.1.2 h0K
  obtain ⟨k1, k2, k3⟩ := Ae.at g_.1.1 (by have := g_.1.2.1; omega) g_.2.2.2.1.2 hj
  refine ⟨j, hj, k1, k3, ?_⟩
  rcases Bool.or_eq_true_iff.mp k2 with z | z
  · rw [Nat.eq_of_beq_eq_true z]
    exact h00
  · exact (Bool.and_eq_true_iff.mp z).1
theorem ok_X12_runHook {G : mm_G} {L : Nat × Nat} {h0 : mm_H} {m : Nat} {ad : Nat → Nat} {ab : Nat → Option Nat} {nk na : Nat} {oK oQ : Nat → Nat} {app K e : Nat} {M : mw_S} {h : mm_H} {d q t u : Nat} (g_ : rn_G M nk na ab oK oQ app K) (hI : rn_I M e t u) (hr : ∃ r, M.1 68 = nI r ∧ r + 1 ≤ t + e) (h0K : Ae ab K 0) (hq : q < 6) (h00 : rm_has M q 0 = true) (hW : mw_W m ad h0 M h) : mm_Ok G mX12_runHook L (d + 1203) [.ref m, .int (nI q)] h (fun r h1 => ∃ g, mw_W m ad h0 (mw_r25 (rnH ab M q).2 g) h1 ∧ h1.2 = h.2 ∧ r = some (.int (rnH ab M q).1)) := by
  refine mm_Ok.of [(0, .ref m), (1, .int (nI q))] rfl kX12_runHook.2.2.2.2.2 rfl (fun A => ?_)
  obtain ⟨j_, hj, j1, j2, j3⟩ := rn_root g_ h0K h00
  have hK : rn_K M = K := by
    unfold rn_K rn_app
    rw [g_.2.2.1.1, nI_clamp (by have := g_.2.2.1.2; omega), g_.2.2.2.1.1, nI_clamp (by have := g_.2.2.2.1.2; have := g_.1.2.1; omega)]
  have ha20 := g_.2.2.1.2
  refine mm_aload_n (pc := 0) dX12_runHook_0 rfl (by first | trivial | assumption | exact mm_isr_rf _) ?_
  refine mm_aload_n (pc := 1) dX12_runHook_1 rfl (by first | trivial | assumption | exact mm_isr_rf _) ?_
  refine mm_iconst (pc := 2) (v := 0) dX12_runHook_2 (by decide) ?_
  refine mm_iload_n (pc := 3) dX12_runHook_3 rfl ?_
  refine mm_aload_n (pc := 4) dX12_runHook_4 rfl (by first | trivial | assumption | exact mm_isr_rf _) ?_
  refine mw_geta (pc := 5) 49 hW dX12_runHook_5 fl_X12_109 rfl rfl ?_
  refine mm_aload_n (pc := 8) dX12_runHook_8 rfl (by first | trivial | assumption | exact mm_isr_rf _) ?_
  refine mw_gets (pc := 9) 61 hW dX12_runHook_9 fl_X12_479 rfl rfl ?_
  refine mw_iald (pc := 12) 49 app hW dX12_runHook_12 rfl rfl (g_.2.2.1.1) (by show _ < 20; omega) (by omega) ?_
  refine mm_topi _ g_.2.2.2.1.1 ?_
  refine mm_callV (pc := 13) (As := [_, _, _]) (kd := ?kd_13) (fs := ?fs_13) dX12_runHook_13 vl_X12_434 (ok_X12_choose (k := K) (q := q) (j := 0) g_.1 g_.2.2.2.1.2 hq h0K hW) ?hc_13 ?hk_13 rfl rfl (Nat.le_of_ble_eq_true rfl) ?_; (case hc_13 => exact hW.1); (case hk_13 => rfl)
  rintro _ h13 ⟨g13, hW, e13, rfl⟩
  refine mm_topi _ (show oI (rn_cho M ab 0 q K) = nI j_ by rw [hj]; rfl) ?_
  refine mm_iload_n (pc := 16) dX12_runHook_16 rfl ?_
  refine mm_callV (pc := 17) (As := [_, _]) (kd := ?kd_17) (fs := ?fs_17) dX12_runHook_17 vl_X12_476 (ok_X12_runBody (M := mw_r25 M g13) (n := 400) (d := d + 1200) (fun j => by rw [show d + 1200 + 1 + j = (d + j) + 3 * 400 + 1 by omega]; exact ok_X12_runAll) (rn_G_r25 g13 g_) (rn_I_r25 g13 hI) (by omega) hr j2 hq j3 j1 hW) ?hc_17 ?hk_17 rfl rfl (Nat.le_of_ble_eq_true rfl) ?_; (case hc_17 => exact hW.1); (case hk_17 => rfl)
  rintro _ h17 ⟨g17, hW, e17, rfl⟩
  refine mm_iret (pc := 20) dX12_runHook_20 rfl ?_
  rw [rnB_r25 (rnA_r25 ab 400)] at hW ⊢
  rw [show (rp (rnB (rnA ab 400) M j_ q) g13).2 = mw_r25 (rnB (rnA ab 400) M j_ q).2 g13 from rfl, mw_r25_r25] at hW
  exact ⟨g17, by unfold rnH; rw [hK, hj]; exact hW, by rw [e17, e13], by unfold rnH; rw [hK, hj]; rfl⟩

