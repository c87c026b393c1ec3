/-! the template of the class -/
def flP (ad : Nat → Nat → Nat) (h0 h : mm_H) (C : cw_C) (ab : Nat → Option Nat) (nk app K : Nat) (B : rB_T) (F : Int32 × Int32 × mw_S) (r : Option Value) (h1 : mm_H) : Prop := ∃ C' T, cw ad h0 C' h1 ∧ h1.2 = h.2 ∧ r = some (.int (wy F.1)) ∧ T ≤ 400 ∧ rX ad C' F.2.2 ab nk app K B T ∧ rF app C C' ∧ cI C' 8 0 0 = if F.1 = 1 ∨ F.1 = 2 then F.2.1 else 0
section FLP
variable {ab : Nat → Option Nat} {M : mw_S} {w : Int32 × mw_S} {ad : Nat → Nat → Nat} {h h0 h1 h2 : mm_H} {C C1 : cw_C} {nk app K : Nat} {B : rB_T} {F : Int32 × Int32 × mw_S} {r : Option Value}
theorem flP.tr (z : flP ad h0 h1 C1 ab nk app K B F r h2) (e : h1.2 = h.2) (hF : rF app C C1) : flP ad h0 h C ab nk app K B F r h2 := by
  obtain ⟨C', T, a, b, c, d, e', f, g⟩ := z
  exact ⟨C', T, a, b.trans e, c, d, e', hF.trans f, g⟩
theorem fl70_c3 {y : Int32} (h : ¬ y = 3) (h65 : M.1 65 = 0) (hc : (rnH ab M 5).1 = 3) : ∃ z, fl70 ab (y, M) = (3, z, (rnH ab M 5).2) := by
  unfold fl70
  rw [if_neg (show ¬ (y, M).1 = 3 from h), show mw_setS (y, M).2 65 0 = M from mw_setS_self h65, if_pos hc]
  exact ⟨_, rfl⟩
theorem fl70_0 (h65 : M.1 65 = 0) (hc : ¬ (rnH ab M 5).1 = 3) : fl70 ab (0, M) = ((rnH ab M 5).1, if (rnH ab M 5).1 = 0 then M.1 64 else (rnH ab M 5).2.1 64, (rnH ab M 5).2) := by
  unfold fl70
  rw [if_neg (show ¬ ((0 : Int32), M).1 = 3 by show ¬ (0 : Int32) = 3; decide), show mw_setS ((0 : Int32), M).2 65 0 = M from mw_setS_self h65, if_neg hc, if_pos rfl, if_pos rfl]
theorem fl70_1 (h65 : M.1 65 = 0) (hc : ¬ (rnH ab M 5).1 = 3) : fl70 ab (1, M) = (1, M.1 64, (rnH ab M 5).2) := by
  unfold fl70
  rw [if_neg (show ¬ ((1 : Int32), M).1 = 3 by show ¬ (1 : Int32) = 3; decide), show mw_setS ((1 : Int32), M).2 65 0 = M from mw_setS_self h65, if_neg hc, if_neg (show ¬ ((1 : Int32), M).1 = 0 by show ¬ (1 : Int32) = 0; decide), if_neg (show ¬ ((1 : Int32), M).1 = 0 by show ¬ (1 : Int32) = 0; decide)]
  split <;> rfl
end FLP

theorem fo_3 {G : mm_G} {L : Nat × Nat} {d : Nat} {h : mm_H} {A : Nat → Prop} {h0 : mm_H} {ad : Nat → Nat → Nat} {ab : Nat → Option Nat} {nk na : Nat} {oK oQ : Nat → Nat} {app K : Nat} {B : rB_T} {e t : Nat} {C : cw_C} {M : mw_S} (H : rHy ad ab nk na oK oQ app K B e 400 M C t 0 t) (he : e + 1 ≤ 6) (h0K : Ae ab K 0) (hH : rn_H M) (h63 : M.1 63 = 0) (hd : 201 ≤ d) (hC : cw ad h0 C h) : mm_Run G mX8_follow A L d 70 [(4, .int 3), (1, .ref (ad 4 0)), (0, .ref (ad 8 0))] [] h (flP ad h0 h C ab nk app K B (fl70 ab (3, M))) := by
  have hX := H.2.2.2.2.1
  have n8 := hX.n8
  have h65 : M.1 65 = 0 := H.2.1.2.1.1
  have hK : K < nk := H.1.2.2.2.1.2
  have hnk : 0 < nk := Nat.lt_of_le_of_lt (Nat.zero_le _) hK
  have n4 : 0 < cN C 4 := Nat.lt_of_lt_of_le hnk hX.1.1.2.2.1
  have hR := (rnH_post H.1 H.2.1 he h0K (show 5 < 6 by decide) (hH 5 (by decide))).2.2
  have hR2 := (nR_H (ab := ab) (q := 5) h63).1
  obtain ⟨d0, rfl⟩ : ∃ d0, d = d0 + 1 := ⟨d - 1, by omega⟩
  have hbo : mm_Ok G mX4_bodyOf L d0 [.ref (ad 4 0), .int (nI 5)] h (fun r h1 => h1 = h ∧ r = some (.ref (ad 1 (gb M 0 5)))) := by
    refine mm_Ok.post (ck_bo hX.1 hC hnk (by decide)) ?_
    rintro r h1 ⟨a, b⟩
    exact ⟨a, by rw [b]; unfold xbo; rw [if_pos (hH 5 (by decide))]; rfl⟩
  refine mm_aload_n (pc := 70) dX8_follow_70 rfl (by first | trivial | assumption | exact mm_isr_rf _) ?_
  refine cw_gi (pc := 71) 8 _ 0 hC (rfl) rfl (n8) dX8_follow_71 fl_X8_9 rfl rfl rfl ?_
  refine mm_istore (pc := 74) dX8_follow_74 rfl (Nat.le_of_ble_eq_true rfl) ?_
  refine mm_iload (pc := 76) dX8_follow_76 rfl ?_
  refine mm_iconst (pc := 78) (v := 3) dX8_follow_78 (by decide) ?_
  refine mm_icmp_ne (pc := 79) (tgt := 86) dX8_follow_79 (by decide) (fun c79 => absurd rfl c79) (fun c79 => ?_)
  refine mm_iconst (pc := 82) (v := 3) dX8_follow_82 (by decide) ?_
  refine mm_goto (pc := 83) (tgt := 96) dX8_follow_83 (by decide) ?_
  refine mm_istore (pc := 96) dX8_follow_96 rfl (Nat.le_of_ble_eq_true rfl) ?_
  refine mm_iload (pc := 98) dX8_follow_98 rfl ?_
  refine mm_iconst (pc := 100) (v := 3) dX8_follow_100 (by decide) ?_
  refine mm_icmp_eq (pc := 101) (tgt := 119) dX8_follow_101 (by decide) (fun c101 => ?_) (fun c101 => absurd rfl c101)
  refine mm_iload (pc := 119) dX8_follow_119 rfl ?_
  refine mm_iconst (pc := 121) (v := 2) dX8_follow_121 (by decide) ?_
  refine mm_icmp_eq (pc := 122) (tgt := 130) dX8_follow_122 (by decide) (fun c122 => absurd c122 (by decide)) (fun c122 => ?_)
  refine mm_aload_n (pc := 125) dX8_follow_125 rfl (by first | trivial | assumption | exact mm_isr_rf _) ?_
  refine mm_iconst (pc := 126) (v := 0) dX8_follow_126 (by decide) ?_
  refine cw_pi (pc := 127) 8 _ 0 hC (rfl) rfl (n8) dX8_follow_127 (pl_X8_9 _) rfl rfl (rfl) (rfl) (fun h127 hC e127 => ?_)
  refine mm_iload (pc := 130) dX8_follow_130 rfl ?_
  refine mm_iret (pc := 132) dX8_follow_132 rfl ?_
  rw [show fl70 ab (3, M) = (3, M.1 64, M) from if_pos rfl]
  exact ⟨_, t, hC, e127, rfl, H.2.1.1.2, rX_0 hX, rF_8 rfl, cI_sI_e⟩

theorem fo_0 {G : mm_G} {L : Nat × Nat} {d : Nat} {h : mm_H} {A : Nat → Prop} {h0 : mm_H} {ad : Nat → Nat → Nat} {ab : Nat → Option Nat} {nk na : Nat} {oK oQ : Nat → Nat} {app K : Nat} {B : rB_T} {e t : Nat} {C : cw_C} {M : mw_S} (H : rHy ad ab nk na oK oQ app K B e 400 M C t 0 t) (he : e + 1 ≤ 6) (h0K : Ae ab K 0) (hH : rn_H M) (h63 : M.1 63 = 0) (hd : 201 ≤ d) (hC : cw ad h0 C h) : mm_Run G mX8_follow A L d 70 [(4, .int 0), (1, .ref (ad 4 0)), (0, .ref (ad 8 0))] [] h (flP ad h0 h C ab nk app K B (fl70 ab (0, M))) := by
  have hX := H.2.2.2.2.1
  have n8 := hX.n8
  have h65 : M.1 65 = 0 := H.2.1.2.1.1
  have hK : K < nk := H.1.2.2.2.1.2
  have hnk : 0 < nk := Nat.lt_of_le_of_lt (Nat.zero_le _) hK
  have n4 : 0 < cN C 4 := Nat.lt_of_lt_of_le hnk hX.1.1.2.2.1
  have hR := (rnH_post H.1 H.2.1 he h0K (show 5 < 6 by decide) (hH 5 (by decide))).2.2
  have hR2 := (nR_H (ab := ab) (q := 5) h63).1
  obtain ⟨d0, rfl⟩ : ∃ d0, d = d0 + 1 := ⟨d - 1, by omega⟩
  have hbo : mm_Ok G mX4_bodyOf L d0 [.ref (ad 4 0), .int (nI 5)] h (fun r h1 => h1 = h ∧ r = some (.ref (ad 1 (gb M 0 5)))) := by
    refine mm_Ok.post (ck_bo hX.1 hC hnk (by decide)) ?_
    rintro r h1 ⟨a, b⟩
    exact ⟨a, by rw [b]; unfold xbo; rw [if_pos (hH 5 (by decide))]; rfl⟩
  refine mm_aload_n (pc := 70) dX8_follow_70 rfl (by first | trivial | assumption | exact mm_isr_rf _) ?_
  refine cw_gi (pc := 71) 8 _ 0 hC (rfl) rfl (n8) dX8_follow_71 fl_X8_9 rfl rfl rfl ?_
  refine mm_istore (pc := 74) dX8_follow_74 rfl (Nat.le_of_ble_eq_true rfl) ?_
  refine mm_iload (pc := 76) dX8_follow_76 rfl ?_
  refine mm_iconst (pc := 78) (v := 3) dX8_follow_78 (by decide) ?_
  refine mm_icmp_ne (pc := 79) (tgt := 86) dX8_follow_79 (by decide) (fun c79 => ?_) (fun c79 => absurd c79 (by decide))
  refine mm_aload_n (pc := 86) dX8_follow_86 rfl (by first | trivial | assumption | exact mm_isr_rf _) ?_
  refine mm_aload_n (pc := 87) dX8_follow_87 rfl (by first | trivial | assumption | exact mm_isr_rf _) ?_
  refine mm_iconst (pc := 88) (v := 5) dX8_follow_88 (by decide) ?_
  refine mm_callV (pc := 89) (As := [_]) (kd := ?kd_89_1) (fs := ?fs_89_1) dX8_follow_89 vl_X8_61 (hbo) ?hc_89_1 ?hk_89_1 rfl rfl (Nat.le_of_ble_eq_true rfl) ?_; (case hc_89_1 => exact cw_cell (f := 4) hC rfl rfl n4); (case hk_89_1 => rfl)
  rintro _ _ ⟨rfl, rfl⟩
  refine mm_iconst (pc := 92) (v := 0) dX8_follow_92 (by decide) ?_
  refine mm_callV (pc := 93) (As := [_, _]) (kd := ?kd_93_2) (fs := ?fs_93_2) dX8_follow_93 vl_X8_67 (rh_ok H he h0K (by decide) (hH 5 (by decide)) (by omega) hC) ?hc_93_2 ?hk_93_2 rfl rfl (Nat.le_of_ble_eq_true rfl) ?_; (case hc_93_2 => exact cw_cell (f := 8) hC rfl rfl n8); (case hk_93_2 => rfl)
  rintro _ h93 ⟨C5, T5, hC5, s5, rfl, ⟨w1, w2⟩, x5, f5, z5⟩
  have hC := hC5
  refine mm_istore (pc := 96) dX8_follow_96 rfl (Nat.le_of_ble_eq_true rfl) ?_
  refine mm_iload (pc := 98) dX8_follow_98 rfl ?_
  refine mm_iconst (pc := 100) (v := 3) dX8_follow_100 (by decide) ?_
  refine mm_icmp_eq (pc := 101) (tgt := 119) dX8_follow_101 (by decide) (fun c101 => ?_) (fun c101 => ?_)
  · refine mm_iload (pc := 119) dX8_follow_119 rfl ?_
    refine mm_iconst (pc := 121) (v := 2) dX8_follow_121 (by decide) ?_
    refine mm_icmp_eq (pc := 122) (tgt := 130) dX8_follow_122 (by decide) (fun c122 => absurd c122 (by rw [c101]; decide)) (fun c122 => ?_)
    refine mm_aload_n (pc := 125) dX8_follow_125 rfl (by first | trivial | assumption | exact mm_isr_rf _) ?_
    refine mm_iconst (pc := 126) (v := 0) dX8_follow_126 (by decide) ?_
    refine cw_pi (pc := 127) 8 _ 0 hC (rfl) rfl ((by first | exact n8 | exact x5.n8 | (rw [cw_sI_N]; exact x5.n8))) dX8_follow_127 (pl_X8_9 _) rfl rfl (rfl) (rfl) (fun h127 hC e127 => ?_)
    refine mm_iload (pc := 130) dX8_follow_130 rfl ?_
    refine mm_iret (pc := 132) dX8_follow_132 rfl ?_
    have hc3 := (wy_2 hR).2.2.2.mp c101
    obtain ⟨y_, ey_⟩ := fl70_c3 (y := 0) (by decide) h65 hc3
    rw [ey_]
    exact ⟨_, T5, hC, e127.trans s5, by rw [hc3], w2, rX_0 x5, f5.trans (rF_8 rfl), cI_sI_e⟩
  · refine mm_iload (pc := 104) dX8_follow_104 rfl ?_
    refine mm_iconst (pc := 106) (v := 2) dX8_follow_106 (by decide) ?_
    refine mm_icmp_ne (pc := 107) (tgt := 119) dX8_follow_107 (by decide) (fun c107 => ?_) (fun c107 => absurd c107 (by decide))
    refine mm_iload (pc := 119) dX8_follow_119 rfl ?_
    refine mm_iconst (pc := 121) (v := 2) dX8_follow_121 (by decide) ?_
    refine mm_icmp_eq (pc := 122) (tgt := 130) dX8_follow_122 (by decide) (fun c122 => ?_) (fun c122 => ?_)
    · refine mm_iload (pc := 130) dX8_follow_130 rfl ?_
      refine mm_iret (pc := 132) dX8_follow_132 rfl ?_
      have hc1 := (wy_2 hR).1.mp c122
      rw [fl70_0 h65 (fun z => c101 ((wy_2 hR).2.2.2.mpr z)), hc1, if_neg (by decide)]
      exact ⟨_, T5, hC, s5, rfl, w2, x5, f5, (z5 (Or.inl hc1)).trans (if_pos (Or.inl rfl)).symm⟩
    · refine mm_aload_n (pc := 125) dX8_follow_125 rfl (by first | trivial | assumption | exact mm_isr_rf _) ?_
      refine mm_iconst (pc := 126) (v := 0) dX8_follow_126 (by decide) ?_
      refine cw_pi (pc := 127) 8 _ 0 hC (rfl) rfl ((by first | exact n8 | exact x5.n8 | (rw [cw_sI_N]; exact x5.n8))) dX8_follow_127 (pl_X8_9 _) rfl rfl (rfl) (rfl) (fun h127 hC e127 => ?_)
      refine mm_iload (pc := 130) dX8_follow_130 rfl ?_
      refine mm_iret (pc := 132) dX8_follow_132 rfl ?_
      have hc1 := fun z => c122 ((wy_2 hR).1.mpr z)
      have hc3 := fun z => c101 ((wy_2 hR).2.2.2.mpr z)
      have hc0 : (rnH ab M 5).1 = 0 := by
        rcases hR with z | z | z | z
        · exact z
        · exact absurd z hc1
        · exact absurd z hR2
        · exact absurd z hc3
      rw [fl70_0 h65 hc3, hc0]
      exact ⟨_, T5, hC, e127.trans s5, rfl, w2, rX_0 x5, f5.trans (rF_8 rfl), cI_sI_e⟩

theorem fo_1 {G : mm_G} {L : Nat × Nat} {d : Nat} {h : mm_H} {A : Nat → Prop} {h0 : mm_H} {ad : Nat → Nat → Nat} {ab : Nat → Option Nat} {nk na : Nat} {oK oQ : Nat → Nat} {app K : Nat} {B : rB_T} {e t : Nat} {C : cw_C} {M : mw_S} (H : rHy ad ab nk na oK oQ app K B e 400 M C t 0 t) (he : e + 1 ≤ 6) (h0K : Ae ab K 0) (hH : rn_H M) (h63 : M.1 63 = 0) (hd : 201 ≤ d) (hC : cw ad h0 C h) (hnum : cI C 8 0 0 = M.1 64) : mm_Run G mX8_follow A L d 70 [(4, .int 2), (1, .ref (ad 4 0)), (0, .ref (ad 8 0))] [] h (flP ad h0 h C ab nk app K B (fl70 ab (1, M))) := by
  have hX := H.2.2.2.2.1
  have n8 := hX.n8
  have h65 : M.1 65 = 0 := H.2.1.2.1.1
  have hK : K < nk := H.1.2.2.2.1.2
  have hnk : 0 < nk := Nat.lt_of_le_of_lt (Nat.zero_le _) hK
  have n4 : 0 < cN C 4 := Nat.lt_of_lt_of_le hnk hX.1.1.2.2.1
  have hR := (rnH_post H.1 H.2.1 he h0K (show 5 < 6 by decide) (hH 5 (by decide))).2.2
  have hR2 := (nR_H (ab := ab) (q := 5) h63).1
  obtain ⟨d0, rfl⟩ : ∃ d0, d = d0 + 1 := ⟨d - 1, by omega⟩
  have hbo : mm_Ok G mX4_bodyOf L d0 [.ref (ad 4 0), .int (nI 5)] h (fun r h1 => h1 = h ∧ r = some (.ref (ad 1 (gb M 0 5)))) := by
    refine mm_Ok.post (ck_bo hX.1 hC hnk (by decide)) ?_
    rintro r h1 ⟨a, b⟩
    exact ⟨a, by rw [b]; unfold xbo; rw [if_pos (hH 5 (by decide))]; rfl⟩
  refine mm_aload_n (pc := 70) dX8_follow_70 rfl (by first | trivial | assumption | exact mm_isr_rf _) ?_
  refine cw_gi (pc := 71) 8 _ 0 hC (rfl) rfl (n8) dX8_follow_71 fl_X8_9 rfl rfl rfl ?_
  refine mm_istore (pc := 74) dX8_follow_74 rfl (Nat.le_of_ble_eq_true rfl) ?_
  refine mm_iload (pc := 76) dX8_follow_76 rfl ?_
  refine mm_iconst (pc := 78) (v := 3) dX8_follow_78 (by decide) ?_
  refine mm_icmp_ne (pc := 79) (tgt := 86) dX8_follow_79 (by decide) (fun c79 => ?_) (fun c79 => absurd c79 (by decide))
  refine mm_aload_n (pc := 86) dX8_follow_86 rfl (by first | trivial | assumption | exact mm_isr_rf _) ?_
  refine mm_aload_n (pc := 87) dX8_follow_87 rfl (by first | trivial | assumption | exact mm_isr_rf _) ?_
  refine mm_iconst (pc := 88) (v := 5) dX8_follow_88 (by decide) ?_
  refine mm_callV (pc := 89) (As := [_]) (kd := ?kd_89_3) (fs := ?fs_89_3) dX8_follow_89 vl_X8_61 (hbo) ?hc_89_3 ?hk_89_3 rfl rfl (Nat.le_of_ble_eq_true rfl) ?_; (case hc_89_3 => exact cw_cell (f := 4) hC rfl rfl n4); (case hk_89_3 => rfl)
  rintro _ _ ⟨rfl, rfl⟩
  refine mm_iconst (pc := 92) (v := 0) dX8_follow_92 (by decide) ?_
  refine mm_callV (pc := 93) (As := [_, _]) (kd := ?kd_93_4) (fs := ?fs_93_4) dX8_follow_93 vl_X8_67 (rh_ok H he h0K (by decide) (hH 5 (by decide)) (by omega) hC) ?hc_93_4 ?hk_93_4 rfl rfl (Nat.le_of_ble_eq_true rfl) ?_; (case hc_93_4 => exact cw_cell (f := 8) hC rfl rfl n8); (case hk_93_4 => rfl)
  rintro _ h93 ⟨C5, T5, hC5, s5, rfl, ⟨w1, w2⟩, x5, f5, z5⟩
  have hC := hC5
  refine mm_istore (pc := 96) dX8_follow_96 rfl (Nat.le_of_ble_eq_true rfl) ?_
  refine mm_iload (pc := 98) dX8_follow_98 rfl ?_
  refine mm_iconst (pc := 100) (v := 3) dX8_follow_100 (by decide) ?_
  refine mm_icmp_eq (pc := 101) (tgt := 119) dX8_follow_101 (by decide) (fun c101 => ?_) (fun c101 => ?_)
  · refine mm_iload (pc := 119) dX8_follow_119 rfl ?_
    refine mm_iconst (pc := 121) (v := 2) dX8_follow_121 (by decide) ?_
    refine mm_icmp_eq (pc := 122) (tgt := 130) dX8_follow_122 (by decide) (fun c122 => absurd c122 (by rw [c101]; decide)) (fun c122 => ?_)
    refine mm_aload_n (pc := 125) dX8_follow_125 rfl (by first | trivial | assumption | exact mm_isr_rf _) ?_
    refine mm_iconst (pc := 126) (v := 0) dX8_follow_126 (by decide) ?_
    refine cw_pi (pc := 127) 8 _ 0 hC (rfl) rfl ((by first | exact n8 | exact x5.n8 | (rw [cw_sI_N]; exact x5.n8))) dX8_follow_127 (pl_X8_9 _) rfl rfl (rfl) (rfl) (fun h127 hC e127 => ?_)
    refine mm_iload (pc := 130) dX8_follow_130 rfl ?_
    refine mm_iret (pc := 132) dX8_follow_132 rfl ?_
    have hc3 := (wy_2 hR).2.2.2.mp c101
    obtain ⟨y_, ey_⟩ := fl70_c3 (y := 1) (by decide) h65 hc3
    rw [ey_]
    exact ⟨_, T5, hC, e127.trans s5, by rw [hc3], w2, rX_0 x5, f5.trans (rF_8 rfl), cI_sI_e⟩
  · refine mm_iload (pc := 104) dX8_follow_104 rfl ?_
    refine mm_iconst (pc := 106) (v := 2) dX8_follow_106 (by decide) ?_
    refine mm_icmp_ne (pc := 107) (tgt := 119) dX8_follow_107 (by decide) (fun c107 => absurd rfl c107) (fun c107 => ?_)
    refine mm_iconst (pc := 110) (v := 2) dX8_follow_110 (by decide) ?_
    refine mm_istore (pc := 111) dX8_follow_111 rfl (Nat.le_of_ble_eq_true rfl) ?_
    refine mm_aload_n (pc := 113) dX8_follow_113 rfl (by first | trivial | assumption | exact mm_isr_rf _) ?_
    refine mm_iload (pc := 114) dX8_follow_114 rfl ?_
    refine cw_pi (pc := 116) 8 _ 0 hC (rfl) rfl ((by first | exact n8 | exact x5.n8 | (rw [cw_sI_N]; exact x5.n8))) dX8_follow_116 (pl_X8_9 _) rfl rfl (rfl) (rfl) (fun h116 hC e116 => ?_)
    refine mm_iload (pc := 119) dX8_follow_119 rfl ?_
    refine mm_iconst (pc := 121) (v := 2) dX8_follow_121 (by decide) ?_
    refine mm_icmp_eq (pc := 122) (tgt := 130) dX8_follow_122 (by decide) (fun c122 => ?_) (fun c122 => absurd rfl c122)
    refine mm_iload (pc := 130) dX8_follow_130 rfl ?_
    refine mm_iret (pc := 132) dX8_follow_132 rfl ?_
    have hc3 := fun z => c101 ((wy_2 hR).2.2.2.mpr z)
    rw [fl70_1 h65 hc3]
    exact ⟨_, T5, hC, e116.trans s5, rfl, w2, rX_0 x5, f5.trans (rF_8 rfl), cI_sI_e.trans hnum⟩

theorem fo_70 {G : mm_G} {L : Nat × Nat} {d : Nat} {h : mm_H} {A : Nat → Prop} {h0 : mm_H} {ad : Nat → Nat → Nat} {ab : Nat → Option Nat} {nk na : Nat} {oK oQ : Nat → Nat} {app K : Nat} {B : rB_T} {e t : Nat} {C : cw_C} {M : mw_S} (H : rHy ad ab nk na oK oQ app K B e 400 M C t 0 t) (he : e + 1 ≤ 6) (h0K : Ae ab K 0) (hH : rn_H M) (h63 : M.1 63 = 0) (hd : 201 ≤ d) (hC : cw ad h0 C h) {w : Int32} (hw : w = 0 ∨ w = 1 ∨ w = 2 ∨ w = 3) (hw2 : ¬ w = 2) (hnum : w = 1 → cI C 8 0 0 = M.1 64) : mm_Run G mX8_follow A L d 70 [(4, .int (wy w)), (1, .ref (ad 4 0)), (0, .ref (ad 8 0))] [] h (flP ad h0 h C ab nk app K B (fl70 ab (w, M))) := by
  rcases hw with rfl | rfl | rfl | rfl
  · exact fo_0 H he h0K hH h63 hd hC
  · exact fo_1 H he h0K hH h63 hd hC (hnum rfl)
  · exact absurd rfl hw2
  · exact fo_3 H he h0K hH h63 hd hC

theorem fo_lp {G : mm_G} {L : Nat × Nat} {d : Nat} {A : Nat → Prop} {h0 : mm_H} {ad : Nat → Nat → Nat} {ab : Nat → Option Nat} {nk na : Nat} {oK oQ : Nat → Nat} {app K : Nat} {B : rB_T} (h0K : Ae ab K 0) (hd : 201 ≤ d) : ∀ (v q : Nat) (w : Int32) (C : cw_C) (M : mw_S) (t : Nat) (h : mm_H), q + v = 5 → rHy ad ab nk na oK oQ app K B q 400 M C t 0 t → rn_H M → M.1 63 = 0 → cw ad h0 C h → (w = 0 ∨ w = 1 ∨ w = 2 ∨ w = 3) → ¬ w = 2 → (w = 1 → cI C 8 0 0 = M.1 64) → mm_Run G mX8_follow A L d 40 [(5, .int (nI q)), (4, .int (wy w)), (1, .ref (ad 4 0)), (0, .ref (ad 8 0))] [] h (flP ad h0 h C ab nk app K B (fl70 ab (rnW ab v q (w, M)))) := by
  intro v
  induction v with
  | zero =>
    intro q w C M t h hv H hH h63 hC hw hw2 hnum
    have eq5 : q = 5 := by omega
    subst eq5
    refine mm_iload (pc := 40) dX8_follow_40 rfl ?_
    refine mm_iconst (pc := 42) (v := 4) dX8_follow_42 (by decide) ?_
    refine mm_icmp_gt (pc := 43) (tgt := 70) dX8_follow_43 (by decide) (fun c43 => ?_) (fun c43 => absurd ((nI_ltI (a := 4) (by decide) (by decide)).mpr (by omega)) c43)
    exact mm_weakK (fo_70 H (by omega) h0K hH h63 hd hC hw hw2 hnum) (And.intro rfl (And.intro rfl (And.intro rfl trivial)))
  | succ v ih =>
    intro q w C M t h hv H hH h63 hC hw hw2 hnum
    have hX := H.2.2.2.2.1
    have hK : K < nk := H.1.2.2.2.1.2
    have hnk : 0 < nk := Nat.lt_of_le_of_lt (Nat.zero_le _) hK
    have n4 : 0 < cN C 4 := Nat.lt_of_lt_of_le hnk hX.1.1.2.2.1
    have n8 := hX.n8
    have hPP := rnH_post (q := q) H.1 H.2.1 (by omega) h0K (by omega) (hH q (by omega))
    obtain ⟨d0, rfl⟩ : ∃ d0, d = d0 + 1 := ⟨d - 1, by omega⟩
    have hbo : mm_Ok G mX4_bodyOf L d0 [.ref (ad 4 0), .int (nI q)] h (fun r h1 => h1 = h ∧ r = some (.ref (ad 1 (gb M 0 q)))) := by
      refine mm_Ok.post (ck_bo hX.1 hC hnk (by omega)) ?_
      rintro r h1 ⟨a, b⟩
      exact ⟨a, by rw [b]; unfold xbo; rw [if_pos (hH q (by omega))]; rfl⟩
    refine mm_iload (pc := 40) dX8_follow_40 rfl ?_
    refine mm_iconst (pc := 42) (v := 4) dX8_follow_42 (by decide) ?_
    refine mm_icmp_gt (pc := 43) (tgt := 70) dX8_follow_43 (by decide) (fun c43 => absurd c43 (fun z => absurd ((nI_ltI (a := 4) (by decide) (by omega)).mp z) (by omega))) (fun c43 => ?_)
    refine mm_iload (pc := 46) dX8_follow_46 rfl ?_
    refine mm_if_ne (pc := 48) (tgt := 70) dX8_follow_48 (by decide) (fun c48 => ?_) (fun c48 => ?_)
    · rw [show rnW ab (v + 1) q (w, M) = (w, M) from if_neg (fun z => c48 ((wy_2 hw).2.1.mpr z))]
      exact mm_weakK (fo_70 H (by omega) h0K hH h63 hd hC hw hw2 hnum) (And.intro rfl (And.intro rfl (And.intro rfl trivial)))
    · refine mm_aload_n (pc := 51) dX8_follow_51 rfl (by first | trivial | assumption | exact mm_isr_rf _) ?_
      refine mm_aload_n (pc := 52) dX8_follow_52 rfl (by first | trivial | assumption | exact mm_isr_rf _) ?_
      refine mm_iload (pc := 53) dX8_follow_53 rfl ?_
      refine mm_callV (pc := 55) (As := [_]) (kd := ?kd_55_5) (fs := ?fs_55_5) dX8_follow_55 vl_X8_61 (hbo) ?hc_55_5 ?hk_55_5 rfl rfl (Nat.le_of_ble_eq_true rfl) ?_; (case hc_55_5 => exact cw_cell (f := 4) hC rfl rfl n4); (case hk_55_5 => rfl)
      rintro _ _ ⟨rfl, rfl⟩
      refine mm_iconst (pc := 58) (v := 0) dX8_follow_58 (by decide) ?_
      refine mm_callV (pc := 59) (As := [_, _]) (kd := ?kd_59_6) (fs := ?fs_59_6) dX8_follow_59 vl_X8_67 (rh_ok H (by omega) h0K (by omega) (hH q (by omega)) (by omega) hC) ?hc_59_6 ?hk_59_6 rfl rfl (Nat.le_of_ble_eq_true rfl) ?_; (case hc_59_6 => exact cw_cell (f := 8) hC rfl rfl n8); (case hk_59_6 => rfl)
      rintro _ h59 ⟨C5, T5, hC5, s5, rfl, ⟨w1, w2⟩, x5, f5, z5⟩
      have hC := hC5
      refine mm_istore (pc := 62) dX8_follow_62 rfl (Nat.le_of_ble_eq_true rfl) ?_
      refine mm_iinc (pc := 64) dX8_follow_64 rfl rfl rfl (Nat.le_of_ble_eq_true rfl) ?_
      refine mm_goto (pc := 67) (tgt := 40) dX8_follow_67 (by decide) ?_
      have hsm := hPP.1
      have hHn : rn_H (rnH ab M q).2 := fun q' hq' => by rw [hsm.has]; exact hH q' hq'
      have hR63 : (rnH ab M q).2.1 63 = 0 := (nR_H (ab := ab) (q := q) h63).2
      refine mm_post (fun r_ h_ z_ => ?_) (mm_weakK (ih (q + 1) (rnH ab M q).1 C5 (rnH ab M q).2 T5 h59 (by omega) (H.next hPP w1 w2 x5 f5) hHn hR63 hC hPP.2.2 (nR_H (ab := ab) (q := q) h63).1 (fun z => z5 (Or.inl z))) (And.intro (congrArg some (congrArg Value.int nI_p1)) (And.intro rfl (And.intro rfl (And.intro rfl trivial)))))
      rw [show rnW ab (v + 1) q (w, M) = rnW ab v (q + 1) (rnH ab M q) from if_pos ((wy_2 hw).2.1.mp c48)]
      exact z_.tr s5 f5

