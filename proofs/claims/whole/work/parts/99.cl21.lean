/-! one action of a run -/
section RNS
variable {ab : Nat → Option Nat} {F : rn_F} {M : mw_S} {x k q : Nat}
theorem rnS_1 (h : M.2.2.1 14 x = 1) : rnS ab F M x k q = rnU F M (rn_fnd M ab k q (ab k)) q := by unfold rnS; rw [if_pos h]
theorem rnS_2 (h : M.2.2.1 14 x = 2) : rnS ab F M x k q = rnU F M ((rn_fnd M ab k (rn_n M x).toNatClampNeg (some k)).bind (fun j => rn_cho M ab j (rn_n M x).toNatClampNeg (rn_K M))) (rn_n M x).toNatClampNeg := by unfold rnS; rw [if_neg (by rw [h]; decide), if_pos h]
theorem rnS_3 (h : M.2.2.1 14 x = 3) : rnS ab F M x k q = (0, mw_setS (mw_setV M 73 (M.1 72).toNatClampNeg (rn_n M x)) 72 (M.1 72 + 1)) := by unfold rnS; rw [if_neg (by rw [h]; decide), if_neg (by rw [h]; decide), if_pos h]
theorem rnS_4 (h : M.2.2.1 14 x = 4) : rnS ab F M x k q = rnM M 4 (rn_n M x) := by unfold rnS; rw [if_neg (by rw [h]; decide), if_neg (by rw [h]; decide), if_neg (by rw [h]; decide), if_pos h]
theorem rnS_5 (h : M.2.2.1 14 x = 5) : rnS ab F M x k q = rnM M 5 (rn_n M x) := by unfold rnS; rw [if_neg (by rw [h]; decide), if_neg (by rw [h]; decide), if_neg (by rw [h]; decide), if_neg (by rw [h]; decide), if_pos h]
theorem rnS_6 (h : M.2.2.1 14 x = 6) : rnS ab F M x k q = rnM M 6 (rn_n M x) := by unfold rnS; rw [if_neg (by rw [h]; decide), if_neg (by rw [h]; decide), if_neg (by rw [h]; decide), if_neg (by rw [h]; decide), if_neg (by rw [h]; decide), if_pos h]
theorem rnS_7 (h : M.2.2.1 14 x = 7) : rnS ab F M x k q = (1, mw_setS M 64 (rn_n M x)) := by unfold rnS; rw [if_neg (by rw [h]; decide), if_neg (by rw [h]; decide), if_neg (by rw [h]; decide), if_neg (by rw [h]; decide), if_neg (by rw [h]; decide), if_neg (by rw [h]; decide), if_pos h]
theorem rnS_8 (h : M.2.2.1 14 x = 8) : rnS ab F M x k q = (if M.1 63 = 0 then (1, mw_setS M 64 (rn_n M x + 2000)) else (2, mw_setS M 64 (rn_n M x))) := by unfold rnS; rw [if_neg (by rw [h]; decide), if_neg (by rw [h]; decide), if_neg (by rw [h]; decide), if_neg (by rw [h]; decide), if_neg (by rw [h]; decide), if_neg (by rw [h]; decide), if_neg (by rw [h]; decide), if_pos h]
theorem rnS_9 (h : M.2.2.1 14 x = 9) : rnS ab F M x k q = F M (if M.1 62 < rn_n M x then M.2.2.1 16 x else M.2.2.1 17 x) k q := by unfold rnS; rw [if_neg (by rw [h]; decide), if_neg (by rw [h]; decide), if_neg (by rw [h]; decide), if_neg (by rw [h]; decide), if_neg (by rw [h]; decide), if_neg (by rw [h]; decide), if_neg (by rw [h]; decide), if_neg (by rw [h]; decide), if_pos h]
theorem rnS_10 (h : M.2.2.1 14 x = 10) : rnS ab F M x k q = rnT F (F M (M.2.2.1 16 x) k q) x k q := by unfold rnS; rw [if_neg (by rw [h]; decide), if_neg (by rw [h]; decide), if_neg (by rw [h]; decide), if_neg (by rw [h]; decide), if_neg (by rw [h]; decide), if_neg (by rw [h]; decide), if_neg (by rw [h]; decide), if_neg (by rw [h]; decide), if_neg (by rw [h]; decide)]
theorem op14 {c m : Int32} {w v : Nat} (a0 : c = m + 12) (w3 : m = nI w) (hw : w ≤ 10) (hv : v ≤ 100) (c25 : c = nI (v + 12)) : m = nI v := by
  have h1 : nI (w + 12) = nI (v + 12) := by rw [← c25, a0, w3, show (12 : Int32) = nI 12 by decide, nI_add]
  have h2 := (nI_eq (by omega) (by omega)).mp h1
  rw [w3, show w = v by omega]
end RNS

theorem rac_19 {G : mm_G} {L : Nat × Nat} {d : Nat} {h : mm_H} {A : Nat → Prop} {h0 : mm_H} {ad : Nat → Nat → Nat} {ab : Nat → Option Nat} {nk na : Nat} {oK oQ : Nat → Nat} {app K : Nat} {B : rB_T} {e f : Nat} {u deep k q t T x s m1 z g v : Nat} {C : cw_C} {M : mw_S} (hRA : RA_ G L h0 ad ab nk na oK oQ app K B e f) (H : rHy ad ab nk na oK oQ app K B e f M C t u T) (hT : T + 1 ≤ t) (hr : ∃ r, M.1 68 = nI r ∧ r + 1 ≤ t + e) (hs : ∃ s, M.1 72 = nI s ∧ s + 1 ≤ t) (hb : bHy M ab nk K k q) (hg : gb M k q = g) (hx : x < na) (hoK : oK x = k) (hoQ : oQ x = q) (hdp : deep ≤ 6) (hdo : dOk M deep x) (hc1 : CV M k q (deep + 1) (M.2.2.1 16 x) s m1) (hc2 : CV M k q (deep + 1) (M.2.2.1 17 x) m1 z) (hm1 : m1 ≤ z) (hz : z ≤ na) (hd : 16 * (12 - u) + 2 * (6 - deep) + 6 ≤ d) (hv : v ≤ 999) (hn : rn_n M x = nI v) (hC : cw ad h0 C h) : mm_Run G mX8_runAction A L (d + 1) 19 [(4, .int (nI deep)), (3, .int (nI u)), (2, .ref (ad 0 x)), (1, .ref (ad 1 g)), (0, .ref (ad 8 0))] [.int (nI v)] h (fun r h1 => rO ad h0 h C ab nk app K B (rnS ab (rnA ab f) M x k q) r h1) := by
  obtain ⟨d0, rfl⟩ : ∃ d0, d = d0 + 1 := ⟨d - 1, by omega⟩
  have hX := H.2.2.2.2.1
  obtain ⟨⟨n8, n9⟩, ⟨r7, r8, r9, r10⟩, r11, rK, ⟨s12, s13⟩, -⟩ := hX.2.1
  have ht67 : M.1 67 = nI t := H.2.1.1.1
  have ht4 : t ≤ 400 := H.2.1.1.2
  have hK : K < nk := H.1.2.2.2.1.2
  have ha : rn_app M = app := by unfold rn_app; rw [H.1.2.2.1.1, nI_clamp (by have := H.1.2.2.1.2; omega)]
  have n0 : x < cN C 0 := by rw [H.2.2.2.2.2]; exact hx
  obtain ⟨a0, -, a2, a3, a4, a5⟩ := hX.1.2.2.2.2.2.2.2 x n0
  rw [H.2.2.2.2.2] at a3 a4 a5
  obtain ⟨-, ⟨w, w1, w2, w3⟩, w15, l16, l17, l18, wU, wC⟩ := H.1.2.1.2.1 x hx
  rw [hoK, hoQ] at l16 l17 l18
  have hb0 := bfct hX.1 hb.1 hb.2.1 hb.2.2.1
  rw [hg] at hb0
  obtain ⟨n1, bk, bq, bl⟩ := hb0
  have n4 : k < cN C 4 := Nat.lt_of_lt_of_le hb.1 hX.1.1.2.2.1
  have k5 : cR C 4 k 5 = (ab k).map (ad 4) := (hX.1.2.1 k hb.1).1.2.2.1
  have hAk : Ae ab K (oK x) := by rw [hoK]; exact hb.2.2.2
  have hTt : T ≤ t := by omega
  refine mm_istore (pc := 19) dX8_runAction_19 rfl (Nat.le_of_ble_eq_true rfl) ?_
  refine mm_aload_n (pc := 21) dX8_runAction_21 rfl (by first | trivial | assumption | exact mm_isr_rf _) ?_
  refine cw_gi (pc := 22) 0 x 0 hC (rfl) rfl (n0) dX8_runAction_22 fl_X8_108 rfl rfl rfl ?_
  refine mm_sw (pc := 25) [80, 104, 125, 132, 139, 146, 153, 160, 167, 198] 240 dX8_runAction_25 (by decide) (by decide) (by decide) (fun i_ t_ ht_ hx_ => ?_) (fun c25 => ?_)
  · match i_, ht_ with
    | 0, ht_ =>
      cases ht_
      have c25 := mm_swe (v := 13) hx_ (by decide)
      have hw : M.2.2.1 14 x = 1 := op14 (v := 1) a0 w3 w2 (by decide) c25
      obtain ⟨j, hj, j1, j2, j3⟩ := rn_up H.1 hx hAk hw
      rw [hoK, hoQ] at hj
      rw [hoQ] at j2
      have hres : mm_Ok G mX4_resolve L (d0 + 1) [.ref (ad 4 k), .int (nI q), va_rf (cR C 4 k 5)] h (fun r h1 => h1 = h ∧ r = some (.ref (ad 1 (gb M j q)))) := by
        rw [k5]
        refine mm_Ok.post (ck_res hX.1 hC hb.1 hb.2.1 (kf_ab hX.1.1.1 hb.1)) ?_
        rintro r h1 ⟨a, b⟩
        exact ⟨a, by rw [b, hj]; rfl⟩
      have hbj : bHy M ab nk K j q := ⟨j1, hb.2.1, j2, j3⟩
      refine mm_aload_n (pc := 80) dX8_runAction_80 rfl (by first | trivial | assumption | exact mm_isr_rf _) ?_
      refine mm_aload_n (pc := 81) dX8_runAction_81 rfl (by first | trivial | assumption | exact mm_isr_rf _) ?_
      refine cw_grS (pc := 82) 1 g 0 hC (rfl) rfl (n1) dX8_runAction_82 fl_X8_84 rfl rfl rfl (bk) ?_
      refine mm_aload_n (pc := 85) dX8_runAction_85 rfl (by first | trivial | assumption | exact mm_isr_rf _) ?_
      refine cw_gi (pc := 86) 1 g 1 hC (rfl) rfl (n1) dX8_runAction_86 fl_X8_88 rfl rfl rfl ?_
      refine mm_topi _ bq ?_
      refine mm_aload_n (pc := 89) dX8_runAction_89 rfl (by first | trivial | assumption | exact mm_isr_rf _) ?_
      refine cw_grS (pc := 90) 1 g 0 hC (rfl) rfl (n1) dX8_runAction_90 fl_X8_84 rfl rfl rfl (bk) ?_
      refine cw_gr (pc := 93) 4 k 5 hC (rfl) rfl (n4) dX8_runAction_93 fl_X8_111 rfl rfl rfl rfl ?_
      refine mm_callV (pc := 96) (As := [_, _]) (kd := ?kd_96_1) (fs := ?fs_96_1) dX8_runAction_96 vl_X8_114 (hres) ?hc_96_1 ?hk_96_1 rfl rfl (Nat.le_of_ble_eq_true rfl) ?_; (case hc_96_1 => exact cw_cell (f := 4) hC rfl rfl n4); (case hk_96_1 => rfl)
      rintro _ _ ⟨rfl, rfl⟩
      refine mm_iload_n (pc := 99) dX8_runAction_99 rfl ?_
      refine mm_callV (pc := 100) (As := [_, _]) (kd := ?kd_100_2) (fs := ?fs_100_2) dX8_runAction_100 vl_X8_81 (rbo_ok hRA H hTt hr hbj rfl (by omega) hC) ?hc_100_2 ?hk_100_2 rfl rfl (Nat.le_of_ble_eq_true rfl) ?_; (case hc_100_2 => exact cw_cell (f := 8) hC rfl rfl n8); (case hk_100_2 => rfl)
      rintro _ h9_ ⟨C5, T5, hC5, s5, rfl, z5⟩
      refine mm_iret (pc := 103) dX8_runAction_103 rfl ?_
      rw [rnS_1 hw, hj]
      exact ⟨C5, T5, hC5, s5, rfl, z5⟩
    | 1, ht_ =>
      cases ht_
      have c25 := mm_swe (v := 14) hx_ (by decide)
      have hw : M.2.2.1 14 x = 2 := op14 (v := 2) a0 w3 w2 (by decide) c25
      obtain ⟨c, i, j, h6, hnc, hKK, hi, i1, i2, i3, hj, j1, j2, j3⟩ := rn_call H.1 hx hAk hw
      rw [hoK] at hi
      have v15 : cI C 0 x 2 = nI c := by
        obtain ⟨c', hc6, e', -⟩ := wC hw
        have e2 : rn_n M x = M.2.2.1 15 x := by
          unfold rn_n
          rw [if_neg (by rw [e']; intro e; exact absurd (show nI c' < 0 by rw [e]; decide) (nI_pos (by omega)))]
        rw [a2, ← e2, hnc]
      have hres : mm_Ok G mX4_resolve L (d0 + 1) [.ref (ad 4 k), .int (nI c), .ref (ad 4 k)] h (fun r h1 => h1 = h ∧ r = some (.ref (ad 1 (gb M i c)))) := by
        refine mm_Ok.post (ck_res (c0 := some k) hX.1 hC hb.1 h6 hb.1) ?_
        rintro r h1 ⟨a, b⟩
        exact ⟨a, by rw [b, hi]; rfl⟩
      have hbi : bHy M ab nk K i c := ⟨i1, h6, i2, i3⟩
      refine mm_aload_n (pc := 104) dX8_runAction_104 rfl (by first | trivial | assumption | exact mm_isr_rf _) ?_
      refine mm_aload_n (pc := 105) dX8_runAction_105 rfl (by first | trivial | assumption | exact mm_isr_rf _) ?_
      refine cw_grS (pc := 106) 1 g 0 hC (rfl) rfl (n1) dX8_runAction_106 fl_X8_84 rfl rfl rfl (bk) ?_
      refine mm_aload_n (pc := 109) dX8_runAction_109 rfl (by first | trivial | assumption | exact mm_isr_rf _) ?_
      refine cw_gi (pc := 110) 0 x 2 hC (rfl) rfl (n0) dX8_runAction_110 fl_X8_107 rfl rfl rfl ?_
      refine mm_topi _ v15 ?_
      refine mm_aload_n (pc := 113) dX8_runAction_113 rfl (by first | trivial | assumption | exact mm_isr_rf _) ?_
      refine cw_grS (pc := 114) 1 g 0 hC (rfl) rfl (n1) dX8_runAction_114 fl_X8_84 rfl rfl rfl (bk) ?_
      refine mm_callV (pc := 117) (As := [_, _]) (kd := ?kd_117_3) (fs := ?fs_117_3) dX8_runAction_117 vl_X8_114 (hres) ?hc_117_3 ?hk_117_3 rfl rfl (Nat.le_of_ble_eq_true rfl) ?_; (case hc_117_3 => exact cw_cell (f := 4) hC rfl rfl n4); (case hk_117_3 => rfl)
      rintro _ _ ⟨rfl, rfl⟩
      refine mm_iload_n (pc := 120) dX8_runAction_120 rfl ?_
      refine mm_callV (pc := 121) (As := [_, _]) (kd := ?kd_121_4) (fs := ?fs_121_4) dX8_runAction_121 vl_X8_67 (rch_ok (d' := d0 - 2) hRA H hTt hr hbi rfl (by omega) (by omega) hC) ?hc_121_4 ?hk_121_4 rfl rfl (Nat.le_of_ble_eq_true rfl) ?_; (case hc_121_4 => exact cw_cell (f := 8) hC rfl rfl n8); (case hk_121_4 => rfl)
      rintro _ h9_ ⟨C5, T5, hC5, s5, rfl, z5⟩
      refine mm_iret (pc := 124) dX8_runAction_124 rfl ?_
      rw [rnS_2 hw, hnc, nI_clamp (by omega), hi, hKK]
      exact ⟨C5, T5, hC5, s5, rfl, z5⟩
    | 2, ht_ =>
      cases ht_
      have c25 := mm_swe (v := 15) hx_ (by decide)
      have hw : M.2.2.1 14 x = 3 := op14 (v := 3) a0 w3 w2 (by decide) c25
      obtain ⟨s0, s1, s2⟩ := hs
      refine mm_aload_n (pc := 125) dX8_runAction_125 rfl (by first | trivial | assumption | exact mm_isr_rf _) ?_
      refine mm_iload (pc := 126) dX8_runAction_126 rfl ?_
      refine mm_callV (pc := 128) (As := [_]) (kd := ?kd_128_5) (fs := ?fs_128_5) dX8_runAction_128 vl_X8_118 (sn_R hX hTt ht67 ht4 s1 (by omega) hC) ?hc_128_5 ?hk_128_5 rfl rfl (Nat.le_of_ble_eq_true rfl) ?_; (case hc_128_5 => exact cw_cell (f := 8) hC rfl rfl n8); (case hk_128_5 => rfl)
      rintro _ h9_ ⟨C5, T5, hC5, s5, rfl, z5⟩
      refine mm_iret (pc := 131) dX8_runAction_131 rfl ?_
      rw [rnS_3 hw, hn]
      exact ⟨C5, T5, hC5, s5, rfl, z5⟩
    | 3, ht_ =>
      cases ht_
      have c25 := mm_swe (v := 16) hx_ (by decide)
      have hw : M.2.2.1 14 x = 4 := op14 (v := 4) a0 w3 w2 (by decide) c25
      refine mm_aload_n (pc := 132) dX8_runAction_132 rfl (by first | trivial | assumption | exact mm_isr_rf _) ?_
      refine mm_iload (pc := 133) dX8_runAction_133 rfl ?_
      refine mm_callV (pc := 135) (As := [_]) (kd := ?kd_135_6) (fs := ?fs_135_6) dX8_runAction_135 vl_X8_122 (aw_R hX hT ht67 ht4 hv ha (by have := H.2.1.2.2.2.2.2.2; rw [ha] at this; exact this) hC) ?hc_135_6 ?hk_135_6 rfl rfl (Nat.le_of_ble_eq_true rfl) ?_; (case hc_135_6 => exact cw_cell (f := 8) hC rfl rfl n8); (case hk_135_6 => rfl)
      rintro _ h9_ ⟨C5, T5, hC5, s5, rfl, z5⟩
      refine mm_iret (pc := 138) dX8_runAction_138 rfl ?_
      rw [rnS_4 hw, hn]
      exact ⟨C5, T5, hC5, s5, rfl, z5⟩
    | 4, ht_ =>
      cases ht_
      have c25 := mm_swe (v := 17) hx_ (by decide)
      have hw : M.2.2.1 14 x = 5 := op14 (v := 5) a0 w3 w2 (by decide) c25
      refine mm_aload_n (pc := 139) dX8_runAction_139 rfl (by first | trivial | assumption | exact mm_isr_rf _) ?_
      refine mm_iload (pc := 140) dX8_runAction_140 rfl ?_
      refine mm_callV (pc := 142) (As := [_]) (kd := ?kd_142_7) (fs := ?fs_142_7) dX8_runAction_142 vl_X8_125 (tw_R hX hT ht67 ht4 hv ha hC) ?hc_142_7 ?hk_142_7 rfl rfl (Nat.le_of_ble_eq_true rfl) ?_; (case hc_142_7 => exact cw_cell (f := 8) hC rfl rfl n8); (case hk_142_7 => rfl)
      rintro _ h9_ ⟨C5, T5, hC5, s5, rfl, z5⟩
      refine mm_iret (pc := 145) dX8_runAction_145 rfl ?_
      rw [rnS_5 hw, hn]
      exact ⟨C5, T5, hC5, s5, rfl, z5⟩
    | 5, ht_ =>
      cases ht_
      have c25 := mm_swe (v := 18) hx_ (by decide)
      have hw : M.2.2.1 14 x = 6 := op14 (v := 6) a0 w3 w2 (by decide) c25
      refine mm_aload_n (pc := 146) dX8_runAction_146 rfl (by first | trivial | assumption | exact mm_isr_rf _) ?_
      refine mm_iload (pc := 147) dX8_runAction_147 rfl ?_
      refine mm_callV (pc := 149) (As := [_]) (kd := ?kd_149_8) (fs := ?fs_149_8) dX8_runAction_149 vl_X8_128 (ah_R hX hT ht67 ht4 hv ha (by obtain ⟨w_, p1, p2, -⟩ := H.2.1.2.2.2.2.2.1; rw [ha] at p1 p2; exact ⟨w_, p1, p2⟩) hC) ?hc_149_8 ?hk_149_8 rfl rfl (Nat.le_of_ble_eq_true rfl) ?_; (case hc_149_8 => exact cw_cell (f := 8) hC rfl rfl n8); (case hk_149_8 => rfl)
      rintro _ h9_ ⟨C5, T5, hC5, s5, rfl, z5⟩
      refine mm_iret (pc := 152) dX8_runAction_152 rfl ?_
      rw [rnS_6 hw, hn]
      exact ⟨C5, T5, hC5, s5, rfl, z5⟩
    | 6, ht_ =>
      cases ht_
      have c25 := mm_swe (v := 19) hx_ (by decide)
      have hw : M.2.2.1 14 x = 7 := op14 (v := 7) a0 w3 w2 (by decide) c25
      refine mm_aload_n (pc := 153) dX8_runAction_153 rfl (by first | trivial | assumption | exact mm_isr_rf _) ?_
      refine mm_iload (pc := 154) dX8_runAction_154 rfl ?_
      refine mm_callV (pc := 156) (As := [_]) (kd := ?kd_156_9) (fs := ?fs_156_9) dX8_runAction_156 vl_X8_131 (fw_R hX hTt ht67 ht4 hC) ?hc_156_9 ?hk_156_9 rfl rfl (Nat.le_of_ble_eq_true rfl) ?_; (case hc_156_9 => exact cw_cell (f := 8) hC rfl rfl n8); (case hk_156_9 => rfl)
      rintro _ h9_ ⟨C5, T5, hC5, s5, rfl, z5⟩
      refine mm_iret (pc := 159) dX8_runAction_159 rfl ?_
      rw [rnS_7 hw, hn]
      exact ⟨C5, T5, hC5, s5, rfl, z5⟩
    | 7, ht_ =>
      cases ht_
      have c25 := mm_swe (v := 20) hx_ (by decide)
      have hw : M.2.2.1 14 x = 8 := op14 (v := 8) a0 w3 w2 (by decide) c25
      refine mm_aload_n (pc := 160) dX8_runAction_160 rfl (by first | trivial | assumption | exact mm_isr_rf _) ?_
      refine mm_iload (pc := 161) dX8_runAction_161 rfl ?_
      refine mm_callV (pc := 163) (As := [_]) (kd := ?kd_163_10) (fs := ?fs_163_10) dX8_runAction_163 vl_X8_134 (rw_R hX hTt ht67 ht4 hC) ?hc_163_10 ?hk_163_10 rfl rfl (Nat.le_of_ble_eq_true rfl) ?_; (case hc_163_10 => exact cw_cell (f := 8) hC rfl rfl n8); (case hk_163_10 => rfl)
      rintro _ h9_ ⟨C5, T5, hC5, s5, rfl, z5⟩
      refine mm_iret (pc := 166) dX8_runAction_166 rfl ?_
      rw [rnS_8 hw, hn]
      exact ⟨C5, T5, hC5, s5, rfl, z5⟩
    | 8, ht_ =>
      cases ht_
      have c25 := mm_swe (v := 21) hx_ (by decide)
      have hw : M.2.2.1 14 x = 9 := op14 (v := 9) a0 w3 w2 (by decide) c25
      have hd5 : deep ≤ 5 := hdo (Or.inl hw)
      refine mm_aload_n (pc := 167) dX8_runAction_167 rfl (by first | trivial | assumption | exact mm_isr_rf _) ?_
      refine mm_aload_n (pc := 168) dX8_runAction_168 rfl (by first | trivial | assumption | exact mm_isr_rf _) ?_
      refine mm_aload_n (pc := 169) dX8_runAction_169 rfl (by first | trivial | assumption | exact mm_isr_rf _) ?_
      refine cw_gi (pc := 170) 8 _ 12 hC (rfl) rfl (n8) dX8_runAction_170 fl_X8_50 rfl rfl rfl ?_
      refine mm_iload (pc := 173) dX8_runAction_173 rfl ?_
      refine mm_icmp_ge (pc := 175) (tgt := 185) dX8_runAction_175 (by decide) (fun c175 => ?_) (fun c175 => ?_)
      · refine mm_aload_n (pc := 185) dX8_runAction_185 rfl (by first | trivial | assumption | exact mm_isr_rf _) ?_
        refine cw_gr (pc := 186) 0 x 4 hC (rfl) rfl (n0) dX8_runAction_186 fl_X8_140 rfl rfl rfl rfl ?_
        refine mm_iload_n (pc := 189) dX8_runAction_189 rfl ?_
        refine mm_iload (pc := 190) dX8_runAction_190 rfl ?_
        refine mm_iconst (pc := 192) (v := 1) dX8_runAction_192 (by decide) ?_
        refine mm_iadd (pc := 193) dX8_runAction_193 ?_
        refine mm_topi _ nI_p1 ?_
        refine mm_callV (pc := 194) (As := [_, _, _, _]) (kd := ?kd_194_11) (fs := ?fs_194_11) dX8_runAction_194 vl_X8_95 (hRA (d0 + 1) u (deep + 1) k q t (M.2.2.1 17 x) m1 z g C M h _ (by exact ⟨H.1, H.2.1, H.2.2.1, H.2.2.2.1, hX.more hTt, H.2.2.2.2.2⟩) hb hg l17 hc2 hz (by omega) (by omega) a4 hC) ?hc_194_11 ?hk_194_11 rfl rfl (Nat.le_of_ble_eq_true rfl) ?_; (case hc_194_11 => exact cw_cell (f := 8) hC rfl rfl n8); (case hk_194_11 => rfl)
        rintro _ h9_ ⟨C5, T5, hC5, s5, rfl, z5⟩
        refine mm_iret (pc := 197) dX8_runAction_197 rfl ?_
        rw [rnS_9 hw, hn, if_neg (Int32.not_lt.mpr (by rw [← s12]; exact c175))]
        exact ⟨C5, T5, hC5, s5, rfl, z5⟩
      · refine mm_aload_n (pc := 178) dX8_runAction_178 rfl (by first | trivial | assumption | exact mm_isr_rf _) ?_
        refine cw_gr (pc := 179) 0 x 3 hC (rfl) rfl (n0) dX8_runAction_179 fl_X8_137 rfl rfl rfl rfl ?_
        refine mm_goto (pc := 182) (tgt := 189) dX8_runAction_182 (by decide) ?_
        refine mm_iload_n (pc := 189) dX8_runAction_189 rfl ?_
        refine mm_iload (pc := 190) dX8_runAction_190 rfl ?_
        refine mm_iconst (pc := 192) (v := 1) dX8_runAction_192 (by decide) ?_
        refine mm_iadd (pc := 193) dX8_runAction_193 ?_
        refine mm_topi _ nI_p1 ?_
        refine mm_callV (pc := 194) (As := [_, _, _, _]) (kd := ?kd_194_12) (fs := ?fs_194_12) dX8_runAction_194 vl_X8_95 (hRA (d0 + 1) u (deep + 1) k q t (M.2.2.1 16 x) s m1 g C M h _ (by exact ⟨H.1, H.2.1, H.2.2.1, H.2.2.2.1, hX.more hTt, H.2.2.2.2.2⟩) hb hg l16 hc1 (by omega) (by omega) (by omega) a3 hC) ?hc_194_12 ?hk_194_12 rfl rfl (Nat.le_of_ble_eq_true rfl) ?_; (case hc_194_12 => exact cw_cell (f := 8) hC rfl rfl n8); (case hk_194_12 => rfl)
        rintro _ h9_ ⟨C5, T5, hC5, s5, rfl, z5⟩
        refine mm_iret (pc := 197) dX8_runAction_197 rfl ?_
        rw [rnS_9 hw, hn, if_pos (by rw [← s12]; exact Int32.not_le.mp c175)]
        exact ⟨C5, T5, hC5, s5, rfl, z5⟩
    | 9, ht_ =>
      cases ht_
      have c25 := mm_swe (v := 22) hx_ (by decide)
      have hw : M.2.2.1 14 x = 10 := op14 (v := 10) a0 w3 w2 (by decide) c25
      have hd5 : deep ≤ 5 := hdo (Or.inr hw)
      have hP := rnA_post (e := e) f M (M.2.2.1 16 x) k q t u H.1 H.2.1 H.2.2.1 l16 hb.1 hb.2.1 hb.2.2.2
      refine mm_aload_n (pc := 198) dX8_runAction_198 rfl (by first | trivial | assumption | exact mm_isr_rf _) ?_
      refine mm_aload_n (pc := 199) dX8_runAction_199 rfl (by first | trivial | assumption | exact mm_isr_rf _) ?_
      refine mm_aload_n (pc := 200) dX8_runAction_200 rfl (by first | trivial | assumption | exact mm_isr_rf _) ?_
      refine cw_gr (pc := 201) 0 x 3 hC (rfl) rfl (n0) dX8_runAction_201 fl_X8_137 rfl rfl rfl rfl ?_
      refine mm_iload_n (pc := 204) dX8_runAction_204 rfl ?_
      refine mm_iload (pc := 205) dX8_runAction_205 rfl ?_
      refine mm_iconst (pc := 207) (v := 1) dX8_runAction_207 (by decide) ?_
      refine mm_iadd (pc := 208) dX8_runAction_208 ?_
      refine mm_topi _ nI_p1 ?_
      refine mm_callV (pc := 209) (As := [_, _, _, _]) (kd := ?kd_209_13) (fs := ?fs_209_13) dX8_runAction_209 vl_X8_95 (hRA (d0 + 1) u (deep + 1) k q t (M.2.2.1 16 x) s m1 g C M h _ (by exact ⟨H.1, H.2.1, H.2.2.1, H.2.2.2.1, hX.more hTt, H.2.2.2.2.2⟩) hb hg l16 hc1 (by omega) (by omega) (by omega) a3 hC) ?hc_209_13 ?hk_209_13 rfl rfl (Nat.le_of_ble_eq_true rfl) ?_; (case hc_209_13 => exact cw_cell (f := 8) hC rfl rfl n8); (case hk_209_13 => rfl)
      rintro _ h9_ ⟨C5, T5, hC5, s5, rfl, z5⟩
      refine mm_istore (pc := 212) dX8_runAction_212 rfl (Nat.le_of_ble_eq_true rfl) ?_
      refine mm_iload (pc := 214) dX8_runAction_214 rfl ?_
      refine mm_iconst (pc := 216) (v := 2) dX8_runAction_216 (by decide) ?_
      refine mm_icmp_ne (pc := 217) (tgt := 237) dX8_runAction_217 (by decide) (fun c217 => ?_) (fun c217 => ?_)
      · refine mm_iload (pc := 237) dX8_runAction_237 rfl ?_
        refine mm_iret (pc := 239) dX8_runAction_239 rfl ?_
        rw [rnS_10 hw, show rnT (rnA ab f) (rnA ab f M (M.2.2.1 16 x) k q) x k q = rnA ab f M (M.2.2.1 16 x) k q from if_neg (fun y => c217 ((wy_2 hP.2.2).1.mpr y))]
        exact ⟨C5, T5, hC5, s5, rfl, z5⟩
      · have hy1 := (wy_2 hP.2.2).1.mp c217
        obtain ⟨⟨t5, ht5⟩, x5, f5, y5⟩ := z5
        obtain ⟨hsm, ⟨t6, ht6, hI6⟩, -⟩ := hP
        have et : t6 = T5 := (nI_eq (by have := hI6.1.2; omega) (by omega)).mp (hI6.1.1.symm.trans t5)
        subst et
        have H2 : rHy ad ab nk na oK oQ app K B e f (rnA ab f M (M.2.2.1 16 x) k q).2 C5 t6 u t6 := ⟨H.1.same hsm, hI6, by have := H.2.2.1; omega, H.2.2.2.1.of hsm.V2, x5, (f5.N rfl).trans H.2.2.2.2.2⟩
        have v2 := hsm.V2
        have e17 : (rnA ab f M (M.2.2.1 16 x) k q).2.2.2.1 17 x = M.2.2.1 17 x := v2 17 x (by decide) (by decide) (by decide) (by decide) (by decide) (by decide)
        have r4 : cR C5 0 x 4 = cR C 0 x 4 := nD_R f5.1 rfl
        have hC := hC5
        have n0 : x < cN C5 0 := by rw [f5.N rfl, H.2.2.2.2.2]; exact hx
        refine mm_aload_n (pc := 220) dX8_runAction_220 rfl (by first | trivial | assumption | exact mm_isr_rf _) ?_
        refine mm_aload_n (pc := 221) dX8_runAction_221 rfl (by first | trivial | assumption | exact mm_isr_rf _) ?_
        refine mm_aload_n (pc := 222) dX8_runAction_222 rfl (by first | trivial | assumption | exact mm_isr_rf _) ?_
        refine cw_gr (pc := 223) 0 x 4 hC (rfl) rfl (n0) dX8_runAction_223 fl_X8_140 rfl rfl rfl rfl ?_
        refine mm_iload_n (pc := 226) dX8_runAction_226 rfl ?_
        refine mm_iload (pc := 227) dX8_runAction_227 rfl ?_
        refine mm_iconst (pc := 229) (v := 1) dX8_runAction_229 (by decide) ?_
        refine mm_iadd (pc := 230) dX8_runAction_230 ?_
        refine mm_topi _ nI_p1 ?_
        refine mm_callV (pc := 231) (As := [_, _, _, _]) (kd := ?kd_231_14) (fs := ?fs_231_14) dX8_runAction_231 vl_X8_95 (hRA (d0 + 1) u (deep + 1) k q t6 ((rnA ab f M (M.2.2.1 16 x) k q).2.2.2.1 17 x) m1 z g C5 (rnA ab f M (M.2.2.1 16 x) k q).2 h9_ _ H2 (hb.of v2) ((gb_v2 v2).trans hg) (by rw [e17]; exact l17) (by rw [e17]; exact hc2.same (fun j i _ _ c => v2 j i (by omega) (by omega) (by omega) (by omega) (by omega) (by omega))) hz (by omega) (by omega) (by rw [e17, r4]; exact a4) hC5) ?hc_231_14 ?hk_231_14 rfl rfl (Nat.le_of_ble_eq_true rfl) ?_; (case hc_231_14 => exact cw_cell (f := 8) hC5 rfl rfl x5.n8); (case hk_231_14 => rfl)
        rintro _ h10_ ⟨C7, T7, hC7, s7, rfl, z7⟩
        refine mm_goto (pc := 234) (tgt := 239) dX8_runAction_234 (by decide) ?_
        refine mm_iret (pc := 239) dX8_runAction_239 rfl ?_
        rw [rnS_10 hw, show rnT (rnA ab f) (rnA ab f M (M.2.2.1 16 x) k q) x k q = rnA ab f (rnA ab f M (M.2.2.1 16 x) k q).2 ((rnA ab f M (M.2.2.1 16 x) k q).2.2.2.1 17 x) k q from if_pos hy1]
        exact ⟨C7, T7, hC7, s7.trans s5, rfl, z7.1, z7.2.1, f5.trans z7.2.2.1, z7.2.2.2⟩
    | n_ + 10, ht_ => cases ht_
  · exfalso
    have c1 := c25 (w - 1) (show w - 1 < 10 by omega)
    rw [a0, w3, show (12 : Int32) = nI 12 by decide, nI_add, nI_toInt (by omega)] at c1
    exact c1 (by omega)

theorem rac_ok {G : mm_G} {L : Nat × Nat} {d : Nat} {h : mm_H} {h0 : mm_H} {ad : Nat → Nat → Nat} {ab : Nat → Option Nat} {nk na : Nat} {oK oQ : Nat → Nat} {app K : Nat} {B : rB_T} {e f : Nat} {u deep k q t T x s m1 z g : Nat} {C : cw_C} {M : mw_S} (hRA : RA_ G L h0 ad ab nk na oK oQ app K B e f) (H : rHy ad ab nk na oK oQ app K B e f M C t u T) (hT : T + 1 ≤ t) (hr : ∃ r, M.1 68 = nI r ∧ r + 1 ≤ t + e) (hs : ∃ s, M.1 72 = nI s ∧ s + 1 ≤ t) (hb : bHy M ab nk K k q) (hg : gb M k q = g) (hx : x < na) (hoK : oK x = k) (hoQ : oQ x = q) (hdp : deep ≤ 6) (hdo : dOk M deep x) (hc1 : CV M k q (deep + 1) (M.2.2.1 16 x) s m1) (hc2 : CV M k q (deep + 1) (M.2.2.1 17 x) m1 z) (hm1 : m1 ≤ z) (hz : z ≤ na) (hd : 16 * (12 - u) + 2 * (6 - deep) + 6 ≤ d) (hC : cw ad h0 C h) : mm_Ok G mX8_runAction L (d + 1) [.ref (ad 8 0), .ref (ad 1 g), .ref (ad 0 x), .int (nI u), .int (nI deep)] h (fun r h1 => rO ad h0 h C ab nk app K B (rnS ab (rnA ab f) M x k q) r h1) := by
  refine mm_Ok.of [(0, .ref (ad 8 0)), (1, .ref (ad 1 g)), (2, .ref (ad 0 x)), (3, .int (nI u)), (4, .int (nI deep))] rfl kX8_runAction.2.2.2.2.2 rfl (fun A => ?_)
  have hX := H.2.2.2.2.1
  obtain ⟨⟨n8, n9⟩, -, -, -, ⟨s12, s13⟩, -⟩ := hX.2.1
  have n0 : x < cN C 0 := by rw [H.2.2.2.2.2]; exact hx
  obtain ⟨a0, -, a2, a3, a4, a5⟩ := hX.1.2.2.2.2.2.2.2 x n0
  obtain ⟨v, hv, hn⟩ := rn_n_of H.1 hx
  refine mm_aload_n (pc := 0) dX8_runAction_0 rfl (by first | trivial | assumption | exact mm_isr_rf _) ?_
  refine cw_gi (pc := 1) 0 x 2 hC (rfl) rfl (n0) dX8_runAction_1 fl_X8_107 rfl rfl rfl ?_
  refine mm_iconst (pc := 4) (v := (-1)) dX8_runAction_4 (by decide) ?_
  refine mm_icmp_ne (pc := 5) (tgt := 15) dX8_runAction_5 (by decide) (fun c5 => ?_) (fun c5 => ?_)
  · refine mm_aload_n (pc := 15) dX8_runAction_15 rfl (by first | trivial | assumption | exact mm_isr_rf _) ?_
    refine cw_gi (pc := 16) 0 x 2 hC (rfl) rfl (n0) dX8_runAction_16 fl_X8_107 rfl rfl rfl ?_
    refine mm_topi _ (show _ = nI v from (by rw [a2, ← hn]; unfold rn_n; rw [if_neg (fun y => c5 (a2.trans y))])) ?_
    exact mm_weakK (rac_19 hRA H hT hr hs hb hg hx hoK hoQ hdp hdo hc1 hc2 hm1 hz hd hv hn hC) (And.intro rfl (And.intro rfl (And.intro rfl (And.intro rfl (And.intro rfl trivial)))))
  · refine mm_aload_n (pc := 8) dX8_runAction_8 rfl (by first | trivial | assumption | exact mm_isr_rf _) ?_
    refine cw_gi (pc := 9) 8 _ 12 hC (rfl) rfl (n8) dX8_runAction_9 fl_X8_50 rfl rfl rfl ?_
    refine mm_goto (pc := 12) (tgt := 19) dX8_runAction_12 (by decide) ?_
    refine mm_topi _ (show _ = nI v from (by rw [s12, ← hn]; unfold rn_n; rw [if_pos (a2.symm.trans c5)])) ?_
    exact mm_weakK (rac_19 hRA H hT hr hs hb hg hx hoK hoQ hdp hdo hc1 hc2 hm1 hz hd hv hn hC) (And.intro rfl (And.intro rfl (And.intro rfl (And.intro rfl (And.intro rfl trivial)))))

