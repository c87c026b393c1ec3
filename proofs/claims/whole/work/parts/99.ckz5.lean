/-- what a call leaves: its answer, the relation with the reference's new memory, the room that it took -/
def aft (ad : Nat → Nat → Nat) (h : mm_H) (n1 n2 : Nat) (ab : Nat → Option Nat) (nk np : Nat) (v : Value) (M : mw_S) (r : Option Value) (h1 : mm_H) : Prop := r = some v ∧ ∃ hb ad1 C1 na ne nb nt H, cw ad1 hb C1 h1 ∧ rsR ad1 C1 M ab nk np na ne nb nt H ∧ ad1 11 0 = ad 11 0 ∧ h1.2.1 ≤ h.2.1 + n1 ∧ h1.2.2 ≤ h.2.2 + n2
theorem gP.aft {h0 h h1 : mm_H} {ad : Nat → Nat → Nat} {C : cw_C} {M : mw_S} {ab : Nat → Option Nat} {nk np na ne nb nt : Nat} {H : hS} {s : Int32 × Nat} {r : Option Value} {n1 n2 : Nat} (g : gP ad h0 C h s r h1) (R : rsR ad C M ab nk np na ne nb nt H) (hs : s.2 ≤ 4) : aft ad h n1 n2 ab nk np (.int s.1) (rm_ans M s.2) r h1 :=
  ⟨g.1, h0, ad, _, na, ne, nb, nt, H, g.2.1, R.ans hs, rfl, by rw [g.2.2]; exact Nat.le_add_right _ _, by rw [g.2.2]; exact Nat.le_add_right _ _⟩

theorem mk_yesN {G : mm_G} {L : Nat × Nat} {d : Nat} {h : mm_H} {h0 : mm_H} {ad : Nat → Nat → Nat} {C : cw_C} {M : mw_S} {ab : Nat → Option Nat} {nk np : Nat} {s : Int32} {k : Nat} (hG : rlG ad C M ab nk np) {na : Nat} (hv : vsR ad C M nk na) (hk : k < nk) (hs : ¬ s < 0) (ht : s ≤ 10000) (h7 : sp_in (M.2.2.1 7 k) (nI np) = 0) (hn : na < 20) (h9N : cN C 9 = na) (hL1 : h.2.1 + 1 ≤ L.1) (hL2 : h.2.2 + 5 ≤ L.2) (hC : cw ad h0 C h) : mm_Ok G mX11_make L (d + 2) [.ref (ad 11 0), .int (nI k), .int s] h (fun r h1 => mkP ad h0 C h na k s r h1) := by
  refine mm_Ok.of [(0, .ref (ad 11 0)), (1, .int (nI k)), (2, .int s)] rfl kX11_make.2.2.2.2.2 rfl (fun A => ?_)
  obtain ⟨hR, hE, ⟨n11, n13⟩, f3, f9, s3, s19⟩ := id hG
  have n7 := hR.1.1
  have hk40 := hR.2.1.1
  obtain ⟨⟨v11, n16, n9⟩, hn20, v0, v1, s48, hV⟩ := id hv
  have hin : ¬ sp_in (nI k) (M.1 3) = 0 := by rw [s3]; exact sp_in_k hk (by omega)
  have n4 : k < cN C 4 := by have := hR.1.2.2.2.1; omega
  have ek : (nI k).toNatClampNeg = k := nI_clamp (by omega)
  have habk : cR C 4 k 5 = (ab k).map (ad 4) := (hE.2.1 k hk).1.2.2.1
  have k7 : cI C 4 k 7 = M.2.2.1 7 k := (hE.2.1 k hk).1.2.2.2.2.1
  refine mm_aload_n (pc := 0) dX11_make_0 rfl (by first | trivial | assumption | exact mm_isr_rf _) ?_
  refine cw_grS (pc := 1) 11 _ 3 hC (rfl) rfl (n11) dX11_make_1 fl_X11_23 rfl rfl rfl (f3) ?_
  refine mm_iload_n (pc := 4) dX11_make_4 rfl ?_
  refine mm_callV (pc := 5) (As := [_]) (kd := ?kd_5_1) (fs := ?fs_5_1) dX11_make_5 vl_X11_139 (ka_in (k := k) hR hk hC) ?hc_5_1 ?hk_5_1 rfl rfl (Nat.le_of_ble_eq_true rfl) ?_; (case hc_5_1 => exact cw_cell (f := 7) hC rfl rfl n7); (case hk_5_1 => rfl)
  rintro _ _ ⟨rfl, rfl⟩
  refine mm_astore_n (pc := 8) dX11_make_8 (by first | trivial | assumption | exact mm_isr_rf _) rfl (Nat.le_of_ble_eq_true rfl) ?_
  refine mm_aload_n (pc := 9) dX11_make_9 rfl (by first | trivial | assumption | exact mm_isr_rf _) ?_
  refine mm_ifnull (pc := 10) (tgt := 24) dX11_make_10 (by decide) (by first | trivial | assumption | exact mm_isr_rf _) (fun c10 => by cases c10) (fun a10 c10 => ?_)
  refine mm_iload_n (pc := 13) dX11_make_13 rfl ?_
  refine mm_if_lt (pc := 14) (tgt := 24) dX11_make_14 (by decide) (fun c14 => absurd c14 hs) (fun c14 => ?_)
  refine mm_iload_n (pc := 17) dX11_make_17 rfl ?_
  refine mm_sipush (pc := 18) (v := 10000) dX11_make_18 (by decide) ?_
  refine mm_icmp_le (pc := 21) (tgt := 30) dX11_make_21 (by decide) (fun c21 => ?_) (fun c21 => absurd ht c21)
  refine mm_aload_n (pc := 30) dX11_make_30 rfl (by first | trivial | assumption | exact mm_isr_rf _) ?_
  refine cw_grS (pc := 31) 11 _ 3 hC (rfl) rfl (n11) dX11_make_31 fl_X11_23 rfl rfl rfl (f3) ?_
  refine mm_aload_n (pc := 34) dX11_make_34 rfl (by first | trivial | assumption | exact mm_isr_rf _) ?_
  refine cw_gi (pc := 35) 4 k 7 hC (rfl) rfl (n4) dX11_make_35 fl_X11_153 rfl rfl rfl ?_
  refine mm_topi _ k7 ?_
  refine mm_callV (pc := 38) (As := [_]) (kd := ?kd_38_2) (fs := ?fs_38_2) dX11_make_38 vl_X11_129 (pa_no hR h7 hC) ?hc_38_2 ?hk_38_2 rfl rfl (Nat.le_of_ble_eq_true rfl) ?_; (case hc_38_2 => exact cw_cell (f := 7) hC rfl rfl n7); (case hk_38_2 => rfl)
  rintro _ _ ⟨rfl, rfl⟩
  refine mm_astore (pc := 41) dX11_make_41 (by first | trivial | assumption | exact mm_isr_rf _) rfl (Nat.le_of_ble_eq_true rfl) ?_
  refine mm_aload (pc := 43) dX11_make_43 rfl (by first | trivial | assumption | exact mm_isr_rf _) ?_
  refine mm_ifnull (pc := 45) (tgt := 63) dX11_make_45 (by decide) (by first | trivial | assumption | exact mm_isr_rf _) (fun c45 => ?_) (fun a45 c45 => by cases c45)
  refine mm_aload_n (pc := 63) dX11_make_63 rfl (by first | trivial | assumption | exact mm_isr_rf _) ?_
  refine cw_gi (pc := 64) 11 _ 5 hC (rfl) rfl (n11) dX11_make_64 fl_X11_33 rfl rfl rfl ?_
  refine mm_topi _ v1 ?_
  refine mm_aload_n (pc := 67) dX11_make_67 rfl (by first | trivial | assumption | exact mm_isr_rf _) ?_
  refine cw_grS (pc := 68) 11 _ 4 hC (rfl) rfl (n11) dX11_make_68 fl_X11_29 rfl rfl rfl (v0) ?_
  refine cw_alen (pc := 71) 16 _ hC (rfl) rfl (n16) dX11_make_71 rfl rfl ?_
  refine mm_icmp_lt (pc := 72) (tgt := 82) dX11_make_72 (by decide) (fun c72 => ?_) (fun c72 => absurd (nI_lt (b := 20) (by omega) (by decide)) c72)
  exact mm_weakK (mk_82 (d := d) h9N hn n11 n16 n4 v0 v1 hL1 hL2 hC) (And.intro rfl (And.intro rfl (And.intro rfl trivial)))

theorem mk_yesP {G : mm_G} {L : Nat × Nat} {d : Nat} {h : mm_H} {h0 : mm_H} {ad : Nat → Nat → Nat} {C : cw_C} {M : mw_S} {ab : Nat → Option Nat} {nk np : Nat} {s : Int32} {k : Nat} (hG : rlG ad C M ab nk np) {na : Nat} (hv : vsR ad C M nk na) (hk : k < nk) (hs : ¬ s < 0) (ht : s ≤ 10000) {p : Nat} (hp : p < np) (h7 : M.2.2.1 7 k = nI p) (hz : M.2.2.1 22 p = 0) (hn : na < 20) (h9N : cN C 9 = na) (hL1 : h.2.1 + 1 ≤ L.1) (hL2 : h.2.2 + 5 ≤ L.2) (hC : cw ad h0 C h) : mm_Ok G mX11_make L (d + 2) [.ref (ad 11 0), .int (nI k), .int s] h (fun r h1 => mkP ad h0 C h na k s r h1) := by
  refine mm_Ok.of [(0, .ref (ad 11 0)), (1, .int (nI k)), (2, .int s)] rfl kX11_make.2.2.2.2.2 rfl (fun A => ?_)
  obtain ⟨hR, hE, ⟨n11, n13⟩, f3, f9, s3, s19⟩ := id hG
  have n7 := hR.1.1
  have hk40 := hR.2.1.1
  obtain ⟨⟨v11, n16, n9⟩, hn20, v0, v1, s48, hV⟩ := id hv
  have hin : ¬ sp_in (nI k) (M.1 3) = 0 := by rw [s3]; exact sp_in_k hk (by omega)
  have n4 : k < cN C 4 := by have := hR.1.2.2.2.1; omega
  have ek : (nI k).toNatClampNeg = k := nI_clamp (by omega)
  have habk : cR C 4 k 5 = (ab k).map (ad 4) := (hE.2.1 k hk).1.2.2.1
  have k7 : cI C 4 k 7 = M.2.2.1 7 k := (hE.2.1 k hk).1.2.2.2.2.1
  have n5 : p < cN C 5 := by have := hR.1.2.2.2.2; omega
  have e22 : cI C 5 p 5 = M.2.2.1 22 p := (hR.2.2.2.2.2.2.2.2 p hp).2.2.2
  refine mm_aload_n (pc := 0) dX11_make_0 rfl (by first | trivial | assumption | exact mm_isr_rf _) ?_
  refine cw_grS (pc := 1) 11 _ 3 hC (rfl) rfl (n11) dX11_make_1 fl_X11_23 rfl rfl rfl (f3) ?_
  refine mm_iload_n (pc := 4) dX11_make_4 rfl ?_
  refine mm_callV (pc := 5) (As := [_]) (kd := ?kd_5_3) (fs := ?fs_5_3) dX11_make_5 vl_X11_139 (ka_in (k := k) hR hk hC) ?hc_5_3 ?hk_5_3 rfl rfl (Nat.le_of_ble_eq_true rfl) ?_; (case hc_5_3 => exact cw_cell (f := 7) hC rfl rfl n7); (case hk_5_3 => rfl)
  rintro _ _ ⟨rfl, rfl⟩
  refine mm_astore_n (pc := 8) dX11_make_8 (by first | trivial | assumption | exact mm_isr_rf _) rfl (Nat.le_of_ble_eq_true rfl) ?_
  refine mm_aload_n (pc := 9) dX11_make_9 rfl (by first | trivial | assumption | exact mm_isr_rf _) ?_
  refine mm_ifnull (pc := 10) (tgt := 24) dX11_make_10 (by decide) (by first | trivial | assumption | exact mm_isr_rf _) (fun c10 => by cases c10) (fun a10 c10 => ?_)
  refine mm_iload_n (pc := 13) dX11_make_13 rfl ?_
  refine mm_if_lt (pc := 14) (tgt := 24) dX11_make_14 (by decide) (fun c14 => absurd c14 hs) (fun c14 => ?_)
  refine mm_iload_n (pc := 17) dX11_make_17 rfl ?_
  refine mm_sipush (pc := 18) (v := 10000) dX11_make_18 (by decide) ?_
  refine mm_icmp_le (pc := 21) (tgt := 30) dX11_make_21 (by decide) (fun c21 => ?_) (fun c21 => absurd ht c21)
  refine mm_aload_n (pc := 30) dX11_make_30 rfl (by first | trivial | assumption | exact mm_isr_rf _) ?_
  refine cw_grS (pc := 31) 11 _ 3 hC (rfl) rfl (n11) dX11_make_31 fl_X11_23 rfl rfl rfl (f3) ?_
  refine mm_aload_n (pc := 34) dX11_make_34 rfl (by first | trivial | assumption | exact mm_isr_rf _) ?_
  refine cw_gi (pc := 35) 4 k 7 hC (rfl) rfl (n4) dX11_make_35 fl_X11_153 rfl rfl rfl ?_
  refine mm_topi _ (k7.trans h7) ?_
  refine mm_callV (pc := 38) (As := [_]) (kd := ?kd_38_4) (fs := ?fs_38_4) dX11_make_38 vl_X11_129 (pa_in (p := p) hR hp hC) ?hc_38_4 ?hk_38_4 rfl rfl (Nat.le_of_ble_eq_true rfl) ?_; (case hc_38_4 => exact cw_cell (f := 7) hC rfl rfl n7); (case hk_38_4 => rfl)
  rintro _ _ ⟨rfl, rfl⟩
  refine mm_astore (pc := 41) dX11_make_41 (by first | trivial | assumption | exact mm_isr_rf _) rfl (Nat.le_of_ble_eq_true rfl) ?_
  refine mm_aload (pc := 43) dX11_make_43 rfl (by first | trivial | assumption | exact mm_isr_rf _) ?_
  refine mm_ifnull (pc := 45) (tgt := 63) dX11_make_45 (by decide) (by first | trivial | assumption | exact mm_isr_rf _) (fun c45 => by cases c45) (fun a45 c45 => ?_)
  refine mm_aload (pc := 48) dX11_make_48 rfl (by first | trivial | assumption | exact mm_isr_rf _) ?_
  refine cw_gi (pc := 50) 5 p 5 hC (rfl) rfl (n5) dX11_make_50 fl_X11_133 rfl rfl rfl ?_
  refine mm_topi _ e22 ?_
  refine mm_if_eq (pc := 53) (tgt := 63) dX11_make_53 (by decide) (fun c53 => ?_) (fun c53 => absurd hz c53)
  refine mm_aload_n (pc := 63) dX11_make_63 rfl (by first | trivial | assumption | exact mm_isr_rf _) ?_
  refine cw_gi (pc := 64) 11 _ 5 hC (rfl) rfl (n11) dX11_make_64 fl_X11_33 rfl rfl rfl ?_
  refine mm_topi _ v1 ?_
  refine mm_aload_n (pc := 67) dX11_make_67 rfl (by first | trivial | assumption | exact mm_isr_rf _) ?_
  refine cw_grS (pc := 68) 11 _ 4 hC (rfl) rfl (n11) dX11_make_68 fl_X11_29 rfl rfl rfl (v0) ?_
  refine cw_alen (pc := 71) 16 _ hC (rfl) rfl (n16) dX11_make_71 rfl rfl ?_
  refine mm_icmp_lt (pc := 72) (tgt := 82) dX11_make_72 (by decide) (fun c72 => ?_) (fun c72 => absurd (nI_lt (b := 20) (by omega) (by decide)) c72)
  exact mm_weakK (mk_82 (d := d) h9N hn n11 n16 n4 v0 v1 hL1 hL2 hC) (And.intro rfl (And.intro rfl (And.intro rfl trivial)))

theorem mk_aft {G : mm_G} {L : Nat × Nat} {d : Nat} {h : mm_H} {h0 : mm_H} {ad : Nat → Nat → Nat} {C : cw_C} {M : mw_S} {ab : Nat → Option Nat} {nk np : Nat} {na ne nb nt : Nat} {H : hS} {i s : Int32} (R : rsR ad C M ab nk np na ne nb nt H) (h7 : ∀ k, k < nk → M.2.2.1 7 k < 0 ∨ ∃ p, p < np ∧ M.2.2.1 7 k = nI p) (hL1 : h.2.1 + 1 ≤ L.1) (hL2 : h.2.2 + 5 ≤ L.2) (hC : cw ad h0 C h) : mm_Ok G mX11_make L (d + 2) [.ref (ad 11 0), .int i, .int s] h (aft ad h 1 5 ab nk np (.int (sp_make M na i s).1) (sp_make M na i s).2) := by
  have g := R.g
  have h40 := R.rg.2.1
  have h20 := R.v.2.1
  have s3 := R.s.1
  have s48 : M.1 48 = nI na := R.v.2.2.2.2.1
  have yes : ∀ k, k < nk → na < 20 → ∀ r h1, mkP ad h0 C h na k s r h1 → aft ad h 1 5 ab nk np (.int (nI na)) (rm_make M na (nI k) s) r h1 := fun k hk hn r h1 z =>
    ⟨z.1, h0, _, _, na + 1, ne, nb, nt, mkH H na, z.2.1, mk_rs R hn hk, cw_ad_o R.o.1.1, by rw [z.2.2]; exact Nat.le_refl _, by rw [z.2.2]; exact Nat.le_refl _⟩
  unfold sp_make
  rw [s3]
  by_cases hi : sp_in i (nI nk) = 0
  · rw [if_pos hi]
    exact mm_Ok.post (mk_no g hi hC) (fun r h1 z => z.aft R (by decide))
  · obtain ⟨k, hk, rfl⟩ := sp_in_of hi rfl (by omega)
    rw [if_neg hi]
    by_cases hs : s < 0
    · rw [if_pos hs]
      exact mm_Ok.post (mk_lo g hk hs hC) (fun r h1 z => z.aft R (by decide))
    · rw [if_neg hs]
      by_cases ht : s ≤ 10000
      · rw [if_pos ht, nI_clamp (show k < 2 ^ 31 by omega)]
        have full : na = 20 → sp_makeR M na (nI k) s = (-3, rm_ans M 3) := fun e => by unfold sp_makeR; rw [if_pos (by rw [s48, e]; decide)]
        have room : na < 20 → sp_makeR M na (nI k) s = (nI na, rm_make M na (nI k) s) := fun e => by unfold sp_makeR; rw [if_neg (by rw [s48]; exact nI_ne (b := 20) (by omega) (by omega) (by decide))]
        rcases h7 k hk with z7 | ⟨p, hp, z7⟩
        · rw [if_pos z7]
          have zin : sp_in (M.2.2.1 7 k) (nI np) = 0 := if_pos z7
          by_cases hn : na < 20
          · rw [room hn]
            exact mm_Ok.post (mk_yesN g R.v hk hs ht zin hn R.cn.2.1 hL1 hL2 hC) (yes k hk hn)
          · rw [full (by omega)]
            exact mm_Ok.post (mk_fullN g R.v hk hs ht zin (by omega) hC) (fun r h1 z => z.aft R (by decide))
        · rw [if_neg (by rw [z7]; exact nI_pos (by omega)), z7, nI_clamp (show p < 2 ^ 31 by omega)]
          by_cases hz : M.2.2.1 22 p = 0
          · rw [if_pos hz]
            by_cases hn : na < 20
            · rw [room hn]
              exact mm_Ok.post (mk_yesP g R.v hk hs ht hp z7 hz hn R.cn.2.1 hL1 hL2 hC) (yes k hk hn)
            · rw [full (by omega)]
              exact mm_Ok.post (mk_fullP g R.v hk hs ht hp z7 hz (by omega) hC) (fun r h1 z => z.aft R (by decide))
          · rw [if_neg hz]
            exact mm_Ok.post (mk_gone g R.v hk hs ht hp z7 hz hC) (fun r h1 z => z.aft R (by decide))
      · rw [if_neg ht]
        exact mm_Ok.post (mk_hi g hk hs ht hC) (fun r h1 z => z.aft R (by decide))

