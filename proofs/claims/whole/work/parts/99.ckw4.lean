/-- how a pack that was read ends -/
def pkE (N : Nat → Nat) (ad adS : Nat → Nat → Nat) (h0 : mm_H) (CS : cw_C) (h : mm_H) (M : mw_S) (ab : Nat → Option Nat) (nk nn np : Nat) (ho : Int32) (r : Option Value) (h1 : mm_H) : Prop := ∃ C1, oK N adS CS ad C1 ∧ h1.2 = h.2 ∧ dF np CS C1 ∧
  ((¬ cI C1 2 0 0 = 0 ∧ r = some (.int (cI C1 2 0 0)) ∧ cw ad h0 (cw_sI C1 11 0 2 (cI C1 2 0 1)) h1 ∧ ((ho < 0 ∧ cI C1 2 0 0 = 2 ∧ cI C1 2 0 1 = M.1 100) ∨ (0 ≤ ho ∧ ksF M ab nk (nk + nn) (cI C1 2 0 0) (cI C1 2 0 1)))) ∨
   (0 ≤ ho ∧ ksF M ab nk (nk + nn) 0 (-1) ∧ pvC ad C1 M ab nk nn np nn ho ∧
    ((¬ (np < 12 ∧ nk + nn ≤ 40) ∧ r = some (.int (-3)) ∧ cw ad h0 (cw_sI (cw_sI C1 11 0 2 (-1)) 13 0 3 (cI C1 13 0 3 + 1)) h1) ∨
     ((np < 12 ∧ nk + nn ≤ 40) ∧ r = some (.int 0) ∧ ∃ C3, cw ad h0 C3 h1 ∧ adR ad (cw_sI C1 11 0 2 (-1)) C3 nk nn np))))

theorem pk_55 {G : mm_G} {L : Nat × Nat} {d : Nat} {A : Nat → Prop} {h h0 : mm_H} {N : Nat → Nat} {ad adS : Nat → Nat → Nat} {CS C : cw_C} {M : mw_S} {ab : Nat → Option Nat} {nk nn np : Nat} {ho : Int32} (hck : mm_Ok G mX2_checkPack L (d + 11) [.ref (ad 2 0)] h (fun r h1 => qF N ad adS h0 CS h M ab nk nn np ho r h1)) (hnn : nn ≤ 10) (n2 : 0 < cN C 2) (n11 : 0 < cN CS 11) (n13 : 0 < cN CS 13) (h3 : cR CS 11 0 3 = some (ad 7 0)) (hf : cR CS 11 0 9 = some (ad 13 0)) (hC : cw ad h0 C h) : mm_Run G mX11_pack A L (d + 12) 55 [(0, .ref (ad 11 0)), (2, .ref (ad 5 np))] [.ref (ad 2 0)] h (fun r h1 => pkE N ad adS h0 CS h M ab nk nn np ho r h1) := by
  refine mm_astore_n (pc := 55) dX11_pack_55 (by first | trivial | assumption | exact mm_isr_rf _) rfl (Nat.le_of_ble_eq_true rfl) ?_
  refine mm_aload_n (pc := 56) dX11_pack_56 rfl (by first | trivial | assumption | exact mm_isr_rf _) ?_
  refine mm_callV (pc := 57) (As := []) (kd := ?kd_57_1) (fs := ?fs_57_1) dX11_pack_57 vl_X11_114 (hck) ?hc_57_1 ?hk_57_1 rfl rfl (Nat.le_of_ble_eq_true rfl) ?_; (case hc_57_1 => exact cw_cell (f := 2) hC rfl rfl n2); (case hk_57_1 => rfl)
  rintro _ h57 ⟨rfl, C1, hC, hok, e57, n2, hCS, hq⟩
  have m11 : C1 11 = CS 11 := hCS.1 11 (by decide) (by decide) (by decide) (by decide)
  have n11 : 0 < cN C1 11 := by rw [cN_o m11]; exact n11
  have h3 : cR C1 11 0 3 = some (ad 7 0) := by rw [cR_o m11]; exact h3
  have hf : cR C1 11 0 9 = some (ad 13 0) := by rw [cR_o m11]; exact hf
  have n13 : 0 < cN C1 13 := by rw [cN_o (hCS.1 13 (by decide) (by decide) (by decide) (by decide))]; exact n13
  refine mm_aload_n (pc := 60) dX11_pack_60 rfl (by first | trivial | assumption | exact mm_isr_rf _) ?_
  refine mm_aload_n (pc := 61) dX11_pack_61 rfl (by first | trivial | assumption | exact mm_isr_rf _) ?_
  refine cw_gi (pc := 62) 2 0 1 hC (rfl) rfl (n2) dX11_pack_62 fl_X11_117 rfl rfl rfl ?_
  refine cw_pi (pc := 65) 11 0 2 hC (rfl) rfl (n11) dX11_pack_65 (pl_X11_17 _) rfl rfl (rfl) (rfl) (fun h65 hC e65 => ?_)
  refine mm_aload_n (pc := 68) dX11_pack_68 rfl (by first | trivial | assumption | exact mm_isr_rf _) ?_
  refine cw_gi (pc := 69) 2 0 0 hC (rfl) rfl ((by rw [cw_sI_N]; exact n2)) dX11_pack_69 fl_X11_120 rfl rfl rfl ?_
  refine mm_if_eq (pc := 72) (tgt := 80) dX11_pack_72 (by decide) (fun c72 => ?_) (fun c72 => ?_)
  · have x0 : cI C1 2 0 0 = 0 := by rw [← cI_sI_n (C := C1) (f := 11) (i := 0) (j := 2) (x := cI C1 2 0 1) (show ¬ (2 = 11 ∧ 0 = 0 ∧ 0 = 2) by omega)]; exact c72
    obtain ⟨hp0, hks, hpv⟩ : 0 ≤ ho ∧ ksF M ab nk (nk + nn) 0 (-1) ∧ pvC ad C1 M ab nk nn np nn ho := by
      rcases hq with ⟨-, z, -⟩ | ⟨z1, z2, z3⟩
      · rw [x0] at z; exact absurd z (by decide)
      · have hpv := z3 x0
        rw [x0, hpv.2.2.2.2.2.2.2.2] at z2
        exact ⟨z1, z2, hpv⟩
    have pl1 : cI C1 2 0 1 = -1 := hpv.2.2.2.2.2.2.2.2
    rw [pl1] at hC
    have hR2 : rgR ad (cw_sI C1 11 0 2 (-1)) M nk np := hpv.2.1.to (cw_sI_o (by decide)) (cw_sI_o (by decide)) (cw_sI_o (by decide)) (by rw [cw_sI_N]; exact Nat.le_refl _) (by rw [cw_sI_N]; exact Nat.le_refl _) (fun i _ => cL_sI) (fun p _ => ⟨cL_sI, cI_sI_n (by omega), cI_sI_n (by omega)⟩)
    have hD2 : pkD ad (cw_sI C1 11 0 2 (-1)) np nn := ⟨by rw [cw_sI_N]; exact hpv.2.2.1.1, by rw [cw_sI_N]; exact hpv.2.2.1.2.1, by rw [cR_sI]; exact hpv.2.2.1.2.2.1, by rw [cI_sI_n (by omega)]; exact hpv.2.2.1.2.2.2⟩
    have k11 : 0 < cN (cw_sI C1 11 0 2 (-1)) 11 := by rw [cw_sI_N]; exact n11
    have k13 : 0 < cN (cw_sI C1 11 0 2 (-1)) 13 := by rw [cw_sI_N]; exact n13
    have h3b : cR (cw_sI C1 11 0 2 (-1)) 11 0 3 = some (ad 7 0) := by rw [cR_sI]; exact h3
    have n7 := hR2.1.1
    refine mm_aload_n (pc := 80) dX11_pack_80 rfl (by first | trivial | assumption | exact mm_isr_rf _) ?_
    refine cw_grS (pc := 81) 11 _ 3 hC (rfl) rfl (k11) dX11_pack_81 fl_X11_23 rfl rfl rfl (h3b) ?_
    refine mm_aload_n (pc := 84) dX11_pack_84 rfl (by first | trivial | assumption | exact mm_isr_rf _) ?_
    refine mm_callV (pc := 85) (As := [_]) (kd := ?kd_85_2) (fs := ?fs_85_2) dX11_pack_85 vl_X11_121 (hr_ok hR2 hD2 hnn hC) ?hc_85_2 ?hk_85_2 rfl rfl (Nat.le_of_ble_eq_true rfl) ?_; (case hc_85_2 => exact cw_cell (f := 7) hC rfl rfl n7); (case hk_85_2 => rfl)
    rintro _ _ ⟨rfl, rfl⟩
    refine mm_if_ne (pc := 88) (tgt := 98) dX11_pack_88 (by decide) (fun c88 => ?_) (fun c88 => ?_)
    · have hrm_ : np < 12 ∧ nk + nn ≤ 40 := by
        cases z : decide (np < 12 ∧ nk + nn ≤ 40) with
        | true => exact of_decide_eq_true z
        | false => rw [z] at c88; exact absurd rfl c88
      refine mm_aload_n (pc := 98) dX11_pack_98 rfl (by first | trivial | assumption | exact mm_isr_rf _) ?_
      refine cw_grS (pc := 99) 11 _ 3 hC (rfl) rfl (k11) dX11_pack_99 fl_X11_23 rfl rfl rfl (h3b) ?_
      refine mm_aload_n (pc := 102) dX11_pack_102 rfl (by first | trivial | assumption | exact mm_isr_rf _) ?_
      refine mm_callV (pc := 103) (As := [_]) (kd := ?kd_103_3) (fs := ?fs_103_3) dX11_pack_103 vl_X11_125 (ad_ok hR2 hD2 (fun i hi => by rw [cR_sI]; exact hpv.2.2.2.1 i hi) (by rw [cw_sI_N]; by_cases z : nk + nn = 0; omega; have := (hpv.2.2.2.2.1 (nk + nn - 1) (by omega)).1; omega) hnn hrm_.1 hrm_.2 hC) ?hc_103_3 ?hk_103_3 rfl rfl (Nat.le_of_ble_eq_true rfl) ?_; (case hc_103_3 => exact cw_cell (f := 7) hC rfl rfl n7); (case hk_103_3 => rfl)
      rintro _ h103 ⟨C3, hC, e103, rfl, had⟩
      refine mm_iconst (pc := 106) (v := 0) dX11_pack_106 (by decide) ?_
      refine mm_iret (pc := 107) dX11_pack_107 rfl ?_
      exact ⟨C1, hok, by rw [e103, e65, e57], hCS, Or.inr ⟨hp0, hks, hpv, Or.inr ⟨hrm_, rfl, C3, hC, had⟩⟩⟩
    · have hrm_ : ¬ (np < 12 ∧ nk + nn ≤ 40) := fun z => by rw [decide_eq_true z] at c88; exact absurd c88 (by decide)
      refine mm_aload_n (pc := 91) dX11_pack_91 rfl (by first | trivial | assumption | exact mm_isr_rf _) ?_
      refine mm_bipush (pc := 92) (v := (-3)) dX11_pack_92 (by decide) ?_
      refine mm_callV (pc := 94) (As := [_]) (kd := ?kd_94_4) (fs := ?fs_94_4) dX11_pack_94 vl_X11_96 (tl_ok (c := 3) k11 k13 (by rw [cR_sI]; exact hf) rfl (by decide) (by decide) hC) ?hc_94_4 ?hk_94_4 rfl rfl (Nat.le_of_ble_eq_true rfl) ?_; (case hc_94_4 => exact cw_cell (f := 11) hC rfl rfl k11); (case hk_94_4 => rfl)
      rintro _ h94 ⟨hC, e94, rfl⟩
      refine mm_iret (pc := 97) dX11_pack_97 rfl ?_
      exact ⟨C1, hok, by rw [e94, e65, e57], hCS, Or.inr ⟨hp0, hks, hpv, Or.inl ⟨hrm_, rfl, by rw [← cI_sI_n (C := C1) (f := 11) (i := 0) (j := 2) (x := (-1 : Int32)) (g := 13) (k := 0) (l := 3) (by omega)]; exact hC⟩⟩⟩
  · have x0 : ¬ cI C1 2 0 0 = 0 := fun z => c72 (by rw [cI_sI_n (by omega)]; exact z)
    refine mm_aload_n (pc := 75) dX11_pack_75 rfl (by first | trivial | assumption | exact mm_isr_rf _) ?_
    refine cw_gi (pc := 76) 2 0 0 hC (rfl) rfl ((by rw [cw_sI_N]; exact n2)) dX11_pack_76 fl_X11_120 rfl rfl rfl ?_
    refine mm_iret (pc := 79) dX11_pack_79 rfl ?_
    exact ⟨C1, hok, by rw [e65, e57], hCS, Or.inl ⟨x0, by rw [cI_sI_n (by omega)], hC, hq.elim Or.inl (fun z => Or.inr ⟨z.1, z.2.1⟩)⟩⟩

