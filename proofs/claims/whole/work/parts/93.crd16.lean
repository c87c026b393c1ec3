/-! the class's readPack -/
def pkD (ad : Nat → Nat → Nat) (C : cw_C) (np nn : Nat) : Prop := np < cN C 5 ∧ np < cN C 20 ∧ cR C 5 np 6 = some (ad 20 np) ∧ cI C 5 np 7 = nI nn
def pkW (ad : Nat → Nat → Nat) (C : cw_C) (M : mw_S) (np nn nk : Nat) : Prop := pkD ad C np nn ∧ cL C 5 np 0 = M.2.2.2.1 102 0 ∧ cI C 5 np 1 = M.1 101 ∧ (M.1 101 = 1 → cL C 5 np 2 = M.2.2.2.1 104 0 ∧ cI C 5 np 3 = M.1 100) ∧ cI C 5 np 5 = 0 ∧ ∀ i, i < nn → cR C 20 np i = some (ad 4 (nk + i))
def pQ (N : Nat → Nat) (h0 : mm_H) (ad : Nat → Nat → Nat) (C : cw_C) (B : Nat × Nat) (tb : Nat → Nat) (n nk np : Nat) (z : pr_T) (r : Option Value) (h1 : mm_H) : Prop := ∃ ad1 C1, r = some (.ref (ad1 5 np)) ∧ cw ad1 h0 C1 h1 ∧ oK N ad C ad1 C1 ∧ ad1 6 0 = ad 6 0 ∧ 0 < cN C1 6 ∧ rmX B h1 ∧ ((¬ z.1 = 0 ∧ ∃ nn, z.2.1.1 35 = nI nn ∧ nn ≤ 10 ∧ sPk ad1 C1 tb n nk z.2.1 z.2.2 (nk + nn) (nk + nn) ∧ pkW ad1 C1 z.2.1 np nn nk) ∨ (z.1 = 0 ∧ ∃ p, p ≤ 800 ∧ cI C1 6 0 0 = nI p ∧ z.2.1.1 24 = nI p))
theorem pkD.k6 {ad : Nat → Nat → Nat} {C C2 : cw_C} {np nn : Nat} (h : pkD ad C np nn) (y : k6 C C2) : pkD ad C2 np nn := by
  have e := (y 5).1 (by decide)
  unfold pkD
  rw [(y 5).2, (y 20).2, cR_o e, cI_o e]
  exact h
theorem pkW.six {ad : Nat → Nat → Nat} {C C2 : cw_C} {M M' : mw_S} {np nn nk : Nat} (h : pkW ad C M np nn nk) (y : k6 C C2) (h1 : M'.2.2.2.1 102 0 = M.2.2.2.1 102 0) (h2 : M'.2.2.2.1 104 0 = M.2.2.2.1 104 0) (h3 : M'.1 101 = M.1 101) (h4 : M'.1 100 = M.1 100) : pkW ad C2 M' np nn nk := by
  obtain ⟨a, b, c, e, f, g⟩ := h
  have e5 := (y 5).1 (by decide)
  refine ⟨a.k6 y, ?_, ?_, ?_, ?_, fun i hi => ?_⟩
  · rw [cL_o e5, h1]; exact b
  · rw [cI_o e5, h3]; exact c
  · rw [cL_o e5, cI_o e5, h2, h3, h4]; exact e
  · rw [cI_o e5]; exact f
  · rw [cR_o ((y 20).1 (by decide))]; exact g i hi
theorem pkD.oK {P : Nat → Nat} {ad ad1 : Nat → Nat → Nat} {C C1 : cw_C} {np nn : Nat} (h : pkD ad C np nn) (o : oK P ad C ad1 C1) (h5 : P 5 = np + 1) (h20 : P 20 = np + 1) : pkD ad1 C1 np nn := by
  obtain ⟨a, b, c, e⟩ := h
  have x := (o 5).1
  have y := (o 20).1
  exact ⟨by omega, by omega, by rw [o.R (by omega), o.A (by omega)]; exact c, by rw [o.I (by omega)]; exact e⟩
theorem pkW.oK {P : Nat → Nat} {ad ad1 : Nat → Nat → Nat} {C C1 : cw_C} {M M' : mw_S} {np nn nk : Nat} (h : pkW ad C M np nn nk) (o : oK P ad C ad1 C1) (h5 : P 5 = np + 1) (h20 : P 20 = np + 1) (h4 : ∀ i, i < nn → ad1 4 (nk + i) = ad 4 (nk + i)) (h1 : M'.2.2.2.1 102 0 = M.2.2.2.1 102 0) (h2 : M'.2.2.2.1 104 0 = M.2.2.2.1 104 0) (h3 : M'.1 101 = M.1 101) (h4' : M'.1 100 = M.1 100) : pkW ad1 C1 M' np nn nk := by
  obtain ⟨a, b, c, e, f, g⟩ := h
  refine ⟨a.oK o h5 h20, ?_, ?_, ?_, ?_, fun i hi => ?_⟩
  · rw [o.L (by omega) (by decide), h1]; exact b
  · rw [o.I (by omega), h3]; exact c
  · rw [o.L (by omega) (by decide), o.I (by omega), h2, h3, h4']; exact e
  · rw [o.I (by omega)]; exact f
  · rw [o.R (by omega), h4 i hi]; exact g i hi
def adC (C : cw_C) (ad : Nat → Nat → Nat) (np nn k : Nat) : cw_C := cw_sI (cw_sR C 20 np nn (some (ad 4 k))) 5 np 7 (nI (nn + 1))
theorem adC_o {C : cw_C} {ad : Nat → Nat → Nat} {np nn k f : Nat} (h : ¬ f = 5) (h2 : ¬ f = 20) : adC C ad np nn k f = C f := (cw_sI_o h).trans (cw_sR_o h2)
theorem adC_N {C : cw_C} {ad : Nat → Nat → Nat} {np nn k f : Nat} : cN (adC C ad np nn k) f = cN C f := cw_sI_N.trans cw_sR_N
theorem pkD.add {ad : Nat → Nat → Nat} {C : cw_C} {np nn k : Nat} (h : pkD ad C np nn) : pkD ad (adC C ad np nn k) np (nn + 1) := by
  obtain ⟨a, b, c, e⟩ := h
  refine ⟨by rw [adC_N]; exact a, by rw [adC_N]; exact b, ?_, ?_⟩
  · unfold adC; rw [cR_sI, cR_sR_n (by omega)]; exact c
  · unfold adC; rw [cI_sI_e]
theorem pkW.add {ad : Nat → Nat → Nat} {C : cw_C} {M : mw_S} {np nn nk : Nat} (h : pkW ad C M np nn nk) : pkW ad (adC C ad np nn (nk + nn)) M np (nn + 1) nk := by
  obtain ⟨a, b, c, e, f, g⟩ := h
  refine ⟨a.add, ?_, ?_, ?_, ?_, fun i hi => ?_⟩
  · unfold adC; rw [cL_sI, cL_sR]; exact b
  · unfold adC; rw [cI_sI_n (by omega), cI_sR]; exact c
  · unfold adC; rw [cL_sI, cL_sR, cI_sI_n (by omega), cI_sR]; exact e
  · unfold adC; rw [cI_sI_n (by omega), cI_sR]; exact f
  · unfold adC
    rw [cR_sI]
    by_cases z : i = nn
    · rw [z, cR_sR_e]
    · rw [cR_sR_n (by omega)]; exact g i (by omega)
/-- what is to come behind a kind -/
def rst (tb : Nat → Nat) (n f : Nat) (M : mw_S) (t : Nat) : pr_T := if cd tb n t = 5 then pEnd tb n (pw tb n M t) (t + 1) else pKs tb n f M t
theorem pKd_0 {tb : Nat → Nat} {n t : Nat} {M : mw_S} (h : ¬ cd tb n t = 25 ∨ M.1 35 = 10) : (pKind tb n M t).1 = 0 ∧ (pKind tb n M t).2.1.1 24 = nI (qs tb n t) := by
  by_cases e : cd tb n t = 25
  · unfold pKind; rw [if_pos e, if_pos (h.resolve_left (fun z => z e))]; exact ⟨rfl, rfl⟩
  · exact pKd_1 e

theorem rp_d122 {G : mm_G} {L : Nat × Nat} {h0 : mm_H} {tb : Nat → Nat} {n nk np d : Nat} {ad adS : Nat → Nat → Nat} {C CS : cw_C} {B : Nat × Nat} {N : Nat → Nat} {h : mm_H} {A : Nat → Prop} {Z : pr_T} {x : Int32} (hrm : rmX B h) {p : Nat} (hr : rD ad C p) (hz : Z.1 = 0 ∧ Z.2.1.1 24 = nI p) (hok : oK N adS CS ad C) (h6 : ad 6 0 = adS 6 0) (hC : cw ad h0 C h) : mm_Run G mX6_readPack A L (d + 19) 122 [(0, .ref (ad 6 0)), (3, .ref (ad 5 np)), (5, .int x)] [] h (pQ N h0 adS CS B tb n nk np Z) := by
  obtain ⟨n6, hf, hp8, t_, hnow, n10⟩ := id hr
  refine mm_iload (pc := 122) dX6_readPack_122 rfl ?_
  refine mm_bipush (pc := 124) (v := 10) dX6_readPack_124 (by decide) ?_
  refine mm_icmp_ge (pc := 126) (tgt := 152) dX6_readPack_126 (by decide) (fun c126 => ?_) (fun c126 => ?_)
  · refine mm_aload_n (pc := 152) dX6_readPack_152 rfl (by first | trivial | assumption | exact mm_isr_rf _) ?_
    refine mm_iconst (pc := 153) (v := 5) dX6_readPack_153 (by decide) ?_
    refine mm_callV (pc := 154) (As := [_]) (kd := ?kd_154_1) (fs := ?fs_154_1) dX6_readPack_154 vl_X6_31 (tk_dead hr hC) ?hc_154_1 ?hk_154_1 rfl rfl (Nat.le_of_ble_eq_true rfl) ?_; (case hc_154_1 => exact cw_cell (f := 6) hC rfl rfl n6); (case hk_154_1 => rfl)
    rintro _ _ ⟨rfl, v154, rfl⟩
    refine mm_pop2 (pc := 157) dX6_readPack_157 rfl ?_
    refine mm_aload_n (pc := 158) dX6_readPack_158 rfl (by first | trivial | assumption | exact mm_isr_rf _) ?_
    refine mm_iconst (pc := 159) (v := 0) dX6_readPack_159 (by decide) ?_
    refine mm_callV (pc := 160) (As := [_]) (kd := ?kd_160_2) (fs := ?fs_160_2) dX6_readPack_160 vl_X6_31 (tk_dead hr hC) ?hc_160_2 ?hk_160_2 rfl rfl (Nat.le_of_ble_eq_true rfl) ?_; (case hc_160_2 => exact cw_cell (f := 6) hC rfl rfl n6); (case hk_160_2 => rfl)
    rintro _ _ ⟨rfl, v160, rfl⟩
    refine mm_pop2 (pc := 163) dX6_readPack_163 rfl ?_
    refine mm_aload_n (pc := 164) dX6_readPack_164 rfl (by first | trivial | assumption | exact mm_isr_rf _) ?_
    refine mm_aret (pc := 165) dX6_readPack_165 rfl (Or.inl ⟨_, rfl⟩) (by first | trivial | assumption | exact mm_isr_rf _) ?_
    exact ⟨ad, C, rfl, hC, hok, h6, n6, hrm, Or.inr ⟨hz.1, p, hp8, hf, hz.2⟩⟩
  · refine mm_aload_n (pc := 129) dX6_readPack_129 rfl (by first | trivial | assumption | exact mm_isr_rf _) ?_
    refine mm_bipush (pc := 130) (v := 25) dX6_readPack_130 (by decide) ?_
    refine mm_callV (pc := 132) (As := [_]) (kd := ?kd_132_3) (fs := ?fs_132_3) dX6_readPack_132 vl_X6_39 (se_dead hr hC) ?hc_132_3 ?hk_132_3 rfl rfl (Nat.le_of_ble_eq_true rfl) ?_; (case hc_132_3 => exact cw_cell (f := 6) hC rfl rfl n6); (case hk_132_3 => rfl)
    rintro _ _ ⟨rfl, rfl⟩
    refine mm_if_eq (pc := 135) (tgt := 152) dX6_readPack_135 (by decide) (fun c135 => ?_) (fun c135 => absurd rfl c135)
    refine mm_aload_n (pc := 152) dX6_readPack_152 rfl (by first | trivial | assumption | exact mm_isr_rf _) ?_
    refine mm_iconst (pc := 153) (v := 5) dX6_readPack_153 (by decide) ?_
    refine mm_callV (pc := 154) (As := [_]) (kd := ?kd_154_4) (fs := ?fs_154_4) dX6_readPack_154 vl_X6_31 (tk_dead hr hC) ?hc_154_4 ?hk_154_4 rfl rfl (Nat.le_of_ble_eq_true rfl) ?_; (case hc_154_4 => exact cw_cell (f := 6) hC rfl rfl n6); (case hk_154_4 => rfl)
    rintro _ _ ⟨rfl, v154, rfl⟩
    refine mm_pop2 (pc := 157) dX6_readPack_157 rfl ?_
    refine mm_aload_n (pc := 158) dX6_readPack_158 rfl (by first | trivial | assumption | exact mm_isr_rf _) ?_
    refine mm_iconst (pc := 159) (v := 0) dX6_readPack_159 (by decide) ?_
    refine mm_callV (pc := 160) (As := [_]) (kd := ?kd_160_5) (fs := ?fs_160_5) dX6_readPack_160 vl_X6_31 (tk_dead hr hC) ?hc_160_5 ?hk_160_5 rfl rfl (Nat.le_of_ble_eq_true rfl) ?_; (case hc_160_5 => exact cw_cell (f := 6) hC rfl rfl n6); (case hk_160_5 => rfl)
    rintro _ _ ⟨rfl, v160, rfl⟩
    refine mm_pop2 (pc := 163) dX6_readPack_163 rfl ?_
    refine mm_aload_n (pc := 164) dX6_readPack_164 rfl (by first | trivial | assumption | exact mm_isr_rf _) ?_
    refine mm_aret (pc := 165) dX6_readPack_165 rfl (Or.inl ⟨_, rfl⟩) (by first | trivial | assumption | exact mm_isr_rf _) ?_
    exact ⟨ad, C, rfl, hC, hok, h6, n6, hrm, Or.inr ⟨hz.1, p, hp8, hf, hz.2⟩⟩

theorem rp_d110 {G : mm_G} {L : Nat × Nat} {h0 : mm_H} {tb : Nat → Nat} {n nk np d : Nat} {ad adS : Nat → Nat → Nat} {C CS : cw_C} {B : Nat × Nat} {N P : Nat → Nat} {h : mm_H} {A : Nat → Prop} {Z : pr_T} {v : Int64} (hpd : pkD ad C np 0) (hP4c : P 4 ≤ cN C 4) (hPo : ∀ f, P f ≤ cN C f) (hP5 : P 5 = np + 1) (hP20 : P 20 = np + 1) (hP4 : P 4 ≤ nk) (hP21 : P 21 ≤ nk) (hP6 : P 6 = 0) (hPN : ∀ f, N f ≤ P f) (hN5 : N 5 ≤ np) (hN20 : N 20 ≤ np) (hrm : h.2.1 ≤ B.1 ∧ h.2.2 ≤ B.2) (hB1 : B.1 + 2 ≤ L.1) (hB2 : B.2 + 18 ≤ L.2) {p : Nat} (hr : rD ad C p) (hz : Z.1 = 0 ∧ Z.2.1.1 24 = nI p) (hok : oK N adS CS ad C) (h6 : ad 6 0 = adS 6 0) (hC : cw ad h0 C h) : mm_Run G mX6_readPack A L (d + 19) 110 [(0, .ref (ad 6 0)), (3, .ref (ad 5 np))] [.long v] h (pQ N h0 adS CS B tb n nk np Z) := by
  obtain ⟨n6, hf, hp8, t_, hnow, n10⟩ := id hr
  refine mm_pop2 (pc := 110) dX6_readPack_110 rfl ?_
  refine mm_aload_n (pc := 111) dX6_readPack_111 rfl (by first | trivial | assumption | exact mm_isr_rf _) ?_
  refine mm_aload_n (pc := 112) dX6_readPack_112 rfl (by first | trivial | assumption | exact mm_isr_rf _) ?_
  refine mm_callV (pc := 113) (As := []) (kd := ?kd_113_6) (fs := ?fs_113_6) dX6_readPack_113 vl_X6_56 (rk_dead (d := d) (tb := tb) (n := n) (nk := nk) (B := B) (N := P) (Z := Z) rfl hP4c hPo hr hz hrm hB1 hB2 hC) ?hc_113_6 ?hk_113_6 rfl rfl (Nat.le_of_ble_eq_true rfl) ?_; (case hc_113_6 => exact cw_cell (f := 6) hC rfl rfl n6); (case hk_113_6 => rfl)
  rintro _ h113 ⟨ad1, C1, e113, hC, ok1, e6, n4b, ⟨zne, -⟩ | ⟨zeq, p_, rd, pl, rx⟩⟩
  · exact absurd hz.1 zne
  · cases e113
    have hpd1 := hpd.oK ok1 hP5 hP20
    have e5 : ad1 5 np = ad 5 np := ok1.A (by omega)
    rw [← e6, ← e5]
    refine mm_callV (pc := 116) (As := [_]) (kd := ?kd_116_7) (fs := ?fs_116_7) dX6_readPack_116 vl_X6_60 (x5_add (nn := 0) hpd1.1 hpd1.2.1 n4b hpd1.2.2.1 hpd1.2.2.2 (by decide) hC) ?hc_116_7 ?hk_116_7 rfl rfl (Nat.le_of_ble_eq_true rfl) ?_; (case hc_116_7 => exact cw_cell (f := 5) hC rfl rfl hpd1.1); (case hk_116_7 => rfl)
    rintro _ h116 ⟨hC, e116, rfl⟩
    have hC : cw ad1 h0 (adC C1 ad1 np 0 (cN C 4)) h116 := hC
    have hokA := ((hok.trans (ok1.le hPN)).sR (f := 20) (j := 0) (x := some (ad1 4 (cN C 4))) hN20).sI (f := 5) (j := 7) (x := nI (0 + 1)) hN5
    refine mm_iconst (pc := 119) (v := 1) dX6_readPack_119 (by decide) ?_
    refine mm_istore (pc := 120) dX6_readPack_120 rfl (Nat.le_of_ble_eq_true rfl) ?_
    exact mm_weakK (rp_d122 (x := 1) (rx.same e116) (rd.same (adC_o (by decide) (by decide)) (adC_o (by decide) (by decide)) (fun _ _ => rfl)) ⟨zeq, pl⟩ hokA (e6.trans h6) hC) (And.intro rfl (And.intro rfl (And.intro rfl trivial)))

theorem rp_d102 {G : mm_G} {L : Nat × Nat} {h0 : mm_H} {tb : Nat → Nat} {n nk np d : Nat} {ad adS : Nat → Nat → Nat} {C CS : cw_C} {B : Nat × Nat} {N P : Nat → Nat} {h : mm_H} {A : Nat → Prop} {Z : pr_T} {v : Int64} (hpd : pkD ad C np 0) (hP4c : P 4 ≤ cN C 4) (hPo : ∀ f, P f ≤ cN C f) (hP5 : P 5 = np + 1) (hP20 : P 20 = np + 1) (hP4 : P 4 ≤ nk) (hP21 : P 21 ≤ nk) (hP6 : P 6 = 0) (hPN : ∀ f, N f ≤ P f) (hN5 : N 5 ≤ np) (hN20 : N 20 ≤ np) (hrm : h.2.1 ≤ B.1 ∧ h.2.2 ≤ B.2) (hB1 : B.1 + 2 ≤ L.1) (hB2 : B.2 + 18 ≤ L.2) {p : Nat} (hr : rD ad C p) (hz : Z.1 = 0 ∧ Z.2.1.1 24 = nI p) (hok : oK N adS CS ad C) (h6 : ad 6 0 = adS 6 0) (hC : cw ad h0 C h) : mm_Run G mX6_readPack A L (d + 19) 102 [(0, .ref (ad 6 0)), (3, .ref (ad 5 np))] [.long v, .ref (ad 5 np)] h (pQ N h0 adS CS B tb n nk np Z) := by
  obtain ⟨n6, hf, hp8, t_, hnow, n10⟩ := id hr
  refine cw_pl (pc := 102) 5 _ 2 hC (rfl) rfl (hpd.1) dX6_readPack_102 (pl_X6_53 _) rfl rfl (fun h102 hC e102 => ?_)
  refine mm_aload_n (pc := 105) dX6_readPack_105 rfl (by first | trivial | assumption | exact mm_isr_rf _) ?_
  refine mm_iconst (pc := 106) (v := 4) dX6_readPack_106 (by decide) ?_
  refine mm_callV (pc := 107) (As := [_]) (kd := ?kd_107_8) (fs := ?fs_107_8) dX6_readPack_107 vl_X6_31 (tk_dead (hr.same (cw_sL_o (by decide)) (cw_sL_o (by decide)) (fun _ _ => rfl)) hC) ?hc_107_8 ?hk_107_8 rfl rfl (Nat.le_of_ble_eq_true rfl) ?_; (case hc_107_8 => exact cw_cell (f := 6) hC rfl rfl (by rw [cw_sL_N]; exact n6)); (case hk_107_8 => rfl)
  rintro _ _ ⟨rfl, v107, rfl⟩
  exact mm_weakK (rp_d110 ⟨by rw [cw_sL_N]; exact hpd.1, by rw [cw_sL_N]; exact hpd.2.1, by rw [cR_sL]; exact hpd.2.2.1, by rw [cI_sL]; exact hpd.2.2.2⟩ (by rw [cw_sL_N]; exact hP4c) (fun f => by rw [cw_sL_N]; exact hPo f) hP5 hP20 hP4 hP21 hP6 hPN hN5 hN20 (by rw [e102]; exact hrm) hB1 hB2 (hr.same (cw_sL_o (by decide)) (cw_sL_o (by decide)) (fun _ _ => rfl)) hz (hok.sL hN5) h6 hC) (And.intro rfl (And.intro rfl trivial))

theorem rp_d61 {G : mm_G} {L : Nat × Nat} {h0 : mm_H} {tb : Nat → Nat} {n nk np d : Nat} {ad adS : Nat → Nat → Nat} {C CS : cw_C} {B : Nat × Nat} {N P : Nat → Nat} {h : mm_H} {A : Nat → Prop} {Z : pr_T} {v : Int64} (hpd : pkD ad C np 0) (hP4c : P 4 ≤ cN C 4) (hPo : ∀ f, P f ≤ cN C f) (hP5 : P 5 = np + 1) (hP20 : P 20 = np + 1) (hP4 : P 4 ≤ nk) (hP21 : P 21 ≤ nk) (hP6 : P 6 = 0) (hPN : ∀ f, N f ≤ P f) (hN5 : N 5 ≤ np) (hN20 : N 20 ≤ np) (hrm : h.2.1 ≤ B.1 ∧ h.2.2 ≤ B.2) (hB1 : B.1 + 2 ≤ L.1) (hB2 : B.2 + 18 ≤ L.2) {p : Nat} (hr : rD ad C p) (hz : Z.1 = 0 ∧ Z.2.1.1 24 = nI p) (hok : oK N adS CS ad C) (h6 : ad 6 0 = adS 6 0) (hC : cw ad h0 C h) : mm_Run G mX6_readPack A L (d + 19) 61 [(0, .ref (ad 6 0)), (3, .ref (ad 5 np))] [.long v, .ref (ad 5 np)] h (pQ N h0 adS CS B tb n nk np Z) := by
  obtain ⟨n6, hf, hp8, t_, hnow, n10⟩ := id hr
  refine cw_pl (pc := 61) 5 _ 0 hC (rfl) rfl (hpd.1) dX6_readPack_61 (pl_X6_35 _) rfl rfl (fun h61 hC e61 => ?_)
  refine mm_aload_n (pc := 64) dX6_readPack_64 rfl (by first | trivial | assumption | exact mm_isr_rf _) ?_
  refine mm_bipush (pc := 65) (v := 24) dX6_readPack_65 (by decide) ?_
  refine mm_callV (pc := 67) (As := [_]) (kd := ?kd_67_9) (fs := ?fs_67_9) dX6_readPack_67 vl_X6_39 (se_dead (hr.same (cw_sL_o (by decide)) (cw_sL_o (by decide)) (fun _ _ => rfl)) hC) ?hc_67_9 ?hk_67_9 rfl rfl (Nat.le_of_ble_eq_true rfl) ?_; (case hc_67_9 => exact cw_cell (f := 6) hC rfl rfl (by rw [cw_sL_N]; exact n6)); (case hk_67_9 => rfl)
  rintro _ _ ⟨rfl, rfl⟩
  refine mm_if_eq (pc := 70) (tgt := 105) dX6_readPack_70 (by decide) (fun c70 => ?_) (fun c70 => absurd rfl c70)
  refine mm_aload_n (pc := 105) dX6_readPack_105 rfl (by first | trivial | assumption | exact mm_isr_rf _) ?_
  refine mm_iconst (pc := 106) (v := 4) dX6_readPack_106 (by decide) ?_
  refine mm_callV (pc := 107) (As := [_]) (kd := ?kd_107_10) (fs := ?fs_107_10) dX6_readPack_107 vl_X6_31 (tk_dead (hr.same (cw_sL_o (by decide)) (cw_sL_o (by decide)) (fun _ _ => rfl)) hC) ?hc_107_10 ?hk_107_10 rfl rfl (Nat.le_of_ble_eq_true rfl) ?_; (case hc_107_10 => exact cw_cell (f := 6) hC rfl rfl (by rw [cw_sL_N]; exact n6)); (case hk_107_10 => rfl)
  rintro _ _ ⟨rfl, v107, rfl⟩
  exact mm_weakK (rp_d110 ⟨by rw [cw_sL_N]; exact hpd.1, by rw [cw_sL_N]; exact hpd.2.1, by rw [cR_sL]; exact hpd.2.2.1, by rw [cI_sL]; exact hpd.2.2.2⟩ (by rw [cw_sL_N]; exact hP4c) (fun f => by rw [cw_sL_N]; exact hPo f) hP5 hP20 hP4 hP21 hP6 hPN hN5 hN20 (by rw [e61]; exact hrm) hB1 hB2 (hr.same (cw_sL_o (by decide)) (cw_sL_o (by decide)) (fun _ _ => rfl)) hz (hok.sL hN5) h6 hC) (And.intro rfl (And.intro rfl trivial))

theorem rp_d54 {G : mm_G} {L : Nat × Nat} {h0 : mm_H} {tb : Nat → Nat} {n nk np d : Nat} {ad adS : Nat → Nat → Nat} {C CS : cw_C} {B : Nat × Nat} {N P : Nat → Nat} {h : mm_H} {A : Nat → Prop} {Z : pr_T} {v : Int64} (hpd : pkD ad C np 0) (hP4c : P 4 ≤ cN C 4) (hPo : ∀ f, P f ≤ cN C f) (hP5 : P 5 = np + 1) (hP20 : P 20 = np + 1) (hP4 : P 4 ≤ nk) (hP21 : P 21 ≤ nk) (hP6 : P 6 = 0) (hPN : ∀ f, N f ≤ P f) (hN5 : N 5 ≤ np) (hN20 : N 20 ≤ np) (hrm : h.2.1 ≤ B.1 ∧ h.2.2 ≤ B.2) (hB1 : B.1 + 2 ≤ L.1) (hB2 : B.2 + 18 ≤ L.2) {p : Nat} (hr : rD ad C p) (hz : Z.1 = 0 ∧ Z.2.1.1 24 = nI p) (hok : oK N adS CS ad C) (h6 : ad 6 0 = adS 6 0) (hC : cw ad h0 C h) : mm_Run G mX6_readPack A L (d + 19) 54 [(0, .ref (ad 6 0)), (3, .ref (ad 5 np))] [.long v] h (pQ N h0 adS CS B tb n nk np Z) := by
  obtain ⟨n6, hf, hp8, t_, hnow, n10⟩ := id hr
  refine mm_pop2 (pc := 54) dX6_readPack_54 rfl ?_
  refine mm_aload_n (pc := 55) dX6_readPack_55 rfl (by first | trivial | assumption | exact mm_isr_rf _) ?_
  refine mm_aload_n (pc := 56) dX6_readPack_56 rfl (by first | trivial | assumption | exact mm_isr_rf _) ?_
  refine mm_iconst (pc := 57) (v := 2) dX6_readPack_57 (by decide) ?_
  refine mm_callV (pc := 58) (As := [_]) (kd := ?kd_58_11) (fs := ?fs_58_11) dX6_readPack_58 vl_X6_31 (tk_dead hr hC) ?hc_58_11 ?hk_58_11 rfl rfl (Nat.le_of_ble_eq_true rfl) ?_; (case hc_58_11 => exact cw_cell (f := 6) hC rfl rfl n6); (case hk_58_11 => rfl)
  rintro _ _ ⟨rfl, v58, rfl⟩
  exact rp_d61 hpd hP4c hPo hP5 hP20 hP4 hP21 hP6 hPN hN5 hN20 hrm hB1 hB2 hr hz hok h6 hC

theorem tk_0 {G : mm_G} {L : Nat × Nat} {d : Nat} {h : mm_H} {h0 : mm_H} {ad : Nat → Nat → Nat} {C : cw_C} {tb : Nat → Nat} {n t : Nat} (hr : rL ad C tb n t) (hn : n ≤ 800) (hC : cw ad h0 C h) : mm_Ok G mX6_take L d [.ref (ad 6 0), .int (nI 0)] h (fun r h1 => ∃ C1, cw ad h0 C1 h1 ∧ k6 C C1 ∧ h1.2 = h.2 ∧ (∃ v : Int64, r = some (.long v)) ∧ ((cd tb n t = 0 ∧ rL ad C1 tb n t) ∨ (¬ cd tb n t = 0 ∧ rD ad C1 (qs tb n t)))) := by
  by_cases e : cd tb n t = 0
  · refine mm_Ok.post (tk_end hr hn hC (by rw [e]) (by omega)) ?_
    rintro r h1 ⟨rfl, v, g⟩
    exact ⟨C, hC, k6.refl C, rfl, ⟨v, g⟩, Or.inl ⟨e, hr⟩⟩
  · refine mm_Ok.post (tk_bad hr hn hC (fun z => e ((nI_eq (by have := cd_lt tb n t; omega) (by omega)).mp z))) ?_
    rintro r h1 ⟨C1, a, b, c_, f, v, g⟩
    exact ⟨C1, a, b, c_, ⟨v, g⟩, Or.inr ⟨e, f⟩⟩

theorem rp_152 {G : mm_G} {L : Nat × Nat} {h0 : mm_H} {tb : Nat → Nat} {n nk np d : Nat} {ad adS : Nat → Nat → Nat} {C CS : cw_C} {B : Nat × Nat} {N : Nat → Nat} {h : mm_H} {A : Nat → Prop} {Z : pr_T} {M : mw_S} {t nn : Nat} (hn8 : n ≤ 800) (hS : sPk ad C tb n nk M t (nk + nn) (nk + nn)) (hpw : pkW ad C M np nn nk) (h35 : M.1 35 = nI nn) (hnn : nn ≤ 10) (hN6 : N 6 = 0) (hrm : rmB n B h (qs tb n t)) (hok : oK N adS CS ad C) (h6 : ad 6 0 = adS 6 0) (hC : cw ad h0 C h) (hz5 : cd tb n t = 5 → Z = pEnd tb n (pw tb n M t) (t + 1)) (hz0 : ¬ cd tb n t = 5 → Z.1 = 0 ∧ Z.2.1.1 24 = nI (qs tb n t)) : mm_Run G mX6_readPack A L (d + 19) 152 [(0, .ref (ad 6 0)), (3, .ref (ad 5 np))] [] h (pQ N h0 adS CS B tb n nk np Z) := by
  have hr := hS.1
  have n6 := hr.1
  refine mm_aload_n (pc := 152) dX6_readPack_152 rfl (by first | trivial | assumption | exact mm_isr_rf _) ?_
  refine mm_iconst (pc := 153) (v := 5) dX6_readPack_153 (by decide) ?_
  refine mm_callV (pc := 154) (As := [_]) (kd := ?kd_154_12) (fs := ?fs_154_12) dX6_readPack_154 vl_X6_31 (tk_any (c := 5) hr hn8 hC (by decide) (by decide)) ?hc_154_12 ?hk_154_12 rfl rfl (Nat.le_of_ble_eq_true rfl) ?_; (case hc_154_12 => exact cw_cell (f := 6) hC rfl rfl n6); (case hk_154_12 => rfl)
  rintro _ h154 ⟨C2, hC, k_, e_, ⟨v_, rfl, -⟩, ⟨cm, hr2⟩ | ⟨cm, hr2⟩⟩
  · have hpw2 := hpw.six (M' := pw tb n M t) k_ rfl rfl rfl rfl
    have hS2 := hS.take k_ hr2
    have n6 := hr2.1
    have hok2 := hok.six k_ hN6
    refine mm_pop2 (pc := 157) dX6_readPack_157 rfl ?_
    refine mm_aload_n (pc := 158) dX6_readPack_158 rfl (by first | trivial | assumption | exact mm_isr_rf _) ?_
    refine mm_iconst (pc := 159) (v := 0) dX6_readPack_159 (by decide) ?_
    refine mm_callV (pc := 160) (As := [_]) (kd := ?kd_160_13) (fs := ?fs_160_13) dX6_readPack_160 vl_X6_31 (tk_0 hr2 hn8 hC) ?hc_160_13 ?hk_160_13 rfl rfl (Nat.le_of_ble_eq_true rfl) ?_; (case hc_160_13 => exact cw_cell (f := 6) hC rfl rfl n6); (case hk_160_13 => rfl)
    rintro _ h160 ⟨C3, hC, k3, e3, ⟨v3, rfl⟩, ⟨cm0, hr3⟩ | ⟨cm0, hr3⟩⟩
    · skip
      refine mm_pop2 (pc := 163) dX6_readPack_163 rfl ?_
      refine mm_aload_n (pc := 164) dX6_readPack_164 rfl (by first | trivial | assumption | exact mm_isr_rf _) ?_
      refine mm_aret (pc := 165) dX6_readPack_165 rfl (Or.inl ⟨_, rfl⟩) (by first | trivial | assumption | exact mm_isr_rf _) ?_
      have hz_ : Z = (1, pw tb n M t, t + 1) := by rw [hz5 cm]; unfold pEnd; rw [if_pos cm0]
      refine ⟨ad, C3, rfl, hC, hok2.six k3 hN6, h6, hr3.1, hrm.X (x := 0) (y := 0) (by decide) (by decide) (by rw [e3]; exact e_), Or.inl ⟨?_, nn, ?_, hnn, ?_, ?_⟩⟩
      · rw [hz_]; exact (show ¬ (1 : Int32) = 0 by decide)
      · rw [hz_]; exact h35
      · rw [hz_]; exact hS2.same hr3 ((k3 0).1 (by decide)) ((k3 1).1 (by decide)) ((k3 4).1 (by decide)) ((k3 21).1 (by decide)) rfl rfl rfl (fun _ _ => rfl)
      · rw [hz_]; exact hpw2.six k3 rfl rfl rfl rfl
    · skip
      refine mm_pop2 (pc := 163) dX6_readPack_163 rfl ?_
      refine mm_aload_n (pc := 164) dX6_readPack_164 rfl (by first | trivial | assumption | exact mm_isr_rf _) ?_
      refine mm_aret (pc := 165) dX6_readPack_165 rfl (Or.inl ⟨_, rfl⟩) (by first | trivial | assumption | exact mm_isr_rf _) ?_
      have hz_ : Z = (0, pf tb n (pw tb n M t) (t + 1), t + 1) := by rw [hz5 cm]; unfold pEnd; rw [if_neg cm0]
      refine ⟨ad, C3, rfl, hC, hok2.six k3 hN6, h6, hr3.1, hrm.X (x := 0) (y := 0) (by decide) (by decide) (by rw [e3]; exact e_), Or.inr ⟨?_, qs tb n (t + 1), hr3.2.2.1, hr3.2.1, ?_⟩⟩
      · rw [hz_]
      · rw [hz_]; rfl
  · have hz_ := hz0 cm
    have n6 := hr2.1
    refine mm_pop2 (pc := 157) dX6_readPack_157 rfl ?_
    refine mm_aload_n (pc := 158) dX6_readPack_158 rfl (by first | trivial | assumption | exact mm_isr_rf _) ?_
    refine mm_iconst (pc := 159) (v := 0) dX6_readPack_159 (by decide) ?_
    refine mm_callV (pc := 160) (As := [_]) (kd := ?kd_160_14) (fs := ?fs_160_14) dX6_readPack_160 vl_X6_31 (tk_dead hr2 hC) ?hc_160_14 ?hk_160_14 rfl rfl (Nat.le_of_ble_eq_true rfl) ?_; (case hc_160_14 => exact cw_cell (f := 6) hC rfl rfl n6); (case hk_160_14 => rfl)
    rintro _ _ ⟨rfl, v160, rfl⟩
    refine mm_pop2 (pc := 163) dX6_readPack_163 rfl ?_
    refine mm_aload_n (pc := 164) dX6_readPack_164 rfl (by first | trivial | assumption | exact mm_isr_rf _) ?_
    refine mm_aret (pc := 165) dX6_readPack_165 rfl (Or.inl ⟨_, rfl⟩) (by first | trivial | assumption | exact mm_isr_rf _) ?_
    exact ⟨ad, C2, rfl, hC, hok.six k_ hN6, h6, hr2.1, hrm.X (x := 0) (y := 0) (by decide) (by decide) e_, Or.inr ⟨hz_.1, qs tb n t, hr2.2.2.1, hr2.2.1, hz_.2⟩⟩

