/-! behind both constructors -/
section X11O
variable {G : mm_G} {L : Nat × Nat} {d : Nat} {h h0 : mm_H} {ad : Nat → Nat → Nat} {C : cw_C} {x y z xa : Nat}
theorem x11_ok (hlt : lt_ G h0) (hL1 : h.2.1 + 36 ≤ L.1) (hL2 : h.2.2 + 3212 ≤ L.2) (hC : cw ad h0 (cw_new C0 11) h) : mm_Ok G mX11_init L (d + 8) [.ref (ad 11 0)] h (fun r h1 => ∃ ad1 C1, cw ad1 h0 C1 h1 ∧ ST (ad 11 0) (MG x y z) 3 8 10 ad1 C1 ∧ (cN C1 4 = 3 ∧ cN C1 21 = 3 ∧ cN C1 1 = 8) ∧ h1.2 = (h.2.1 + 36, h.2.2 + 3212) ∧ r = none) := by
  refine mm_Ok.of [(0, .ref (ad 11 0))] rfl kX11_init.2.2.2.2.2 rfl (fun A => ?_)
  refine x11_a (d := d + 6) (by omega) (by omega) hC (fun ad1 C1 h1 hC1 hP e11 s1 => ?_)
  have hP' := hP.pr
  rw [e11] at hP'
  rw [← e11]
  obtain ⟨⟨⟨c0, c1, c2, c3, c4, c5, c6, c9, c10, c20, c21⟩, d7, d8, d11, d12, d13, d14, d15, d16, d17, d18, d19⟩, ⟨p0, p1, p2, p3, p4⟩, -⟩ := hP
  have l1 : (h.2.1 + 12) + 24 ≤ L.1 := by omega
  have l2 : (h.2.2 + 3026) + 186 ≤ L.2 := by omega
  refine x11_b (x := x) (y := y) (z := z) (xa := ad1 11 0) hlt l1 l2 ⟨⟨⟨Nat.zero_le _, Nat.zero_le _, Nat.zero_le _, Nat.zero_le _⟩, fun _ h => absurd h (Nat.not_lt_zero _), fun _ h => absurd h (Nat.not_lt_zero _), fun _ h => absurd h (Nat.not_lt_zero _)⟩, ⟨⟨by rw [d7]; decide, by rw [d18]; decide⟩, p0, p1, Nat.zero_le _, fun _ h => absurd h (Nat.not_lt_zero _)⟩, by rw [e11]; exact hP'⟩ c4 c21 c1 c0 hC1 s1 (fun ad C h hC hS kc sz => ?_)
  refine x11_c hlt l1 l2 (fun ad C h hC hS kc sz => ?_) 6 0 ad C h rfl hC hS kc sz
  refine x11_d hlt l1 l2 hC hS kc sz (fun ad C h hC hS hn sz => ?_)
  refine x11_e hlt l1 l2 hC hS hn sz (fun ad C h hC hS kc sz => ?_)
  refine x11_f hlt l1 l2 hC hS kc sz (fun ad C h hC hS kc sz => ?_)
  refine x11_g hlt l1 l2 hC hS kc sz (fun ad C h hC hS hn sz => ?_)
  refine x11_h hlt l1 l2 hC hS hn sz (fun ad C h hC hS kc sz => ?_)
  refine x11_i hlt l1 l2 hC hS kc sz (fun ad C h hC hS kc sz => ?_)
  refine x11_j hlt l1 l2 hC hS kc sz (fun ad C h hC hS hn sz => ?_)
  exact ⟨ad, C, hC, hS, hn, sz, rfl⟩
theorem MG_v {j i : Nat} : (MG x y z).2.2.1 j i = vG j i := rfl
theorem hs_g {j k : Nat} : rm_has (MG x y z) j k = decide (vG 8 (6 * k + j) = 1) := rfl
theorem se_g {j k u : Nat} : rm_sees (MG x y z) j k u = decide (¬ vG 9 (6 * u + j) = 2 ∨ vG 5 k = vG 5 u) := rfl
theorem sG_v : sG 1 = 0 ∧ sG 3 = nI 3 ∧ sG 13 = nI 10 ∧ sG 19 = 0 ∧ sG 23 = 1 ∧ sG 24 = -1 ∧ sG 48 = 0 ∧ sG 54 = 0 ∧ sG 66 = 0 ∧ sG 67 = 0 ∧ sG 68 = 0 ∧ sG 72 = 0 ∧ sG 111 = nI 8 := by decide +kernel
set_option maxRecDepth 100000 in
theorem vG_0 (i : Nat) : vG 0 i = 0 := rfl
set_option maxRecDepth 100000 in
theorem vG_2 (i : Nat) : vG 2 i = 0 := rfl
theorem rs_0 (h : ST xa (MG x y z) 3 8 10 ad C) (hn : cN C 4 = 3 ∧ cN C 21 = 3 ∧ cN C 1 = 8) : rsR ad C (MG x y z) ab3 3 0 0 0 0 0 (fun _ _ => 0, fun _ _ => 0, fun _ _ => 0) := by
  obtain ⟨⟨⟨m4, m21, m1, m0⟩, hS, hb, ha⟩, ⟨⟨n7, n18⟩, r0, r1, -, r2⟩, ⟨⟨⟨c2, c3, c5, c6, c9, c10, c20⟩, d7, d8, d11, d12, d13, d14, d15, d16, d17, d18, d19⟩, ⟨p0, p1, p2⟩, ⟨q0, q1, q2, q3, q4, q5, q6, q7, q8, q9⟩, r, s, ⟨t0, t1, t2, t3, t4, t5, t6, t7⟩, t8⟩, n0⟩ := h
  obtain ⟨k4, k21, k1⟩ := hn
  obtain ⟨s1, s3, s13, s19, s23, s24, s48, s54, s66, s67, s68, s72, s111⟩ := sG_v
  have kg8 : kg (MG x y z) = 8 := by
    show (sG 111).toNatClampNeg = 8
    rw [s111, nI_clamp (by decide)]
  refine ⟨⟨⟨n7, n18, by omega, by omega, Nat.zero_le _⟩, ⟨by decide, by decide⟩, r0, r1, p0, p1, ?_, fun i hi => ⟨r2 i hi, (hS i hi).1.1⟩, fun _ h => absurd h (Nat.not_lt_zero _)⟩, ⟨⟨kf_3, by decide, m4, m21⟩, hS, fun g hg => hb g (by omega), ⟨by rw [kg8, k1], by rw [kg8]; decide⟩, fun i hi => hBm_G (x := x) (y := y) (z := z) (S := sG) (g := 8) s111 (Nat.le_refl _) hi (by split <;> omega), ⟨by rw [n0]; exact s13, by omega, fun a h => ha a (by omega)⟩⟩, ⟨⟨k4, k21, c5, c20, c2, c6, c10⟩, c9, c3⟩, ⟨⟨by omega, by omega, by omega⟩, q0, ?_, ?_, q3, q9, fun c _ _ => (r c).trans ((vG_2 c).symm.trans (MG_v (x := x) (y := y) (z := z)).symm), fun i _ => (s i).trans ((vG_0 i).symm.trans (MG_v (x := x) (y := y) (z := z)).symm)⟩, ⟨kf_3, by decide, fun i hi => (vG_k i hi).2.2⟩, ⟨s3, s19⟩, ⟨⟨by omega, by omega, Nat.zero_le _⟩, Nat.zero_le _, q4, q5, s48, fun _ h => absurd h (Nat.not_lt_zero _)⟩, ⟨⟨by omega, Nat.zero_le _⟩, Nat.zero_le _, q7, q8, s54, fun _ h => absurd h (Nat.not_lt_zero _)⟩, ⟨fun _ h => absurd h (Nat.not_lt_zero _), fun c _ => ⟨rfl, rfl⟩, fun _ h => absurd h (Nat.not_lt_zero _)⟩, ⟨⟨by omega, by omega, by omega⟩, ⟨Nat.zero_le _, Nat.zero_le _⟩, q6, ⟨?_, ?_, ?_, ?_⟩, ⟨s68, s72⟩, ⟨t4, t5, t6, t7⟩, fun _ h => absurd h (Nat.not_lt_zero _), fun _ h => absurd h (Nat.not_lt_zero _)⟩⟩
  · rw [p2]; show (0 : Int32) + 1 = sG 23; rw [s23]; rfl
  · rw [q1]; exact s1.symm
  · rw [q2]; exact s24.symm
  · rw [t0]; exact s66.symm
  · rw [t1]; exact s68.symm
  · rw [t2]; exact s72.symm
  · rw [t3]; exact s67.symm
theorem bt_0 : 0 = bt 0 := by decide +kernel
def oK3 (i : Nat) : Nat := [0, 0, 0, 0, 0, 0, 1, 1, 2, 2].getD i 0
def oQ3 (i : Nat) : Nat := [0, 1, 2, 3, 4, 5, 4, 4, 2, 2].getD i 0
theorem o3 : ∀ i, i < 10 → oK3 i < 3 ∧ oQ3 i < 6 ∧ hG3 (oK3 i) (oQ3 i) = true ∧ (1 ≤ [3, 3, 3, 3, 3, 3, 1, 3, 1, 4].getD i 0 ∧ [3, 3, 3, 3, 3, 3, 1, 3, 1, 4].getD i 0 ≤ 10) ∧ [0, 1, 2, 3, 4, 5, 0, 14, 0, 1].getD i 0 ≤ 999 ∧ (nI ([3, 3, 3, 3, 3, 3, 1, 3, 1, 4].getD i 0) = 1 → i = 6 ∨ i = 8) ∧ ¬ nI ([3, 3, 3, 3, 3, 3, 1, 3, 1, 4].getD i 0) = 2 ∧ ¬ nI ([3, 3, 3, 3, 3, 3, 1, 3, 1, 4].getD i 0) = 9 ∧ ¬ nI ([3, 3, 3, 3, 3, 3, 1, 3, 1, 4].getD i 0) = 10 := by decide +kernel
theorem act_G {i : Nat} (h : i < 10) : ACT (MG x y z) (oK3 i) (oQ3 i) 1 i (i + 1) := by
  obtain ⟨v14, v15, v83, v16, v17, v18, v81, v82⟩ := vG_a i h
  obtain ⟨o1, o2, o3, ⟨o4, o5⟩, o6, o7, o8, o9, o10⟩ := o3 i h
  have e14 : (MG x y z).2.2.1 14 i = nI ([3, 3, 3, 3, 3, 3, 1, 3, 1, 4].getD i 0) := v14
  refine ⟨⟨⟨_, o4, o5, v14⟩, Or.inr ⟨_, o6, v15⟩, fun z => absurd (e14.symm.trans z) o8, v81, v82⟩, dOk.of (fun z => o9 (e14.symm.trans z)) (fun z => o10 (e14.symm.trans z)), i + 1, Nat.le_refl _, Nat.le_refl _, ?_, ?_⟩
  · rw [show (MG x y z).2.2.1 16 i = -1 from v16]; exact CV.nil
  · rw [show (MG x y z).2.2.1 17 i = -1 from v17]; exact CV.nil
theorem cv_1 {i : Nat} (h : i < 10) (h18 : vG 18 i = -1) : CV (MG x y z) (oK3 i) (oQ3 i) 1 (nI i) i (i + 1) := CV.cons (by decide) (act_G h) (Nat.le_refl _) (by rw [show (MG x y z).2.2.1 18 i = -1 from h18]; exact CV.nil)
theorem vG_11 : (∀ q, q < 6 → vG 11 (6 * 0 + q) = nI q ∧ vG 18 q = -1 ∧ oK3 q = 0 ∧ oQ3 q = q) ∧ vG 11 (6 * 1 + 4) = nI 6 ∧ vG 11 (6 * 2 + 2) = nI 8 ∧ vG 18 6 = nI 7 ∧ vG 18 8 = nI 9 ∧ vG 18 7 = -1 ∧ vG 18 9 = -1 := by decide +kernel
theorem hG3_of : ∀ k, k < 3 → ∀ q, q < 6 → hG3 k q = true → k = 0 ∨ (k = 1 ∧ q = 4) ∨ (k = 2 ∧ q = 2) := by decide +kernel
theorem PX_0 : PX (MG x y z) ab3 3 0 0 := by
  obtain ⟨s1, s3, s13, s19, s23, s24, s48, s54, s66, s67, s68, s72, s111⟩ := sG_v
  obtain ⟨w0, w1, w2, w3, w4, w5, w6⟩ := vG_11
  have hka : ka (MG x y z) = 10 := by
    show (sG 13).toNatClampNeg = 10
    rw [s13, nI_clamp (by decide)]
  have hlk : ∀ i, i < 10 → rm_lk 10 oK3 oQ3 (oK3 i) (oQ3 i) (vG 18 i) := fun i hi => by
    rw [(vG_a i hi).2.2.2.2.2.1]
    by_cases e6 : i = 6
    · subst e6; exact Or.inr ⟨7, by decide, rfl, rfl, rfl⟩
    · rw [if_neg e6]
      by_cases e8 : i = 8
      · subst e8; exact Or.inr ⟨9, by decide, rfl, rfl, rfl⟩
      · rw [if_neg e8]; exact Or.inl rfl
  refine ⟨0, 0, ⟨s48, by decide⟩, s54, ⟨⟨oK3, oQ3, ?_⟩, ?_, fun q hq => by rw [has_G (by decide) hq]; rfl, by decide, fun K hK => ?_⟩, ⟨⟨fun _ => 0, fun i => ⟨by show (0 : Nat) < 256; decide, (MG_v (x := x) (y := y) (z := z)).trans ((vG_0 i).trans bt_0)⟩⟩, ⟨0, 10, s1, by decide, s13, by decide⟩, 8, s111, by decide⟩, ⟨⟨1, s23, by decide, by decide, fun _ h => absurd h (Nat.not_lt_zero _)⟩, fun i hi => Or.inl ?_⟩, fun _ h => absurd h (Nat.not_lt_zero _), fun _ h => absurd h (Nat.not_lt_zero _), Nat.le_refl _⟩
  · rw [hka]
    refine ⟨by decide, fun i hi => ?_, fun k q hk hq hh => ?_⟩
    · obtain ⟨v14, v15, v83, v16, v17, v18, v81, v82⟩ := vG_a i hi
      obtain ⟨o1, o2, o3, ⟨o4, o5⟩, o6, o7, o8, o9, o10⟩ := o3 i hi
      have e14 : (MG x y z).2.2.1 14 i = nI ([3, 3, 3, 3, 3, 3, 1, 3, 1, 4].getD i 0) := v14
      refine ⟨⟨o1, o2, by rw [has_G o1 o2]; exact o3⟩, ⟨_, o4, o5, v14⟩, Or.inr ⟨_, o6, v15⟩, Or.inl v16, Or.inl v17, hlk i hi, fun z1 => ?_, fun z2 => absurd (e14.symm.trans z2) o8⟩
      rcases o7 (e14.symm.trans z1) with rfl | rfl
      · refine ⟨0, ?_⟩
        show rn_fnd (MG x y z) ab3 1 4 (some 0) = some 0
        unfold rn_fnd
        rw [kfind_some kf_3 (by decide) (by decide)]
        have : (decide (vG 8 (6 * 0 + 4) = 1) && (Nat.beq 0 1 || decide (¬ vG 9 (6 * 0 + 4) = 2 ∨ vG 5 1 = vG 5 0))) = true := by decide +kernel
        have e_ : (rm_has (MG x y z) 4 0 && (Nat.beq 0 1 || rm_sees (MG x y z) 4 1 0)) = true := by
          rw [hs_g, se_g]; exact this
        rw [e_]; rfl
      · refine ⟨0, ?_⟩
        show rn_fnd (MG x y z) ab3 2 2 (some 1) = some 0
        unfold rn_fnd
        rw [kfind_some kf_3 (by decide) (by decide)]
        have : (decide (vG 8 (6 * 1 + 2) = 1) && (Nat.beq 1 2 || decide (¬ vG 9 (6 * 1 + 2) = 2 ∨ vG 5 2 = vG 5 1))) = false := by decide +kernel
        have e_ : (rm_has (MG x y z) 2 1 && (Nat.beq 1 2 || rm_sees (MG x y z) 2 2 1)) = false := by
          rw [hs_g, se_g]; exact this
        rw [e_]
        show kfind ab3 _ (some 0) = some 0
        rw [kfind_some kf_3 (by decide) (by decide)]
        have : (decide (vG 8 (6 * 0 + 2) = 1) && (Nat.beq 0 2 || decide (¬ vG 9 (6 * 0 + 2) = 2 ∨ vG 5 2 = vG 5 0))) = true := by decide +kernel
        have e_ : (rm_has (MG x y z) 2 0 && (Nat.beq 0 2 || rm_sees (MG x y z) 2 2 0)) = true := by
          rw [hs_g, se_g]; exact this
        rw [e_]; rfl
    · rw [has_G hk hq] at hh
      rcases hG3_of k hk q hq hh with rfl | ⟨rfl, rfl⟩ | ⟨rfl, rfl⟩
      · obtain ⟨a1, a2, a3, a4⟩ := w0 q hq
        exact Or.inr ⟨q, by omega, a1, a3, a4⟩
      · exact Or.inr ⟨6, by decide, w1, rfl, rfl⟩
      · exact Or.inr ⟨8, by decide, w2, rfl, rfl⟩
  · rw [hka]
    intro k q hk hq hh
    rw [has_G hk hq] at hh
    rcases hG3_of k hk q hq hh with rfl | ⟨rfl, rfl⟩ | ⟨rfl, rfl⟩
    · obtain ⟨a1, a2, a3, a4⟩ := w0 q hq
      refine ⟨q, q + 1, by omega, ?_⟩
      rw [show (MG x y z).2.2.1 11 (6 * 0 + q) = nI q from a1]
      have := cv_1 (x := x) (y := y) (z := z) (i := q) (by omega) a2
      rw [a3, a4] at this
      exact this
    · refine ⟨6, 8, by decide, ?_⟩
      rw [show (MG x y z).2.2.1 11 (6 * 1 + 4) = nI 6 from w1]
      exact CV.cons (by decide) (act_G (i := 6) (by decide)) (by decide) (by rw [show (MG x y z).2.2.1 18 6 = nI 7 from w3]; exact cv_1 (i := 7) (by decide) w5)
    · refine ⟨8, 10, by decide, ?_⟩
      rw [show (MG x y z).2.2.1 11 (6 * 2 + 2) = nI 8 from w2]
      exact CV.cons (by decide) (act_G (i := 8) (by decide)) (by decide) (by rw [show (MG x y z).2.2.1 18 8 = nI 9 from w4]; exact cv_1 (i := 9) (by decide) w6)
  · have : K = 0 ∨ K = 1 ∨ K = 2 := by omega
    rcases this with rfl | rfl | rfl
    · exact Or.inl rfl
    · exact Or.inr ⟨0, rfl⟩
    · exact Or.inr ⟨1, rfl⟩
  · rw [show (MG x y z).2.2.1 7 i = -7 from (vG_k i hi).2.1]; decide
end X11O
