/-! old kinds over a pack that was read -/
section CXS
variable {ab ab' : Nat → Option Nat} {nk : Nat}
theorem upn_congr (hk : kf_ok ab nk) (h : ∀ i, i < nk → ab' i = ab i) : ∀ (t i : Nat), i < nk → upn ab' t i = upn ab t i := by
  intro t
  induction t with
  | zero => intro i _; rfl
  | succ t ih =>
    intro i hi
    cases z : ab i with
    | none => rw [upn_n z, upn_n ((h i hi).trans z)]
    | some x => rw [upn_s z, upn_s ((h i hi).trans z)]; exact ih x (Nat.lt_trans (hk i x hi z) hi)
theorem An_congr (hk : kf_ok ab nk) (h : ∀ i, i < nk → ab' i = ab i) {i u : Nat} (hi : i < nk) : An ab' i u ↔ An ab i u := by
  unfold An
  constructor
  · rintro ⟨t, z⟩; exact ⟨t, by rw [← upn_congr hk h _ _ hi]; exact z⟩
  · rintro ⟨t, z⟩; exact ⟨t, by rw [upn_congr hk h _ _ hi]; exact z⟩
theorem OV_congr {E E' : Nat → Nat → Bool} (hk : kf_ok ab nk) (h : ∀ i, i < nk → ab' i = ab i) (hE : ∀ x z, x < nk → z < nk → E' x z = E x z) {k j : Nat} (hkk : k < nk) : OV ab' E' k j ↔ OV ab E k j := by
  constructor
  · intro hov S h1 h2
    refine (hov (fun u => S u ∧ u < nk) (fun u ha he => ?_) (fun x z hs ha he => ?_)).1
    · have ha := (An_congr hk h hkk).mp ha
      have hu := Nat.lt_trans (ha.lt hk hkk) hkk
      exact ⟨h1 u ha (by rw [← hE k u hkk hu]; exact he), hu⟩
    · have ha := (An_congr hk h hs.2).mp ha
      have hz := Nat.lt_trans (ha.lt hk hs.2) hs.2
      exact ⟨h2 x z hs.1 ha (by rw [← hE x z hs.2 hz]; exact he), hz⟩
  · intro hov S h1 h2
    refine (hov (fun u => S u ∧ u < nk) (fun u ha he => ?_) (fun x z hs ha he => ?_)).1
    · have hu := Nat.lt_trans (ha.lt hk hkk) hkk
      exact ⟨h1 u ((An_congr hk h hkk).mpr ha) (by rw [hE k u hkk hu]; exact he), hu⟩
    · have hz := Nat.lt_trans (ha.lt hk hs.2) hs.2
      exact ⟨h2 x z hs.1 ((An_congr hk h hs.2).mpr ha) (by rw [hE x z hs.2 hz]; exact he), hz⟩
theorem ovB_congr {E E' : Nat → Nat → Bool} (hk : kf_ok ab nk) (h : ∀ i, i < nk → ab' i = ab i) (hE : ∀ x z, x < nk → z < nk → E' x z = E x z) {k j : Nat} (hkk : k < nk) : ovB ab' E' k j = ovB ab E k j := by
  cases z : ovB ab E k j with
  | true => exact ovB_iff.mpr ((OV_congr hk h hE hkk).mpr (ovB_iff.mp z))
  | false =>
    cases w : ovB ab' E' k j with
    | false => rfl
    | true => rw [ovB_iff.mpr ((OV_congr hk h hE hkk).mp (ovB_iff.mp w))] at z; cases z
theorem kdep_congr (hk : kf_ok ab nk) (hn : nk ≤ 50) (h : ∀ i, i < nk → ab' i = ab i) : ∀ (i : Nat), i < nk → kdep ab' (ab' i) = kdep ab (ab i) := by
  have hk' : kf_ok ab' nk := fun i j hi z => hk i j hi ((h i hi).symm.trans z)
  intro i
  induction i using Nat.strongRecOn with
  | _ i ih =>
    intro hi
    rw [h i hi]
    cases z : ab i with
    | none => rfl
    | some x =>
      have hx := hk i x hi z
      rw [kdep_some hk' (by omega) (by omega), kdep_some hk (by omega) (by omega), ih x hx (by omega)]
end CXS
/-- old kinds, when a pack was read -/
theorem ckE.read {N : Nat → Nat} {ad ad1 : Nat → Nat → Nat} {C C1 : cw_C} {M R : mw_S} {ab ab' : Nat → Option Nat} {nk a0 g0 : Nat} (hE : ckE ad C M ab nk) (hN4 : cN C 4 = nk) (hN21 : cN C 21 = nk) (o : oK N ad C ad1 C1) (h4 : N 4 = cN C 4) (h21 : N 21 = cN C 21) (h1 : N 1 = cN C 1) (hK : kk nk a0 g0 M R) (hg0 : kg M = g0) (hab : ∀ i, i < nk → ab' i = ab i) (hb : ∀ g, g < cN C1 1 → bdR ad1 C1 R g) (hg1 : cN C1 1 = kg R) (hg2 : kg R < 2 ^ 30) (hA : aA ad1 C1 R) : ckE ad1 C1 R ab' nk := by
  obtain ⟨⟨a1, a2, a3, a4⟩, b, c, ⟨d1, d2⟩, e, f⟩ := hE
  have hV := hK.2.2.2.2
  have n1 := (o 1).1
  have n4 := (o 4).1
  have n21 := (o 21).1
  have e8 : ∀ i q, i < nk → q < 6 → rm_has R q i = rm_has M q i := fun i q hi hq => by unfold rm_has; rw [hV 8 _ (by unfold kkV; omega)]
  have e97 : ∀ i q, i < nk → q < 6 → R.2.2.1 97 (6 * i + q) = M.2.2.1 97 (6 * i + q) := fun i q hi hq => hV 97 _ (by unfold kkV; omega)
  have egb : ∀ i q, i < nk → q < 6 → gb R i q = gb M i q := fun i q hi hq => by unfold gb; rw [e97 i q hi hq]
  have eE : ∀ q, q < 6 → ∀ x z, x < nk → z < nk → rm_E R q x z = rm_E M q x z := fun q hq x z hx hz => by
    unfold rm_E
    rw [e8 z q hz hq]
    unfold rm_sees
    rw [hV 9 _ (by unfold kkV; omega), hV 5 x (by unfold kkV; omega), hV 5 z (by unfold kkV; omega)]
  have hk' : kf_ok ab' nk := fun i j hi z => a1 i j hi ((hab i hi).symm.trans z)
  refine ⟨⟨hk', a2, by omega, by omega⟩, fun i hi => ⟨?_, fun q hq hh u hu => ?_⟩, hb, ⟨hg1, hg2⟩, fun i hi q hq hh => ?_, hA⟩
  · obtain ⟨k0, k4, k5, k6_, k7, k8, k11, kH⟩ := (b i hi).1
    refine ⟨?_, ?_, ?_, ?_, ?_, ?_, ?_, fun q hq => ?_⟩
    · rw [o.L (by omega) (by decide), k0, hK.2.2.2.1 100 i (by omega) (by decide) (by decide)]
    · rw [o.I (by omega)]; exact k4
    · rw [o.R (by omega), k5, hab i hi]
      cases z : ab i with
      | none => rfl
      | some x =>
        have := a1 i x hi z
        show some (ad 4 x) = some (ad1 4 x)
        rw [o.A (by omega)]
    · rw [o.I (by omega), k6_, hV 5 i (by unfold kkV; omega)]
    · rw [o.I (by omega), k7, hV 7 i (by unfold kkV; omega)]
    · rw [o.I (by omega), k8, kdep_congr a1 a2 hab i hi]
    · rw [o.R (by omega), k11, o.A (by omega)]
    · rw [e8 i q hi hq, o.R (by omega), e97 i q hi hq]
      rcases kH q hq with z | ⟨z1, g, z2, z3, z4⟩
      · exact Or.inl z
      · exact Or.inr ⟨z1, g, by omega, z3, by rw [z4, o.A (by omega)]⟩
  · rw [e8 i q hi hq] at hh
    have hgb := (e i hi).g d2 hq hh
    rw [egb i q hi hq, o.L (by omega) (by decide), ovB_congr a1 hab (eE q hq) hi]
    exact (b i hi).2 q hq hh u hu
  · rw [e8 i q hi hq] at hh
    obtain ⟨g, z1, z2, z3, z4, z5, z6, z7, z8⟩ := e i hi q hq hh
    refine ⟨g, by rw [e97 i q hi hq]; exact z1, by omega, ?_, ?_, ?_, ?_, ?_, ?_⟩
    · unfold yK; rw [hV 98 g (by unfold kkV; omega)]; exact z3
    · rw [hV 99 g (by unfold kkV; omega)]; exact z4
    · rw [hV 9 _ (by unfold kkV; omega), hV 112 g (by unfold kkV; omega)]; exact z5
    · rw [hV 10 _ (by unfold kkV; omega), hV 113 g (by unfold kkV; omega)]; exact z6
    · rw [hV 11 _ (by unfold kkV; omega), hV 108 g (by unfold kkV; omega)]; exact z7
    · rw [hV 12 _ (by unfold kkV; omega), hV 109 g (by unfold kkV; omega)]; exact z8
theorem rgR.read {N : Nat → Nat} {ad ad1 : Nat → Nat → Nat} {C C1 : cw_C} {M R : mw_S} {nk np a0 g0 : Nat} (h : rgR ad C M nk np) (o : oK N ad C ad1 C1) (h4 : N 4 = cN C 4) (h5 : N 5 = cN C 5) (h7 : N 7 = cN C 7) (h18 : N 18 = cN C 18) (h19 : N 19 = cN C 19) (hK : kk nk a0 g0 M R) : rgR ad1 C1 R nk np := by
  obtain ⟨⟨n7, n18, n19, m4, m5⟩, hkp, r0, r1, r2, r3, r4, hKn, hP⟩ := h
  have x7 := (o 7).1
  have x18 := (o 18).1
  have x19 := (o 19).1
  have x4 := (o 4).1
  have x5 := (o 5).1
  refine ⟨⟨by omega, by omega, by omega, by omega, by omega⟩, hkp, ?_, ?_, ?_, ?_, ?_, fun i hi => ⟨?_, ?_⟩, fun p hp => ⟨?_, ?_, ?_, ?_⟩⟩
  · rw [o.R (by omega), r0, o.A (by omega)]
  · rw [o.I (by omega)]; exact r1
  · rw [o.R (by omega), r2, o.A (by omega)]
  · rw [o.I (by omega)]; exact r3
  · rw [o.I (by omega), r4, hK.1 23 (by unfold kkS kbS kpS; omega)]
  · rw [o.R (by omega), (hKn i hi).1, o.A (by omega)]
  · rw [o.L (by omega) (by decide), (hKn i hi).2, hK.2.2.2.1 100 i (by omega) (by decide) (by decide)]
  · rw [o.R (by omega), (hP p hp).1, o.A (by omega)]
  · rw [o.L (by omega) (by decide), (hP p hp).2.1, hK.2.2.2.1 101 p (by omega) (by decide) (by decide)]
  · rw [o.I (by omega), (hP p hp).2.2.1, hK.2.2.2.2 21 p (by unfold kkV; omega)]
  · rw [o.I (by omega), (hP p hp).2.2.2, hK.2.2.2.2 22 p (by unfold kkV; omega)]
