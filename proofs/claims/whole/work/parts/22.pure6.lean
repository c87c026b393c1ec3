/-! an act keeps the counters within their bounds -/
theorem rn_sameS {M : mw_S} {j : Nat} {x : Int32} (hj : j = 64 ∨ j = 67 ∨ j = 68 ∨ j = 72) : rn_same M (mw_setS M j x) := by
  refine ⟨fun i a b c d => ?_, rfl, fun _ _ _ _ _ _ _ => rfl, fun _ _ _ => rfl, rfl⟩
  show mw_u M.1 j x i = M.1 i
  exact if_neg (fun e => by omega)
theorem rn_sameV {M : mw_S} {j i : Nat} {x : Int32} (hj : j = 69 ∨ j = 70 ∨ j = 71 ∨ j = 73 ∨ (j = 51 ∨ j = 52) ∧ i = rn_app M) : rn_same M (mw_setV M j i x) := by
  refine ⟨fun _ _ _ _ _ => rfl, rfl, fun l k a b c d e => ?_, fun _ _ _ => rfl, rfl⟩
  show mw_u2 M.2.2.1 j i x l k = M.2.2.1 l k
  exact if_neg (fun z => by omega)
theorem rn_sameW {M : mw_S} {i : Nat} {x : Int64} (hi : i = 1 ∨ i = 2 ∨ i = 4) : rn_same M (mw_setW M 53 i x) := by
  refine ⟨fun _ _ _ _ _ => rfl, rfl, fun _ _ _ _ _ _ _ => rfl, fun l k e => ?_, rfl⟩
  show mw_u2 M.2.2.2.1 53 i x l k = M.2.2.2.1 l k
  exact if_neg (fun z => by omega)
theorem mw_u_eq {α : Type} (f : Nat → α) (j : Nat) (x : α) : mw_u f j x j = x := if_pos rfl
theorem mw_u_ne {α : Type} (f : Nat → α) {j i : Nat} (x : α) (h : ¬ i = j) : mw_u f j x i = f i := if_neg h
theorem mw_u2_eq {α : Type} (f : Nat → Nat → α) (j k : Nat) (x : α) : mw_u2 f j k x j k = x := if_pos ⟨rfl, rfl⟩
theorem mw_u2_ne {α : Type} (f : Nat → Nat → α) {j k i l : Nat} (x : α) (h : ¬ (i = j ∧ l = k)) : mw_u2 f j k x i l = f i l := if_neg h
theorem rn_IS64 {M : mw_S} {e t u : Nat} {x : Int32} (h : rn_I M e t u) : rn_I (mw_setS M 64 x) e t u := h
theorem rnM_post {M : mw_S} {nk na app K e t u v : Nat} {ab : Nat → Option Nat} {oK oQ : Nat → Nat} {w : Int32} (g : rn_G M nk na ab oK oQ app K) (hI : rn_I M e t u) (hv : v ≤ 999) : rn_P M e t u (rnM M w (nI v)) := by
  obtain ⟨i1, i2, i3, i4, i5, ⟨wa, a1, a2, a3⟩, ⟨he, b1, b2⟩⟩ := hI
  obtain ⟨-, -, ⟨g1, g2⟩, -, -, ⟨z, z1, z2⟩⟩ := g
  have hap : rn_app M = app := by unfold rn_app; rw [g1, nI_clamp (by omega)]
  rw [hap] at a1 a2 b1
  rw [z2] at a2
  have hwz : wa ≤ z := (nI_leI (by omega) (by omega)).mp a2
  unfold rnM
  rw [hap]
  by_cases w4 : w = 4
  · rw [if_pos w4]
    by_cases hc : M.2.2.1 51 app + nI v ≤ M.2.2.1 50 app
    · rw [if_pos hc]
      have hc2 : wa + v ≤ z := by rw [a1, z2, nI_add] at hc; exact (nI_leI (by omega) (by omega)).mp hc
      refine ⟨(rn_sameV (Or.inr (Or.inr (Or.inr (Or.inr ⟨Or.inl rfl, hap.symm⟩))))).trans (rn_sameW (Or.inl rfl)), ⟨t, Nat.le_refl t, i1, i2, i3, i4, i5, ⟨wa + v, ?_, ?_, by omega⟩, ⟨he, ?_, b2⟩⟩, Or.inl rfl⟩
      · show mw_u2 M.2.2.1 51 app (M.2.2.1 51 app + nI v) 51 (rn_app M) = _
        rw [hap, mw_u2_eq, a1, nI_add]
      · show nI (wa + v) ≤ mw_u2 M.2.2.1 51 app (M.2.2.1 51 app + nI v) 50 (rn_app M)
        rw [mw_u2_ne _ _ (by omega), hap, z2]
        exact nI_le hc2 (by omega)
      · show mw_u2 M.2.2.1 51 app (M.2.2.1 51 app + nI v) 52 (rn_app M) = _
        rw [mw_u2_ne _ _ (by omega), hap, b1]
    · rw [if_neg hc]
      exact ⟨rn_sameS (Or.inl rfl), ⟨t, Nat.le_refl t, i1, i2, i3, i4, i5, ⟨wa, by show M.2.2.1 51 (rn_app M) = _; rw [hap, a1], by show _ ≤ M.2.2.1 50 (rn_app M); rw [hap, z2]; exact a2, a3⟩, ⟨he, by show M.2.2.1 52 (rn_app M) = _; rw [hap, b1], b2⟩⟩, Or.inr (Or.inl rfl)⟩
  · rw [if_neg w4]
    by_cases w5 : w = 5
    · rw [if_pos w5]
      by_cases hc : nI v ≤ M.2.2.1 51 app
      · rw [if_pos hc]
        have hc2 : v ≤ wa := by rw [a1] at hc; exact (nI_leI (by omega) (by omega)).mp hc
        have hs : nI wa - nI v = nI (wa - v) := by rw [← Int32.add_left_inj (nI v), Int32.sub_add_cancel, nI_add, show wa - v + v = wa by omega]
        refine ⟨(rn_sameV (Or.inr (Or.inr (Or.inr (Or.inr ⟨Or.inl rfl, hap.symm⟩))))).trans (rn_sameW (Or.inr (Or.inl rfl))), ⟨t, Nat.le_refl t, i1, i2, i3, i4, i5, ⟨wa - v, ?_, ?_, by omega⟩, ⟨he, ?_, b2⟩⟩, Or.inl rfl⟩
        · show mw_u2 M.2.2.1 51 app (M.2.2.1 51 app - nI v) 51 (rn_app M) = _
          rw [hap, mw_u2_eq, a1, hs]
        · show nI (wa - v) ≤ mw_u2 M.2.2.1 51 app (M.2.2.1 51 app - nI v) 50 (rn_app M)
          rw [mw_u2_ne _ _ (by omega), hap, z2]
          exact nI_le (by omega) (by omega)
        · show mw_u2 M.2.2.1 51 app (M.2.2.1 51 app - nI v) 52 (rn_app M) = _
          rw [mw_u2_ne _ _ (by omega), hap, b1]
      · rw [if_neg hc]
        exact ⟨rn_sameS (Or.inl rfl), ⟨t, Nat.le_refl t, i1, i2, i3, i4, i5, ⟨wa, by show M.2.2.1 51 (rn_app M) = _; rw [hap, a1], by show _ ≤ M.2.2.1 50 (rn_app M); rw [hap, z2]; exact a2, a3⟩, ⟨he, by show M.2.2.1 52 (rn_app M) = _; rw [hap, b1], b2⟩⟩, Or.inr (Or.inl rfl)⟩
    · rw [if_neg w5]
      by_cases hc : M.2.2.1 52 app + nI v ≤ 100000
      · rw [if_pos hc]
        have hc2 : he + v ≤ 100000 := by rw [b1, nI_add, show (100000 : Int32) = nI 100000 by decide] at hc; exact (nI_leI (by omega) (by omega)).mp hc
        refine ⟨(rn_sameV (Or.inr (Or.inr (Or.inr (Or.inr ⟨Or.inr rfl, hap.symm⟩))))).trans (rn_sameW (Or.inr (Or.inr rfl))), ⟨t, Nat.le_refl t, i1, i2, i3, i4, i5, ⟨wa, ?_, ?_, a3⟩, ⟨he + v, ?_, hc2⟩⟩, Or.inl rfl⟩
        · show mw_u2 M.2.2.1 52 app (M.2.2.1 52 app + nI v) 51 (rn_app M) = _
          rw [mw_u2_ne _ _ (by omega), hap, a1]
        · show nI wa ≤ mw_u2 M.2.2.1 52 app (M.2.2.1 52 app + nI v) 50 (rn_app M)
          rw [mw_u2_ne _ _ (by omega), hap, z2]
          exact a2
        · show mw_u2 M.2.2.1 52 app (M.2.2.1 52 app + nI v) 52 (rn_app M) = _
          rw [hap, mw_u2_eq, b1, nI_add]
      · rw [if_neg hc]
        exact ⟨rn_sameS (Or.inl rfl), ⟨t, Nat.le_refl t, i1, i2, i3, i4, i5, ⟨wa, by show M.2.2.1 51 (rn_app M) = _; rw [hap, a1], by show _ ≤ M.2.2.1 50 (rn_app M); rw [hap, z2]; exact a2, a3⟩, ⟨he, by show M.2.2.1 52 (rn_app M) = _; rw [hap, b1], b2⟩⟩, Or.inr (Or.inl rfl)⟩
/-- what is asked of the rest of a run: from t ticks on, with fuel for all that are left -/
def rn_R (ab : Nat → Option Nat) (nk na : Nat) (oK oQ : Nat → Nat) (app K e n : Nat) (F : rn_F) : Prop :=
  ∀ (M : mw_S) (x : Int32) (k q t u : Nat), rn_G M nk na ab oK oQ app K → rn_I M e t u → 400 ≤ t + n → rm_lk na oK oQ k q x → k < nk → q < 6 → Ae ab K k → rn_P M e t u (F M x k q)
theorem rn_ent_I {M : mw_S} {e t u k q : Nat} (hI : rn_I M e t u) (hr : ∃ r, M.1 68 = nI r ∧ r + 1 ≤ t + e) (hu : u < 12) : rn_I (rm_ent M k q) e t (u + 1) := by
  obtain ⟨i1, ⟨i2, -⟩, -, i4, i5, ⟨wa, a1, a2, a3⟩, ⟨he, b1, b2⟩⟩ := hI
  obtain ⟨r, hr1, hr2⟩ := hr
  refine ⟨i1, ⟨?_, hu⟩, ⟨r + 1, ?_, hr2⟩, i4, i5, ⟨wa, ?_, ?_, a3⟩, ⟨he, ?_, b2⟩⟩
  · show mw_u (mw_u M.1 68 (M.1 68 + 1)) 65 (M.1 65 + 1) 65 = _
    rw [mw_u_eq, i2, nI_1]
  · show mw_u (mw_u M.1 68 (M.1 68 + 1)) 65 (M.1 65 + 1) 68 = _
    rw [mw_u_ne _ _ (by decide), mw_u_eq, hr1, nI_1]
  · show mw_u2 (mw_u2 (mw_u2 M.2.2.1 69 (M.1 68).toNatClampNeg (nI k)) 70 (M.1 68).toNatClampNeg (nI q)) 71 (M.1 68).toNatClampNeg (M.1 65) 51 (rn_app M) = _
    rw [mw_u2_ne _ _ (by omega), mw_u2_ne _ _ (by omega), mw_u2_ne _ _ (by omega), a1]
  · show _ ≤ mw_u2 (mw_u2 (mw_u2 M.2.2.1 69 (M.1 68).toNatClampNeg (nI k)) 70 (M.1 68).toNatClampNeg (nI q)) 71 (M.1 68).toNatClampNeg (M.1 65) 50 (rn_app M)
    rw [mw_u2_ne _ _ (by omega), mw_u2_ne _ _ (by omega), mw_u2_ne _ _ (by omega)]
    exact a2
  · show mw_u2 (mw_u2 (mw_u2 M.2.2.1 69 (M.1 68).toNatClampNeg (nI k)) 70 (M.1 68).toNatClampNeg (nI q)) 71 (M.1 68).toNatClampNeg (M.1 65) 52 (rn_app M) = _
    rw [mw_u2_ne _ _ (by omega), mw_u2_ne _ _ (by omega), mw_u2_ne _ _ (by omega), b1]
theorem rn_ent_V {M : mw_S} {k q j i : Nat} (h : ¬ j = 69 ∧ ¬ j = 70 ∧ ¬ j = 71) : (rm_ent M k q).2.2.1 j i = M.2.2.1 j i := by
  show mw_u2 (mw_u2 (mw_u2 M.2.2.1 69 (M.1 68).toNatClampNeg (nI k)) 70 (M.1 68).toNatClampNeg (nI q)) 71 (M.1 68).toNatClampNeg (M.1 65) j i = _
  rw [mw_u2_ne _ _ (by omega), mw_u2_ne _ _ (by omega), mw_u2_ne _ _ (by omega)]
theorem rn_ent_S {M : mw_S} {k q j : Nat} (h : ¬ j = 68 ∧ ¬ j = 65) : (rm_ent M k q).1 j = M.1 j := by
  show mw_u (mw_u M.1 68 (M.1 68 + 1)) 65 (M.1 65 + 1) j = _
  rw [mw_u_ne _ _ (by omega), mw_u_ne _ _ (by omega)]
theorem rn_ent_G {M : mw_S} {nk na app K k q : Nat} {ab : Nat → Option Nat} {oK oQ : Nat → Nat} (g : rn_G M nk na ab oK oQ app K) : rn_G (rm_ent M k q) nk na ab oK oQ app K := by
  have hM : rn_same M (mw_setV (mw_setV (mw_setV M 69 (M.1 68).toNatClampNeg (nI k)) 70 (M.1 68).toNatClampNeg (nI q)) 71 (M.1 68).toNatClampNeg (M.1 65)) := (rn_sameV (Or.inl rfl)).trans ((rn_sameV (Or.inr (Or.inl rfl))).trans (rn_sameV (Or.inr (Or.inr (Or.inl rfl)))))
  have g' := rn_G.same hM g
  exact g'
theorem rnB_post {M : mw_S} {nk na app K e t u k q n : Nat} {ab : Nat → Option Nat} {oK oQ : Nat → Nat} {F : rn_F} (hF : rn_R ab nk na oK oQ app K e n F) (g : rn_G M nk na ab oK oQ app K) (hI : rn_I M e t u) (hr : ∃ r, M.1 68 = nI r ∧ r + 1 ≤ t + e) (hn : 400 ≤ t + n) (hk : k < nk) (hq : q < 6) (hh : rm_has M q k = true) (hK : Ae ab K k) : rn_P M e t u (rnB F M k q) := by
  unfold rnB
  have hu2 := hI.2.1
  by_cases hu : M.1 65 = 12
  · rw [if_pos hu]
    exact ⟨rn_same.refl M, ⟨t, Nat.le_refl t, hI⟩, Or.inr (Or.inr (Or.inr rfl))⟩
  · rw [if_neg hu]
    have hu12 : u < 12 := by
      rcases Nat.lt_or_ge u 12 with h | h
      · exact h
      · exact absurd (by rw [hu2.1, show u = 12 by omega]; decide) hu
    obtain ⟨s1, ⟨t', ht', j1, j2, j3, j4, j5, j6, j7⟩, ha⟩ := hF (rm_ent M k q) (M.2.2.1 11 (6 * k + q)) k q t (u + 1) (rn_ent_G g) (rn_ent_I hI hr hu12) hn (g.2.1.2.2 k q hk hq hh) hk hq hK
    have hap : rn_app (F (rm_ent M k q) (M.2.2.1 11 (6 * k + q)) k q).2 = rn_app M := s1.app
    refine ⟨⟨fun j a b c d => ?_, s1.2.1, fun j i a b c d e => ?_, s1.2.2.2.1, s1.2.2.2.2⟩, ⟨t', ht', ?_⟩, ha⟩
    · show mw_u (F (rm_ent M k q) (M.2.2.1 11 (6 * k + q)) k q).2.1 65 ((F (rm_ent M k q) (M.2.2.1 11 (6 * k + q)) k q).2.1 65 - 1) j = _
      by_cases e65 : j = 65
      · subst e65
        rw [mw_u_eq, j2.1, nI_pred, hu2.1]
      · rw [mw_u_ne _ _ e65, s1.1 j a b c d]
        exact rn_ent_S ⟨c, e65⟩
    · exact (s1.2.2.1 j i a b c d e).trans (rn_ent_V ⟨a, b, c⟩)
    · refine ⟨j1, ⟨?_, hu2.2⟩, j3, j4, j5, j6, j7⟩
      show mw_u (F (rm_ent M k q) (M.2.2.1 11 (6 * k + q)) k q).2.1 65 ((F (rm_ent M k q) (M.2.2.1 11 (6 * k + q)) k q).2.1 65 - 1) 65 = _
      rw [mw_u_eq, j2.1, nI_pred]
theorem rn_n_of {M : mw_S} {nk na app K x : Nat} {ab : Nat → Option Nat} {oK oQ : Nat → Nat} (g : rn_G M nk na ab oK oQ app K) (hx : x < na) : ∃ v, v ≤ 999 ∧ rn_n M x = nI v := by
  obtain ⟨-, ⟨-, g2, -⟩, -, -, ⟨a, a1, a2⟩, -⟩ := g
  unfold rn_n
  rcases (g2 x hx).2.2.1 with h | ⟨v, h1, h2⟩
  · rw [if_pos h]
    exact ⟨a, a1, a2⟩
  · rw [if_neg (by rw [h2]; intro e; exact absurd (show nI v < 0 by rw [e]; decide) (nI_pos (by omega)))]
    exact ⟨v, h1, h2⟩
/-- what an action runs: the kind whose body it is -/
theorem rn_up {M : mw_S} {nk na app K x : Nat} {ab : Nat → Option Nat} {oK oQ : Nat → Nat} (g : rn_G M nk na ab oK oQ app K) (hx : x < na) (hK : Ae ab K (oK x)) (hw : M.2.2.1 14 x = 1) : ∃ j, rn_fnd M ab (oK x) (oQ x) (ab (oK x)) = some j ∧ j < nk ∧ rm_has M (oQ x) j = true ∧ Ae ab K j := by
  obtain ⟨⟨t1, t2, t3⟩, ⟨-, g2, -⟩, -⟩ := g
  obtain ⟨j, hj⟩ := (g2 x hx).2.2.2.2.2.2.1 hw
  obtain ⟨h1, h2, h3⟩ := Ae.up t1 (by omega) (g2 x hx).1.1 hj
  exact ⟨j, hj, h3, (Bool.and_eq_true_iff.mp h2).1, hK.trans h1⟩
theorem rn_call {M : mw_S} {nk na app K x : Nat} {ab : Nat → Option Nat} {oK oQ : Nat → Nat} (g : rn_G M nk na ab oK oQ app K) (hx : x < na) (hK : Ae ab K (oK x)) (hw : M.2.2.1 14 x = 2) : ∃ c i j, c < 6 ∧ rn_n M x = nI c ∧ rn_K M = K ∧ rn_fnd M ab (oK x) c (some (oK x)) = some i ∧ i < nk ∧ rm_has M c i = true ∧ Ae ab K i ∧ rn_cho M ab i c K = some j ∧ j < nk ∧ rm_has M c j = true ∧ Ae ab K j := by
  have g0 := g
  obtain ⟨⟨t1, t2, t3⟩, ⟨-, g2, -⟩, ⟨b1, b2⟩, ⟨c1, c2⟩, -⟩ := g
  obtain ⟨c, hc, hc2, i, hi⟩ := (g2 x hx).2.2.2.2.2.2.2 hw
  obtain ⟨h1, h2, h3⟩ := Ae.at t1 (by omega) (g2 x hx).1.1 hi
  have hh := (Bool.and_eq_true_iff.mp h2).1
  have hKi := hK.trans h1
  obtain ⟨j, hj⟩ := kfind_hit (P := fun x => Nat.beq x i || (rm_has M c x && ovB ab (rm_E M c) x i)) t1 (by omega) (j := i) (by show (Nat.beq i i || _) = true; rw [Nat.beq_refl]; rfl) (K + 1) K (by omega) c2 hKi
  obtain ⟨k1, k2, k3⟩ := Ae.at t1 (by omega) c2 hj
  refine ⟨c, i, j, hc, ?_, ?_, hi, h3, hh, hKi, hj, k3, ?_, k1⟩
  · unfold rn_n
    rw [if_neg (by rw [hc2]; intro e; exact absurd (show nI c < 0 by rw [e]; decide) (nI_pos (by omega))), hc2]
  · unfold rn_K rn_app
    rw [b1, nI_clamp (by omega), c1, nI_clamp (by omega)]
  · rcases Bool.or_eq_true_iff.mp k2 with z | z
    · rw [Nat.eq_of_beq_eq_true z]
      exact hh
    · exact (Bool.and_eq_true_iff.mp z).1
theorem rnS_post {M : mw_S} {nk na app K e t u x n : Nat} {ab : Nat → Option Nat} {oK oQ : Nat → Nat} {F : rn_F} (hF : rn_R ab nk na oK oQ app K e n F) (g : rn_G M nk na ab oK oQ app K) (hI : rn_I M e t u) (hr : ∃ r, M.1 68 = nI r ∧ r + 1 ≤ t + e) (hs : ∃ s, M.1 72 = nI s ∧ s + 1 ≤ t) (hn : 400 ≤ t + n) (hx : x < na) (hK : Ae ab K (oK x)) : rn_P M e t u (rnS ab F M x (oK x) (oQ x)) := by
  have hA := g.2.1.2.1 x hx
  obtain ⟨v, hv, hnv⟩ := rn_n_of g hx
  unfold rnS
  by_cases w1 : M.2.2.1 14 x = 1
  · rw [if_pos w1]
    obtain ⟨j, h1, h2, h3, h4⟩ := rn_up g hx hK w1
    rw [h1]
    exact rnB_post hF g hI hr hn h2 hA.1.2.1 h3 h4
  rw [if_neg w1]
  by_cases w2 : M.2.2.1 14 x = 2
  · rw [if_pos w2]
    obtain ⟨c, i, j, hc, e1, e2, h1, -, -, -, h5, h6, h7, h8⟩ := rn_call g hx hK w2
    rw [e1, nI_clamp (by omega), h1, e2]
    show rn_P M e t u (rnU F M (rn_cho M ab i c K) c)
    rw [h5]
    exact rnB_post hF g hI hr hn h6 hc h7 h8
  rw [if_neg w2]
  by_cases w3 : M.2.2.1 14 x = 3
  · rw [if_pos w3]
    obtain ⟨s, s1, s2⟩ := hs
    obtain ⟨i1, i2, i3, i4, i5, ⟨wa, a1, a2, a3⟩, ⟨he, b1, b2⟩⟩ := hI
    refine ⟨(rn_sameV (Or.inr (Or.inr (Or.inr (Or.inl rfl))))).trans (rn_sameS (Or.inr (Or.inr (Or.inr rfl)))), ⟨t, Nat.le_refl t, i1, i2, i3, ⟨s + 1, ?_, s2⟩, i5, ⟨wa, ?_, ?_, a3⟩, ⟨he, ?_, b2⟩⟩, Or.inl rfl⟩
    · show mw_u M.1 72 (M.1 72 + 1) 72 = _
      rw [mw_u_eq, s1, nI_1]
    · show mw_u2 M.2.2.1 73 (M.1 72).toNatClampNeg (rn_n M x) 51 (rn_app M) = _
      rw [mw_u2_ne _ _ (by omega), a1]
    · show _ ≤ mw_u2 M.2.2.1 73 (M.1 72).toNatClampNeg (rn_n M x) 50 (rn_app M)
      rw [mw_u2_ne _ _ (by omega)]
      exact a2
    · show mw_u2 M.2.2.1 73 (M.1 72).toNatClampNeg (rn_n M x) 52 (rn_app M) = _
      rw [mw_u2_ne _ _ (by omega), b1]
  rw [if_neg w3, hnv]
  by_cases w4 : M.2.2.1 14 x = 4
  · rw [if_pos w4]
    exact rnM_post g hI hv
  rw [if_neg w4]
  by_cases w5 : M.2.2.1 14 x = 5
  · rw [if_pos w5]
    exact rnM_post g hI hv
  rw [if_neg w5]
  by_cases w6 : M.2.2.1 14 x = 6
  · rw [if_pos w6]
    exact rnM_post g hI hv
  rw [if_neg w6]
  by_cases w7 : M.2.2.1 14 x = 7
  · rw [if_pos w7]
    exact ⟨rn_sameS (Or.inl rfl), ⟨t, Nat.le_refl t, hI⟩, Or.inr (Or.inl rfl)⟩
  rw [if_neg w7]
  by_cases w8 : M.2.2.1 14 x = 8
  · rw [if_pos w8]
    by_cases hc : M.1 63 = 0
    · rw [if_pos hc]
      exact ⟨rn_sameS (Or.inl rfl), ⟨t, Nat.le_refl t, hI⟩, Or.inr (Or.inl rfl)⟩
    · rw [if_neg hc]
      exact ⟨rn_sameS (Or.inl rfl), ⟨t, Nat.le_refl t, hI⟩, Or.inr (Or.inr (Or.inl rfl))⟩
  rw [if_neg w8]
  by_cases w9 : M.2.2.1 14 x = 9
  · rw [if_pos w9]
    refine hF M _ (oK x) (oQ x) t u g hI hn ?_ hA.1.1 hA.1.2.1 hK
    split
    · exact hA.2.2.2.1
    · exact hA.2.2.2.2.1
  rw [if_neg w9]
  have h1 := hF M (M.2.2.1 16 x) (oK x) (oQ x) t u g hI hn hA.2.2.2.1 hA.1.1 hA.1.2.1 hK
  unfold rnT
  split
  · obtain ⟨s1, ⟨t', ht', hI'⟩, -⟩ := h1
    have g' := rn_G.same s1 g
    obtain ⟨s2, ⟨t'', ht'', hI''⟩, ha⟩ := hF _ _ (oK x) (oQ x) t' u g' hI' (by omega) (g'.2.1.2.1 x hx).2.2.2.2.1 hA.1.1 hA.1.2.1 hK
    exact ⟨s1.trans s2, ⟨t'', by omega, hI''⟩, ha⟩
  · exact h1
theorem rn_tick {M : mw_S} {e t u : Nat} (hI : rn_I M e t u) (ht : t < 400) : rn_I (mw_setS M 67 (M.1 67 + 1)) e (t + 1) u ∧ (∃ r, (mw_setS M 67 (M.1 67 + 1)).1 68 = nI r ∧ r + 1 ≤ t + 1 + e) ∧ ∃ s, (mw_setS M 67 (M.1 67 + 1)).1 72 = nI s ∧ s + 1 ≤ t + 1 := by
  obtain ⟨⟨i1, -⟩, i2, ⟨r, r1, r2⟩, ⟨s, s1, s2⟩, i5, i6, i7⟩ := hI
  exact ⟨⟨⟨by show mw_u M.1 67 (M.1 67 + 1) 67 = _; rw [mw_u_eq, i1, nI_1], ht⟩, i2, ⟨r, r1, by omega⟩, ⟨s, s1, by omega⟩, i5, i6, i7⟩, ⟨r, r1, by omega⟩, ⟨s, s1, by omega⟩⟩
theorem rnA_post {nk na app K e : Nat} {ab : Nat → Option Nat} {oK oQ : Nat → Nat} : ∀ n, rn_R ab nk na oK oQ app K e n (rnA ab n) := by
  intro n
  induction n with
  | zero =>
    intro M x k q t u g hI hn hl hk hq hK
    show rn_P M e t u (if x < 0 then (0, M) else (3, M))
    split
    · exact ⟨rn_same.refl M, ⟨t, Nat.le_refl t, hI⟩, Or.inl rfl⟩
    · exact ⟨rn_same.refl M, ⟨t, Nat.le_refl t, hI⟩, Or.inr (Or.inr (Or.inr rfl))⟩
  | succ n ih =>
    intro M x k q t u g hI hn hl hk hq hK
    show rn_P M e t u (if x < 0 then (0, M) else if M.1 67 = 400 then (3, M) else rnN (rnA ab n) (rnS ab (rnA ab n) (mw_setS M 67 (M.1 67 + 1)) x.toNatClampNeg k q) x.toNatClampNeg k q)
    by_cases hx : x < 0
    · rw [if_pos hx]
      exact ⟨rn_same.refl M, ⟨t, Nat.le_refl t, hI⟩, Or.inl rfl⟩
    rw [if_neg hx]
    by_cases ht : M.1 67 = 400
    · rw [if_pos ht]
      exact ⟨rn_same.refl M, ⟨t, Nat.le_refl t, hI⟩, Or.inr (Or.inr (Or.inr rfl))⟩
    rw [if_neg ht]
    have ht2 : t < 400 := by
      rcases Nat.lt_or_ge t 400 with h | h
      · exact h
      · exact absurd (by rw [hI.1.1, show t = 400 by have := hI.1.2; omega]; decide) ht
    rcases hl with rfl | ⟨y, hy, rfl, rfl, rfl⟩
    · exact absurd (by decide) hx
    have hy4 := g.2.1.1
    rw [nI_clamp (by omega)]
    obtain ⟨k1, k2, k3⟩ := rn_tick hI ht2
    have hs1 : rn_same M (mw_setS M 67 (M.1 67 + 1)) := rn_sameS (Or.inr (Or.inl rfl))
    have g1 := rn_G.same hs1 g
    obtain ⟨s1, ⟨t', ht', hI'⟩, ha⟩ := rnS_post ih g1 k1 k2 k3 (by omega) hy hK
    unfold rnN
    split
    · have g' := rn_G.same s1 g1
      obtain ⟨s2, ⟨t'', ht'', hI''⟩, ha⟩ := ih _ _ (oK y) (oQ y) t' u g' hI' (by omega) (g'.2.1.2.1 y hy).2.2.2.2.2.1 hk hq hK
      exact ⟨hs1.trans (s1.trans s2), ⟨t'', by omega, hI''⟩, ha⟩
    · exact ⟨hs1.trans s1, ⟨t', by omega, hI'⟩, ha⟩
