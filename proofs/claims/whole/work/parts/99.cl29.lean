/-! act: from its beginning to its end -/
section ACE
variable {ad ad1 : Nat → Nat → Nat} {C C1 C' : cw_C} {M M0 M1 M' Mf : mw_S} {ab : Nat → Option Nat} {oK oQ : Nat → Nat} {app K nk np na nA ne nb nt n e v y f i j : Nat} {x : Int32} {H : hS}
theorem cvA_.of2 (h : cvA_ M nk na) (hv : ∀ j i, ¬ (55 ≤ j ∧ j ≤ 59) → M1.2.2.1 j i = M.2.2.1 j i) : cvA_ M1 nk na := by
  intro k q hk hq hh
  have e8 : rm_has M1 q k = rm_has M q k := by unfold rm_has; rw [hv 8 _ (by decide)]
  rw [e8] at hh
  obtain ⟨s, e, he, hc⟩ := h k q hk hq hh
  refine ⟨s, e, he, ?_⟩
  rw [hv 11 _ (by decide)]
  exact hc.same (fun j i a b c => hv j i (by omega))
theorem bg_R11 {v : Nat} : cR (cw_sI (bgC C v x) 8 0 13 1) 8 0 11 = some v := by
  unfold cR bgC
  rw [cw_sI_f, cw_sI_f, cw_sI_f, cw_sI_f, cw_sI_f, cw_sI_f, cw_sI_f, cw_sI_f, cw_sI_f, cw_sR_f]
  show mw_u2 (C 8).2.2.1 0 11 (some v) 0 11 = some v
  exact cu2_eq
theorem bg_I12 {v : Nat} : cI (cw_sI (bgC C v x) 8 0 13 1) 8 0 12 = x := by
  unfold bgC
  rw [cI_sI_n (by decide), cI_sI_n (by decide), cI_sI_n (by decide), cI_sI_n (by decide), cI_sI_n (by decide), cI_sI_n (by decide), cI_sI_n (by decide), cI_sI_n (by decide), cI_sI_e]
theorem bg_I {v : Nat} : (cI (cw_sI (bgC C v x) 8 0 13 1) 8 0 1 = 0 ∧ cI (cw_sI (bgC C v x) 8 0 13 1) 8 0 2 = 0 ∧ cI (cw_sI (bgC C v x) 8 0 13 1) 8 0 3 = 0) ∧ cI (cw_sI (bgC C v x) 8 0 13 1) 8 0 4 = 0 ∧ cI (cw_sI (bgC C v x) 8 0 13 1) 8 0 5 = 0 ∧ cI (cw_sI (bgC C v x) 8 0 13 1) 8 0 6 = 0 := by
  unfold bgC
  refine ⟨⟨?_, ?_, ?_⟩, ?_, ?_, ?_⟩
  · rw [cI_sI_n (by decide), cI_sI_n (by decide), cI_sI_n (by decide), cI_sI_n (by decide), cI_sI_n (by decide), cI_sI_n (by decide), cI_sI_e]
  · rw [cI_sI_n (by decide), cI_sI_n (by decide), cI_sI_n (by decide), cI_sI_n (by decide), cI_sI_n (by decide), cI_sI_e]
  · rw [cI_sI_n (by decide), cI_sI_n (by decide), cI_sI_n (by decide), cI_sI_n (by decide), cI_sI_e]
  · rw [cI_sI_n (by decide), cI_sI_n (by decide), cI_sI_n (by decide), cI_sI_e]
  · rw [cI_sI_n (by decide), cI_sI_n (by decide), cI_sI_e]
  · rw [cI_sI_n (by decide), cI_sI_e]
theorem ac_H (R : rsR ad C M ab nk np na ne nb nt H) (hV : rm_V M nk na ab) (hA : rm_A M nk (cN C 0) ab oK oQ) (hcv : cvA_ M nk (cN C 0)) (ha : app < na) (hv : v ≤ 999) : ∃ K, Ae ab K 0 ∧ rHy ad ab nk (cN C 0) oK oQ app K (ac_B M app) 0 400 (ac0 M ne app (nI v)) (cw_sI (bgC C (ad 9 app) (nI v)) 8 0 13 1) 0 0 0 := by
  have hna : na ≤ 20 := R.v.2.1
  obtain ⟨K, k1, k2, k3, ⟨w, w1, w2, w3⟩, ⟨u, u1, u2⟩, z, z1, z2⟩ := hV app ha
  obtain ⟨p0, p1, ⟨k, hk, p2, p3⟩, p4, p5, p6⟩ := R.v.2.2.2.2.2 app ha
  have ek : k = K := (nI_eq (by have := R.t.2.1; omega) (by have := R.t.2.1; omega)).mp (p2.symm.trans k1)
  subst ek
  have hF : rF app C (cw_sI (bgC C (ad 9 app) (nI v)) 8 0 13 1) := rF_bg.trans (rF_8 rfl)
  have ha0 : rn_app (ac0 M ne app (nI v)) = app := by
    show (nI app).toNatClampNeg = app
    exact nI_clamp (by omega)
  obtain ⟨⟨n8, n14, n15⟩, -, t6, -, -, ⟨r7, r8, r9, r10⟩, -⟩ := R.r
  have N : ∀ f, cN (cw_sI (bgC C (ad 9 app) (nI v)) 8 0 13 1) f = cN C f := fun f => by rw [cw_sI_N, bgC_N]
  have nm : ∀ {q : Nat → Bool}, (∀ j, j < 74 → 51 ≤ j → q j = false) → nM q (ac0 M ne app (nI v)) = nM q M := fun h => nM_ac fsame.refl h
  refine ⟨k, k3, ⟨(ac0_vs M ne app (nI v)).T R.t, (ac0_vs M ne app (nI v)).A hA, ⟨rfl, by omega⟩, ⟨(ac0_Vo (by decide)).trans k1, hk⟩, ⟨v, hv, rfl⟩, z, z1, (ac0_Vo (by decide)).trans z2⟩, ⟨⟨rfl, by decide⟩, ⟨rfl, by decide⟩, ⟨0, rfl, by decide⟩, ⟨0, rfl, by decide⟩, by decide, ⟨w, ?_, ?_, w3⟩, u, ?_, u2⟩, by decide, hcv.of2 (fun j i hj => ac0_Vo hj), ⟨R.ck.nf rfl (hF.nC rfl rfl rfl rfl) (nm (by decide)), ⟨⟨?_, ?_⟩, ⟨?_, ?_, ?_, ?_⟩, bg_R11, ?_, ⟨bg_I12, cI_sI_e⟩, ?_⟩, ⟨⟨?_, ?_⟩, ⟨bg_I.1.1, bg_I.1.2.1, bg_I.1.2.2⟩, 0, 0, ⟨rfl, by decide⟩, ⟨rfl, by decide⟩, fun i hi => absurd hi (Nat.not_lt_zero i), fun i hi => absurd hi (Nat.not_lt_zero i)⟩, ⟨⟨?_, ?_⟩, 0, 0, 0, ⟨by decide, by decide, by decide⟩, ⟨bg_I.2.1, bg_I.2.2.1, bg_I.2.2.2⟩, ⟨?_, ?_, ?_⟩, ?_, ?_⟩⟩, N 0⟩
  · rw [ha0, ac0_Vo (by decide)]; exact w1
  · rw [ha0, ac0_Vo (by decide)]; exact w2
  · rw [ha0, ac0_Vo (by decide)]; exact u1
  · rw [N]; exact n8
  · rw [N]; have := R.v.1.2.2; omega
  · rw [nD_R hF.1 rfl]; exact r7
  · rw [nD_R hF.1 rfl]; exact r8
  · rw [nD_R hF.1 rfl]; exact r9
  · rw [nD_R hF.1 rfl]; exact r10
  · rw [nD_R hF.1 rfl]; exact p3
  · rw [nD_I hF.1 rfl, ac0_Vo (by decide)]; exact p4
  · rw [N]; exact n14
  · rw [N]; exact n15
  · rw [cI_o (cw_sI_o (by decide)), ac0_Vo (by decide)]
    unfold bgC
    rw [cI_o (cw_sI_o (by decide)), cI_o (cw_sI_o (by decide)), cI_o (cw_sI_o (by decide)), cI_o (cw_sI_o (by decide)), cI_o (cw_sI_o (by decide)), cI_o (cw_sI_o (by decide)), cI_o (cw_sI_o (by decide)), cI_o (cw_sI_o (by decide)), cI_o (cw_sR_o (by decide))]
    exact p5
  · rw [cI_o (cw_sI_o (by decide)), ac0_Vo (by decide)]
    unfold bgC
    rw [cI_o (cw_sI_o (by decide)), cI_o (cw_sI_o (by decide)), cI_o (cw_sI_o (by decide)), cI_o (cw_sI_o (by decide)), cI_o (cw_sI_o (by decide)), cI_o (cw_sI_o (by decide)), cI_o (cw_sI_o (by decide)), cI_o (cw_sI_o (by decide)), cI_o (cw_sR_o (by decide))]
    exact p6
  · rw [ac0_Wo (by decide)]; exact (Int64.add_zero _).symm
  · rw [ac0_Wo (by decide)]; exact (Int64.add_zero _).symm
  · rw [ac0_Wo (by decide)]; exact (Int64.add_zero _).symm
  · rw [ac0_Vo (by decide)]; show M.2.2.1 51 app = M.2.2.1 51 app + (nI 0 - nI 0); rw [show nI 0 - nI 0 = 0 by decide, Int32.add_zero]
  · rw [ac0_Vo (by decide)]; exact (Int32.add_zero _).symm
end ACE
theorem ac_aft {G : mm_G} {L : Nat × Nat} {d : Nat} {h h0 : mm_H} {ad : Nat → Nat → Nat} {C : cw_C} {M : mw_S} {ab : Nat → Option Nat} {oK oQ : Nat → Nat} {nk np na ne nb nt : Nat} {H : hS} {i x : Int32} (R : rsR ad C M ab nk np na ne nb nt H) (hV : rm_V M nk na ab) (hA : rm_A M nk (cN C 0) ab oK oQ) (hcv : cvA_ M nk (cN C 0)) (hH : rn_H M) (h0k : 0 < nk) (hn : ne < 512) (hd : 201 ≤ d) (hL1 : h.2.1 + 1 ≤ L.1) (hL2 : h.2.2 + 7 ≤ L.2) (hC : cw ad h0 C h) : mm_Ok G mX11_act L (d + 2) [.ref (ad 11 0), .int i, .int x] h (aft ad h 1 7 ab nk np (.int (sp_act M ab ne i x).1) (sp_act M ab ne i x).2) := by
  have g := R.g
  have h20 := R.v.2.1
  have s48 : M.1 48 = nI na := R.v.2.2.2.2.1
  unfold sp_act
  rw [s48]
  by_cases hi : sp_in i (nI na) = 0
  · rw [if_pos hi]
    exact mm_Ok.post (ac_no g R.v hi hC) (fun r h1 z => z.aft R (by decide))
  · obtain ⟨a, ha, rfl⟩ := sp_in_of hi rfl (by omega)
    rw [if_neg hi, nI_clamp (show a < 2 ^ 31 by omega)]
    by_cases x0 : x < 0
    · rw [if_pos x0]
      exact mm_Ok.post (ac_lo g R.v ha h0k x0 hC) (fun r h1 z => z.aft R (by decide))
    · rw [if_neg x0]
      by_cases x1 : x ≤ 999
      · rw [if_pos x1]
        obtain ⟨v, hv1, rfl⟩ := nI_ofL x0 (Int32.le_trans x1 (by decide))
        have hv : v ≤ 999 := (nI_leI (b := 999) (by omega) (by decide)).mp x1
        obtain ⟨K, h0K, HH⟩ := ac_H R hV hA hcv ha hv
        have hH0 : rn_H (ac0 M ne a (nI v)) := fun q hq => by
          rw [(ac0_vs M ne a (nI v)).has]; exact hH q hq
        obtain ⟨fs, cF⟩ := stg_0 (M0 := ac0 M ne a (nI v)) h0K ⟨HH.1, ⟨0, HH.2.1⟩, hH0, fsame.refl⟩
        have cR0 := (rnH_post (q := 0) HH.1 HH.2.1 (by decide) h0K (by decide) (hH0 0 (by decide))).2.2
        rw [actR_fl cR0]
        refine mm_Ok.post (ac_yes (e := 0) (B := ac_B M a) g R.v ha h0k x0 x1 R.e R.cn.2.2 hn R.r.2.2.1 R.r.1.1 HH h0K hH0 cF hd hL1 hL2 hC) (fun r h1 z => ?_)
        obtain ⟨C', T, rfl, hT, hX, hF, h00, z⟩ := z
        generalize fl0 ab (rnH ab (ac0 M ne a (nI v)) 0) = F at *
        rcases z with ⟨e0, hC1, hh⟩ | ⟨e0, hC1, hh⟩
        · rw [if_neg (by rw [e0]; decide)]
          unfold rnE
          rw [if_pos e0]
          have h000 : cI C' 8 0 0 = 0 := h00.trans (if_neg (by rw [e0]; decide))
          obtain ⟨nb', nt', RR⟩ := ac_rs1 (y := h.2.1) R ha hn fs hX hT hF h000
          exact ⟨by rw [e0]; rfl, h0, _, _, na, ne + 1, nb', nt', _, hC1, RR, cw_ad_o (by rw [hF.N rfl]; exact R.o.1.1), by rw [hh]; exact Nat.le_refl _, by rw [hh]; exact Nat.le_refl _⟩
        · have key : ∀ (c told : Int32), wy F.1 = c → cI C' 8 0 0 = told → aft ad h 1 7 ab nk np (.int c) (mw_setS (rm_rst F.2.2 ne a a) 66 told) (some (.int (wy F.1))) h1 := by
            intro c told e1 e2
            obtain ⟨nb', nt', RR⟩ := ac_rs2 R ha fs hX hF e2
            exact ⟨by rw [e1], h0, _, _, na, ne, nb', nt', _, hC1, RR, rfl, by rw [hh]; exact Nat.le_succ _, by rw [hh]; exact Nat.le_add_right _ _⟩
          rcases cF with z | z | z | z
          · exact absurd z e0
          · rw [if_neg (by rw [z]; decide)]
            unfold rnE
            rw [if_neg e0, if_neg (by rw [z]; decide)]
            exact key 2 F.2.1 (by rw [z]; rfl) (h00.trans (if_pos (Or.inl z)))
          · rw [if_pos z]
            exact key 1 F.2.1 (by rw [z]; rfl) (h00.trans (if_pos (Or.inr z)))
          · rw [if_neg (by rw [z]; decide)]
            unfold rnE
            rw [if_neg e0, if_pos z]
            exact key 3 0 (by rw [z]; rfl) (h00.trans (if_neg (by rw [z]; decide)))
      · rw [if_neg x1]
        exact mm_Ok.post (ac_hi g R.v ha h0k x0 x1 hC) (fun r h1 z => z.aft R (by decide))
