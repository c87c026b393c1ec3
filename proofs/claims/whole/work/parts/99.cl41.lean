/-! what holds between calls: undo, act, feed -/
section PXU
variable {M M' Mf M0 : mw_S} {ab : Nat → Option Nat} {nk np na ne k n m a b app K e nA : Nat} {oK oQ : Nat → Nat} {x y i j : Int32} {w : Int32 × mw_S}
theorem PX.undo (h : PX M ab nk np k) (hs : M.1 48 = nI na) (h20 : na ≤ 20) (hs2 : M.1 54 = nI (m + 1)) (hm : m < 600) (hk : k < 600) : ∃ a b, a < na ∧ b < na ∧ M.2.2.1 56 m = nI a ∧ M.2.2.1 58 m = nI b ∧ PX (rm_rst (mw_setS M 54 (nI m)) m a b) ab nk np (k + 1) := by
  obtain ⟨na', ne, ⟨a1, a2⟩, b', h⟩ := h
  have en : na' = na := (nI_eq (by omega) (by omega)).mp (a1.symm.trans hs)
  subst en
  have en2 : ne = m + 1 := (nI_eq (by have := h.2.2.2.2.2; omega) (by omega)).mp (b'.symm.trans hs2)
  subst en2
  obtain ⟨a, b, ha, hb, q3, q4, q5, q6⟩ := h.2.2.2.2.1 m (Nat.lt_succ_self m)
  have V : ∀ l i, ¬ l = 51 → ¬ l = 52 → (rm_rst (mw_setS M 54 (nI m)) m a b).2.2.1 l i = M.2.2.1 l i := fun l i l1 l2 => by rw [rst_V]; simp [l1, l2]; rfl
  have nm : ∀ {p : Nat → Bool}, p 51 = false → p 52 = false → p 53 = false → p 54 = false → nM p (rm_rst (mw_setS M 54 (nI m)) m a b) = nM p M := fun a b c d => (nM_rst a b c).trans (nM_setS d)
  refine ⟨a, b, ha, hb, q3, q4, na', m, ⟨a1, a2⟩, rfl, h.of (nm rfl rfl rfl rfl) (fun j h1 h2 => funext fun i => V j i (by omega) (by omega)) (nm rfl rfl rfl rfl) (nm rfl rfl rfl rfl) ⟨?_, fun e he => ?_, by have := h.2.2.2.2.2; omega⟩⟩
  · refine h.2.2.2.1.en (a := a) (b := b) ?_ ?_ (fun i hi ia ib => ?_) (fun i => V 49 i (by decide) (by decide)) (fun i => V 50 i (by decide) (by decide))
    · rw [rst_V, rst_V]; simp; exact q5
    · rw [rst_V, rst_V]
      by_cases ab : b = a
      · subst ab; simp; exact q5
      · simp [ab]; exact q6
    · rw [rst_V, rst_V]; simp [ia, ib]; exact ⟨rfl, rfl⟩
  · obtain ⟨a', b', r1, r2, r3, r4, r5, r6⟩ := h.2.2.2.2.1 e (by omega)
    refine ⟨a', b', r1, r2, (V 56 e (by decide) (by decide)).trans r3, (V 58 e (by decide) (by decide)).trans r4, ?_, ?_⟩
    · unfold wB; rw [V 50 _ (by decide) (by decide), V 59 _ (by decide) (by decide), V 59 _ (by decide) (by decide)]; exact r5
    · unfold wB; rw [V 50 _ (by decide) (by decide), V 59 _ (by decide) (by decide), V 59 _ (by decide) (by decide)]; exact r6
theorem stg_70' (h0K : Ae ab K 0) (h : stg ab nk nA oK oQ app K M0 w.2 e) (he : e + 1 ≤ 6) : ∃ e', stg ab nk nA oK oQ app K M0 (fl70 ab w).2.2 e' := by
  unfold fl70
  obtain ⟨a, b⟩ := (stg.s65 h).next he h0K (q := 5) (by decide)
  split
  · exact ⟨e, h⟩
  · exact ⟨e + 1, a⟩
theorem stg_0' (h0K : Ae ab K 0) (h : stg ab nk nA oK oQ app K M0 M 0) : ∃ e', stg ab nk nA oK oQ app K M0 (fl0 ab (rnH ab M 0)).2.2 e' := by
  obtain ⟨a, b⟩ := h.next (by decide) h0K (q := 0) (by decide)
  unfold fl0
  split
  · exact ⟨1, stg.s63 a⟩
  · obtain ⟨e', e1, e2, e3⟩ := stg_W h0K 4 1 1 ((rnH ab M 0).1, mw_setS (rnH ab M 0).2 63 0) (stg.s63 a) b (by decide) (by decide)
    exact stg_70' h0K e2 (by omega)
theorem ac_stg (hT : rm_T M nk ab) (hV : rm_V M nk na ab) (hA : rm_A M nk nA ab oK oQ) (hH : rn_H M) (h20 : na ≤ 20) (ha : app < na) {v : Nat} (hv : v ≤ 999) : ∃ K, Ae ab K 0 ∧ stg ab nk nA oK oQ app K (ac0 M ne app (nI v)) (ac0 M ne app (nI v)) 0 := by
  obtain ⟨K, k1, k2, k3, ⟨w, w1, w2, w3⟩, ⟨u, u1, u2⟩, z, z1, z2⟩ := hV app ha
  have ha0 : rn_app (ac0 M ne app (nI v)) = app := by
    show (nI app).toNatClampNeg = app
    exact nI_clamp (by omega)
  refine ⟨K, k3, ⟨(ac0_vs M ne app (nI v)).T hT, (ac0_vs M ne app (nI v)).A hA, ⟨rfl, by omega⟩, ⟨(ac0_Vo (by decide)).trans k1, k2⟩, ⟨v, hv, rfl⟩, z, z1, (ac0_Vo (by decide)).trans z2⟩, ⟨0, ⟨rfl, by decide⟩, ⟨rfl, by decide⟩, ⟨0, rfl, by decide⟩, ⟨0, rfl, by decide⟩, by decide, ⟨w, ?_, ?_, w3⟩, u, ?_, u2⟩, fun q hq => by rw [(ac0_vs M ne app (nI v)).has]; exact hH q hq, fsame.refl⟩
  · rw [ha0, ac0_Vo (by decide)]; exact w1
  · rw [ha0, ac0_Vo (by decide)]; exact w2
  · rw [ha0, ac0_Vo (by decide)]; exact u1
theorem PX.act (h : PX M ab nk np k) (hT : rm_T M nk ab) (hs : M.1 48 = nI na) (h20 : na ≤ 20) (hs2 : M.1 54 = nI ne) (hne : ne < 600) (hk : k < 600) : PX (sp_act M ab ne i x).2 ab nk np (k + 1) := by
  unfold sp_act
  rw [hs]
  by_cases hi : sp_in i (nI na) = 0
  · rw [if_pos hi]; exact h.an
  · obtain ⟨app, ha, rfl⟩ := sp_in_of hi rfl (by omega)
    rw [if_neg hi, nI_clamp (show app < 2 ^ 31 by omega)]
    by_cases x0 : x < 0
    · rw [if_pos x0]; exact h.an
    · rw [if_neg x0]
      by_cases x1 : x ≤ 999
      · rw [if_pos x1]
        obtain ⟨v, hv1, rfl⟩ := nI_ofL x0 (Int32.le_trans x1 (by decide))
        have hv : v ≤ 999 := (nI_leI (b := 999) (by omega) (by decide)).mp x1
        obtain ⟨na', ne', ⟨a1, a2⟩, b', h⟩ := h
        have en : na' = na := (nI_eq (by omega) (by omega)).mp (a1.symm.trans hs)
        subst en
        have en2 : ne' = ne := (nI_eq (by have := h.2.2.2.2.2; omega) (by omega)).mp (b'.symm.trans hs2)
        subst en2
        obtain ⟨⟨oK, oQ, hA⟩, hcv, hH, h0, hAe⟩ := h.1
        obtain ⟨K, h0K, S0⟩ := ac_stg (ne := ne') hT h.2.2.2.1 hA hH h20 ha hv
        obtain ⟨fs, cF⟩ := stg_0 h0K S0
        obtain ⟨e', SF⟩ := stg_0' h0K S0
        have cR0 := (S0.next (by decide) h0K (q := 0) (by decide)).2
        rw [actR_fl cR0]
        generalize fl0 ab (rnH ab (ac0 M ne' app (nI v)) 0) = F at *
        have VO : ∀ l i, ¬ (51 ≤ l ∧ l ≤ 73) → F.2.2.2.2.1 l i = M.2.2.1 l i := fun l i hl => (fs.2.1 l i (by omega) (by omega) (by omega) (by omega) (Or.inl ⟨by omega, by omega⟩)).trans (ac0_Vo (by omega))
        have VA : ∀ l i, 55 ≤ l → l ≤ 59 → F.2.2.2.2.1 l i = (ac0 M ne' app (nI v)).2.2.1 l i := fun l i h1 h2 => fs.2.1 l i (by omega) (by omega) (by omega) (by omega) (Or.inl ⟨by omega, by omega⟩)
        have VE : ∀ l e, 55 ≤ l → l ≤ 58 → e < ne' → F.2.2.2.2.1 l e = M.2.2.1 l e := fun l e l1 l2 he => by
          rw [VA l e l1 (by omega), ac0_Vf, if_neg (by omega), if_neg (by omega), if_neg (by omega), if_neg (by omega), if_neg (by omega), if_neg (by omega), if_neg (by omega), if_neg (by omega)]
        have V9 : ∀ i, i < 4 * ne' → F.2.2.2.2.1 59 i = M.2.2.1 59 i := fun i hi => by
          rw [VA 59 i (by decide) (by decide), ac0_Vf, if_neg (by omega), if_neg (by omega), if_neg (by omega), if_neg (by omega), if_neg (by omega), if_neg (by omega), if_neg (by omega), if_neg (by omega)]
        have VX : ∀ i, ¬ i = app → F.2.2.2.2.1 51 i = M.2.2.1 51 i ∧ F.2.2.2.2.1 52 i = M.2.2.1 52 i := fun i ia => ⟨(fs.2.1 51 i (by decide) (by decide) (by decide) (by decide) (Or.inr ia)).trans (ac0_Vo (by decide)), (fs.2.1 52 i (by decide) (by decide) (by decide) (by decide) (Or.inr ia)).trans (ac0_Vo (by decide))⟩
        have S48 : F.2.2.1 48 = nI na' := ((fs.1 48 (by decide)).trans rfl).trans a1
        have wO : ∀ a y z, wB M a y z → ∀ M1 : mw_S, M1.2.2.1 50 a = M.2.2.1 50 a → wB M1 a y z := fun a y z q M1 e => by unfold wB; rw [e]; exact q
        have vv : wB M app (M.2.2.1 51 app) (M.2.2.1 52 app) := by
          obtain ⟨K, -, -, -, p, q, -⟩ := h.2.2.2.1 app ha
          exact ⟨p, q⟩
        have bad : ∀ z : Int32, PX (mw_setS (rm_rst F.2.2 ne' app app) 66 z) ab nk np (k + 1) := fun z => by
          have W : ∀ l i, ¬ l = 51 → ¬ l = 52 → (mw_setS (rm_rst F.2.2 ne' app app) 66 z).2.2.1 l i = F.2.2.2.2.1 l i := fun l i l1 l2 => by
            show (rm_rst F.2.2 ne' app app).2.2.1 l i = _
            rw [rst_V]; simp [l1, l2]
          have nm : ∀ {p : Nat → Bool}, (∀ j, j < 74 → 51 ≤ j → p j = false) → nM p (mw_setS (rm_rst F.2.2 ne' app app) 66 z) = nM p M := fun hp => (nM_setS (hp 66 (by decide) (by decide))).trans ((nM_rst (hp 51 (by decide) (by decide)) (hp 52 (by decide) (by decide)) (hp 53 (by decide) (by decide))).trans (nM_ac fs hp))
          have W1 : (mw_setS (rm_rst F.2.2 ne' app app) 66 z).2.2.1 51 app = M.2.2.1 51 app ∧ (mw_setS (rm_rst F.2.2 ne' app app) 66 z).2.2.1 52 app = M.2.2.1 52 app := by
            show (rm_rst F.2.2 ne' app app).2.2.1 51 app = _ ∧ (rm_rst F.2.2 ne' app app).2.2.1 52 app = _
            rw [rst_V, rst_V, VA 59 _ (by decide) (by decide), VA 59 _ (by decide) (by decide), VA 59 _ (by decide) (by decide), VA 59 _ (by decide) (by decide), ac0_Vf, ac0_Vf, ac0_Vf, ac0_Vf]
            simp
          refine ⟨na', ne', ⟨S48, a2⟩, ((fs.1 54 (by decide)).trans rfl).trans b', h.of (nm (by decide)) (fun j h1 h2 => funext fun i => (W j i (by omega) (by omega)).trans (VO j i (by omega))) (nm (by decide)) (nm (by decide)) ⟨?_, fun e he => ?_, Nat.le_succ_of_le h.2.2.2.2.2⟩⟩
          · refine h.2.2.2.1.en (a := app) (b := app) (by rw [W1.1, W1.2]; exact vv) (by rw [W1.1, W1.2]; exact vv) (fun i hi ia _ => ?_) (fun i => (W 49 i (by decide) (by decide)).trans (VO 49 i (by decide))) (fun i => (W 50 i (by decide) (by decide)).trans (VO 50 i (by decide)))
            show (rm_rst F.2.2 ne' app app).2.2.1 51 i = _ ∧ (rm_rst F.2.2 ne' app app).2.2.1 52 i = _
            rw [rst_V, rst_V]
            simp [ia]
            exact VX i ia
          · obtain ⟨a', b', r1, r2, r3, r4, r5, r6⟩ := h.2.2.2.2.1 e he
            have e50 : ∀ i, (mw_setS (rm_rst F.2.2 ne' app app) 66 z).2.2.1 50 i = M.2.2.1 50 i := fun i => (W 50 i (by decide) (by decide)).trans (VO 50 i (by decide))
            refine ⟨a', b', r1, r2, ((W 56 e (by decide) (by decide)).trans (VE 56 e (by decide) (by decide) he)).trans r3, ((W 58 e (by decide) (by decide)).trans (VE 58 e (by decide) (by decide) he)).trans r4, ?_, ?_⟩
            · rw [W 59 _ (by decide) (by decide), W 59 _ (by decide) (by decide), V9 _ (by omega), V9 _ (by omega)]
              exact wO _ _ _ r5 _ (e50 a')
            · rw [W 59 _ (by decide) (by decide), W 59 _ (by decide) (by decide), V9 _ (by omega), V9 _ (by omega)]
              exact wO _ _ _ r6 _ (e50 b')
        by_cases f2 : F.1 = 2
        · rw [if_pos f2]; exact bad _
        · rw [if_neg f2]
          unfold rnE
          by_cases f0 : F.1 = 0
          · rw [if_pos f0]
            obtain ⟨hG, ⟨t, hI⟩, -, -⟩ := SF
            have hap : rn_app F.2.2 = app := by unfold rn_app; rw [hG.2.2.1.1, nI_clamp (by omega)]
            have nm : ∀ {p : Nat → Bool}, (∀ j, j < 74 → 51 ≤ j → p j = false) → nM p (mw_setS F.2.2 54 (nI (ne' + 1))) = nM p M := fun hp => (nM_setS (hp 54 (by decide) (by decide))).trans (nM_ac fs hp)
            have wa : wB M app (F.2.2.2.2.1 51 app) (F.2.2.2.2.1 52 app) := by
              obtain ⟨⟨w, w1, w2, w3⟩, u, u1, u2⟩ := hI.2.2.2.2.2
              rw [hap] at w1 w2 u1
              rw [VO 50 app (by decide)] at w2
              exact ⟨⟨w, w1, w2, w3⟩, u, u1, u2⟩
            refine ⟨na', ne' + 1, ⟨S48, a2⟩, rfl, h.of (nm (by decide)) (fun j h1 h2 => funext fun i => VO j i (by omega)) (nm (by decide)) (nm (by decide)) ⟨h.2.2.2.1.en (a := app) (b := app) wa wa (fun i hi ia _ => VX i ia) (fun i => VO 49 i (by decide)) (fun i => VO 50 i (by decide)), fun e he => ?_, by have := h.2.2.2.2.2; omega⟩⟩
            have e50 : ∀ i, (mw_setS F.2.2 54 (nI (ne' + 1))).2.2.1 50 i = M.2.2.1 50 i := fun i => VO 50 i (by decide)
            show ∃ a b, a < na' ∧ b < na' ∧ F.2.2.2.2.1 56 e = nI a ∧ F.2.2.2.2.1 58 e = nI b ∧ wB (mw_setS F.2.2 54 (nI (ne' + 1))) a (F.2.2.2.2.1 59 (4 * e)) (F.2.2.2.2.1 59 (4 * e + 1)) ∧ wB (mw_setS F.2.2 54 (nI (ne' + 1))) b (F.2.2.2.2.1 59 (4 * e + 2)) (F.2.2.2.2.1 59 (4 * e + 3))
            by_cases ee : e = ne'
            · subst ee
              refine ⟨app, app, ha, ha, ?_, ?_, ?_, ?_⟩
              · rw [VA 56 _ (by decide) (by decide), ac0_Vf]; simp
              · rw [VA 58 _ (by decide) (by decide), ac0_Vf]; simp
              · rw [VA 59 _ (by decide) (by decide), VA 59 _ (by decide) (by decide), ac0_Vf, ac0_Vf]
                simp
                exact wO _ _ _ vv _ (e50 app)
              · rw [VA 59 _ (by decide) (by decide), VA 59 _ (by decide) (by decide), ac0_Vf, ac0_Vf]
                simp
                exact wO _ _ _ vv _ (e50 app)
            · have he : e < ne' := by omega
              obtain ⟨a', b', r1, r2, r3, r4, r5, r6⟩ := h.2.2.2.2.1 e he
              refine ⟨a', b', r1, r2, (VE 56 e (by decide) (by decide) he).trans r3, (VE 58 e (by decide) (by decide) he).trans r4, ?_, ?_⟩
              · rw [V9 _ (by omega), V9 _ (by omega)]; exact wO _ _ _ r5 _ (e50 a')
              · rw [V9 _ (by omega), V9 _ (by omega)]; exact wO _ _ _ r6 _ (e50 b')
          · rw [if_neg f0]
            split
            · exact bad _
            · exact bad _
      · rw [if_neg x1]; exact h.an
theorem bt_8 (y : Int8) : ∃ b, b < 256 ∧ y.toInt32 = bt b := by
  have key : ∀ b, b < 256 → (Int8.ofBitVec (BitVec.ofNat 8 b)).toInt32 = bt b := by decide +kernel
  refine ⟨y.toBitVec.toNat, y.toBitVec.isLt, ?_⟩
  have e := key y.toBitVec.toNat y.toBitVec.isLt
  rw [BitVec.ofNat_toNat, BitVec.setWidth_eq] at e
  exact e
theorem PX.feed (h : PX M ab nk np k) (hs : M.1 1 = nI n) (hn : n ≤ 800) {z : Int64} : PX (sp_feed M n z x).2 ab nk np (k + 1) := by
  unfold sp_feed
  by_cases x1 : x < 1
  · rw [if_pos x1]; exact h.an
  · rw [if_neg x1]
    by_cases x8 : x ≤ 8
    · rw [if_pos x8]
      obtain ⟨c, c1, c8, rfl⟩ := nI_of8 x1 x8
      rw [nI_clamp (by omega)]
      by_cases hk : n + c ≤ 800
      · rw [if_pos hk]
        obtain ⟨na, ne, ⟨a1, a2⟩, b', h⟩ := h
        have ms : ∀ c, ∀ j, ¬ j = 1 → (fdM M z n c).1 j = M.1 j := fun c j hj => by
          induction c with
          | zero => rfl
          | succ c ih => exact (if_neg hj).trans ih
        have mv : ∀ c, ∀ j, ¬ j = 0 → (fdM M z n c).2.2.1 j = M.2.2.1 j := fun c j hj => by
          induction c with
          | zero => rfl
          | succ c ih => exact (mw_u2_row hj).trans ih
        have tpc : ∀ c, ∃ tb, tp (fdM M z n c) tb := fun c => by
          induction c with
          | zero => exact h.2.1.1
          | succ c ih =>
            obtain ⟨tb, ih⟩ := ih
            obtain ⟨bb, b1, b2⟩ := bt_8 (z >>> (((8 : Int32) * nI c).toInt64 &&& 63)).toInt32.toInt8
            refine ⟨fun i => if i = n + c then bb else tb i, fun i => ?_⟩
            show (if i = n + c then bb else tb i) < 256 ∧ mw_u2 (fdM M z n c).2.2.1 0 (n + c) (fdB z c) 0 i = bt (if i = n + c then bb else tb i)
            by_cases e : i = n + c
            · rw [if_pos e, e, cu2_eq]; exact ⟨b1, b2⟩
            · rw [if_neg e, cu2_ne (fun y => e y.2)]; exact ih i
        refine ⟨na, ne, ⟨(ms c 48 (by decide)).trans a1, a2⟩, (ms c 54 (by decide)).trans b', h.1.nf (nM_fd rfl rfl c) (ms c 13 (by decide)) (fun j h1 _ => mv c j (by omega)), ⟨tpc c, ?_, ?_⟩, h.2.2.1.nf (nM_fd rfl rfl c), h.2.2.2.nf (nM_fd rfl rfl c)⟩
        · obtain ⟨-, ⟨n', a0, q1, q2, q3, q4⟩, -⟩ := h.2.1
          have : n' = n := (nI_eq (by omega) (by omega)).mp (q1.symm.trans hs)
          subst this
          exact ⟨n' + c, a0, fdM_1 M z n' c q1, hk, (ms c 13 (by decide)).trans q3, by omega⟩
        · obtain ⟨-, -, g0, q1, q2⟩ := h.2.1
          exact ⟨g0, (ms c 111 (by decide)).trans q1, q2⟩
      · rw [if_neg hk]; exact h.an
    · rw [if_neg x8]; exact h.an
end PXU
