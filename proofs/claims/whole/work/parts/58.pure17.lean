/-! what reading a body does, whole -/
theorem rm_faulty_flt (M : mw_S) (f p : Int32) : rm_faulty M f p = setF M (flt (M.1 31, M.1 32) f p) := by
  have e : jM M (M.1 31, M.1 32) (M.2.2.1 25) = M := by
    unfold jM
    rw [setF_self]
    exact mw_r25_self M
  have e2 := rm_faulty_F M (M.1 31, M.1 32) (M.2.2.1 25) f p
  rw [e] at e2
  rw [e2]
  have e3 : ∀ fp : fp_T, jM M fp (M.2.2.1 25) = setF M fp := fun fp => mw_r25_self (setF M fp)
  exact e3 _
def fpOf (M : mw_S) : fp_T := (M.1 31, M.1 32)
def bodyFx (tb : Nat → Nat) (n k : Nat) (M M' : mw_S) (t t' th q : Nat) (r l : Int32) : Prop :=
  (q < 6 ∧ cd tb n th = q + 7 ∧ t ≤ th ∧ th < t' ∧ (r = 0 ∨ r = 1 ∨ r = 2) ∧ (l = 0 ∨ l = 1)) ∧
  kb (ka M) (ku M) (kd_ M) (kg M) k M M' ∧
  (∀ j i, (8 ≤ j ∧ j ≤ 12 ∨ j = 97) → ¬ (i = 6 * k + q ∧ rm_has M q k = false) → M'.2.2.1 j i = M.2.2.1 j i) ∧
  (rm_has M q k = false → M'.2.2.1 8 (6 * k + q) = 1 ∧ M'.2.2.1 9 (6 * k + q) = r ∧ M'.2.2.1 10 (6 * k + q) = l ∧ M'.2.2.1 11 (6 * k + q) = M'.2.2.1 108 (kg M) ∧ M'.2.2.1 12 (6 * k + q) = M'.2.2.1 109 (kg M) ∧ M'.2.2.1 97 (6 * k + q) = nI (kg M)) ∧
  (M'.2.2.1 98 (kg M) = nI k ∧ M'.2.2.1 99 (kg M) = nI q ∧ M'.2.2.1 107 (kg M) = nI (qs tb n th) ∧ M'.2.2.1 96 (kg M) = bI (rm_has M q k) ∧ M'.2.2.1 114 (kg M) = nI (ka M) ∧ M'.2.2.1 115 (kg M) = nI (ka M') ∧ M'.2.2.1 112 (kg M) = r ∧ M'.2.2.1 113 (kg M) = l ∧ M'.2.2.1 109 (kg M) = M'.1 47) ∧
  (M'.2.2.1 38 (kd_ M) = nI k ∧ M'.2.2.1 39 (kd_ M) = nI q ∧ M'.2.2.1 40 (kd_ M) = nI (qs tb n th)) ∧
  (ka M ≤ ka M' ∧ ku M ≤ ku M' ∧ kg M' = kg M + 1 ∧ kd_ M' = kd_ M + 1) ∧
  CV M' k q 1 (M'.2.2.1 108 (kg M)) (ka M) (ka M') ∧
  fpOf M' = (if rm_has M q k = true then flt (fpOf M) 3 (nI (qs tb n th)) else fpOf M)
section BFX
variable {tb : Nat → Nat} {n a0 g0 t k : Nat} {M : mw_S}
theorem kp.S {a u : Nat} {tl : Int32} {M M' : mw_S} (h : kp a u tl M M') {j : Nat} (hj : kpS j) : M'.1 j = M.1 j := h.1 j hj
theorem pBd3_fx {q : Nat} {r l : Int32} (hI : pI tb n a0 M t) (hg : gI tb n g0 M t) (hcq : cd tb n t = q + 7) (hq : q < 6) (hrr : r = 0 ∨ r = 1 ∨ r = 2) (hll : l = 0 ∨ l = 1) (hr : ¬ (pBd3 tb n k q r l M t).1 = 0) : bodyFx tb n k M (pBd3 tb n k q r l M t).2.1 t (pBd3 tb n k q r l M t).2.2 t q r l := by
  have hka := hI.kA_
  have hub := hI.uB
  have hkb := kB3 (M0 := M) (k := k) (r := r) (l := l) (q := q) (a := ka M) (u := ku M) (b := kd_ M) (g := kg M) hI hg (by omega) hq (by omega) ⟨kb.refl M, Nat.le_refl _, Nat.le_refl _, Nat.le_refl _, Nat.le_refl _⟩
  have hcnt := pBd3_cnt (k := k) (q := q) (r := r) (l := l) hI (by omega) hr
  obtain ⟨c1, c2, c3, c4⟩ := hg.c hI.n7
  obtain ⟨b_, bd1, bd2, bd3⟩ := hI.bd
  have ebd : kd_ M = b_ := bd2
  have hI3 := pBd3_I (k := k) (q := q) hI (by omega)
  have hq1 := qs_le (tb := tb) (n := n) (t + 1)
  have hqt := qs_le (tb := tb) (n := n) t
  have hn7 := hI.n7
  have kgk := hkb.2 hr
  have eg : kg (pBd3 tb n k q r l M t).2.1 = kg M + 1 := by unfold kg at hcnt c4 ⊢; rw [hcnt.1, nI_clamp (by omega)]
  have ed : kd_ (pBd3 tb n k q r l M t).2.1 = kd_ M + 1 := by
    have := hcnt.2
    unfold kd_ at ebd this ⊢
    rw [this, nI_clamp (by omega)]
  have e27 : M.1 27 = nI (qs tb n t) := hI.1.2.2.2.2.1
  -- the memory ahead of the actions
  have hM1 : ∀ M1 : mw_S, (M1 = M ∨ M1 = rm_faulty M 3 (M.1 27)) → M1.2 = M.2 ∧ ka M1 = ka M ∧ ku M1 = ku M ∧ M1.1 27 = nI (qs tb n t) := by
    intro M1 h
    rcases h with h | h
    · subst h; exact ⟨rfl, rfl, rfl, e27⟩
    · subst h
      refine ⟨rm_faulty_2 _ _ _, ?_, ?_, ?_⟩
      · unfold ka; rw [rm_faulty_1 _ _ _ (by decide) (by decide)]
      · unfold ku; rw [rm_faulty_1 _ _ _ (by decide) (by decide)]
      · rw [rm_faulty_1 _ _ _ (by decide) (by decide)]; exact e27
  have eM1 := hM1 (if rm_has M q k = true then rm_faulty M 3 (M.1 27) else M) (by by_cases z : rm_has M q k = true <;> simp [z])
  have efp : fpOf (if rm_has M q k = true then rm_faulty M 3 (M.1 27) else M) = (if rm_has M q k = true then flt (fpOf M) 3 (nI (qs tb n t)) else fpOf M) := by
    by_cases z : rm_has M q k = true
    · rw [if_pos z, if_pos z, rm_faulty_flt, e27]; rfl
    · rw [if_neg z, if_neg z]
  unfold pBd3 at hr hkb eg ed kgk ⊢
  generalize (if rm_has M q k = true then rm_faulty M 3 (M.1 27) else M) = M1 at hr hkb eg ed kgk hI3 eM1 efp ⊢
  obtain ⟨m2, mka, mku, m27⟩ := eM1
  -- its cells
  have w : ∀ j i, (¬ (j = 98 ∨ j = 99 ∨ j = 107 ∨ j = 96 ∨ j = 114) ∨ ¬ i = kg M) → (¬ (38 ≤ j ∧ j ≤ 40) ∨ ¬ i = kd_ M) → (mw_setS (pw tb n (rm_bgh (rm_bnew M1 (M.1 37).toNatClampNeg k q) (M.1 111).toNatClampNeg k q (qs tb n t) (M.1 13).toNatClampNeg (rm_has M q k)) t) 47 0).2.2.1 j i = M.2.2.1 j i := by
    intro j i h1 h2
    show (rm_bgh (rm_bnew M1 (kd_ M) k q) (kg M) k q (qs tb n t) (ka M) (rm_has M q k)).2.2.1 j i = _
    unfold rm_bgh rm_bnew
    show (mw_setV _ 114 _ _).2.2.1 j i = _
    rw [setV_ne (by omega), setV_ne (by omega), setV_ne (by omega), setV_ne (by omega), setV_ne (by omega)]
    show (mw_setV _ 40 _ _).2.2.1 j i = _
    rw [setV_ne (by omega), setV_ne (by omega), setV_ne (by omega), m2]
  have wn : (mw_setS (pw tb n (rm_bgh (rm_bnew M1 (M.1 37).toNatClampNeg k q) (M.1 111).toNatClampNeg k q (qs tb n t) (M.1 13).toNatClampNeg (rm_has M q k)) t) 47 0).2.2.1 98 (kg M) = nI k ∧ (mw_setS (pw tb n (rm_bgh (rm_bnew M1 (M.1 37).toNatClampNeg k q) (M.1 111).toNatClampNeg k q (qs tb n t) (M.1 13).toNatClampNeg (rm_has M q k)) t) 47 0).2.2.1 99 (kg M) = nI q ∧ (mw_setS (pw tb n (rm_bgh (rm_bnew M1 (M.1 37).toNatClampNeg k q) (M.1 111).toNatClampNeg k q (qs tb n t) (M.1 13).toNatClampNeg (rm_has M q k)) t) 47 0).2.2.1 107 (kg M) = nI (qs tb n t) ∧ (mw_setS (pw tb n (rm_bgh (rm_bnew M1 (M.1 37).toNatClampNeg k q) (M.1 111).toNatClampNeg k q (qs tb n t) (M.1 13).toNatClampNeg (rm_has M q k)) t) 47 0).2.2.1 96 (kg M) = bI (rm_has M q k) ∧ (mw_setS (pw tb n (rm_bgh (rm_bnew M1 (M.1 37).toNatClampNeg k q) (M.1 111).toNatClampNeg k q (qs tb n t) (M.1 13).toNatClampNeg (rm_has M q k)) t) 47 0).2.2.1 114 (kg M) = nI (ka M) := by
    show (rm_bgh (rm_bnew M1 (kd_ M) k q) (kg M) k q (qs tb n t) (ka M) (rm_has M q k)).2.2.1 98 (kg M) = _ ∧ (rm_bgh (rm_bnew M1 (kd_ M) k q) (kg M) k q (qs tb n t) (ka M) (rm_has M q k)).2.2.1 99 (kg M) = _ ∧ (rm_bgh (rm_bnew M1 (kd_ M) k q) (kg M) k q (qs tb n t) (ka M) (rm_has M q k)).2.2.1 107 (kg M) = _ ∧ (rm_bgh (rm_bnew M1 (kd_ M) k q) (kg M) k q (qs tb n t) (ka M) (rm_has M q k)).2.2.1 96 (kg M) = _ ∧ (rm_bgh (rm_bnew M1 (kd_ M) k q) (kg M) k q (qs tb n t) (ka M) (rm_has M q k)).2.2.1 114 (kg M) = _
    unfold rm_bgh
    show (mw_setV _ 114 _ _).2.2.1 98 _ = _ ∧ (mw_setV _ 114 _ _).2.2.1 99 _ = _ ∧ (mw_setV _ 114 _ _).2.2.1 107 _ = _ ∧ (mw_setV _ 114 _ _).2.2.1 96 _ = _ ∧ (mw_setV _ 114 _ _).2.2.1 114 _ = _
    refine ⟨?_, ?_, ?_, ?_, setV_eq⟩
    · rw [setV_ne (by omega), setV_ne (by omega), setV_ne (by omega), setV_ne (by omega), setV_eq]
    · rw [setV_ne (by omega), setV_ne (by omega), setV_ne (by omega), setV_eq]
    · rw [setV_ne (by omega), setV_ne (by omega), setV_eq]
    · rw [setV_ne (by omega), setV_eq]
  have wb : (mw_setS (pw tb n (rm_bgh (rm_bnew M1 (M.1 37).toNatClampNeg k q) (M.1 111).toNatClampNeg k q (qs tb n t) (M.1 13).toNatClampNeg (rm_has M q k)) t) 47 0).2.2.1 38 (kd_ M) = nI k ∧ (mw_setS (pw tb n (rm_bgh (rm_bnew M1 (M.1 37).toNatClampNeg k q) (M.1 111).toNatClampNeg k q (qs tb n t) (M.1 13).toNatClampNeg (rm_has M q k)) t) 47 0).2.2.1 39 (kd_ M) = nI q ∧ (mw_setS (pw tb n (rm_bgh (rm_bnew M1 (M.1 37).toNatClampNeg k q) (M.1 111).toNatClampNeg k q (qs tb n t) (M.1 13).toNatClampNeg (rm_has M q k)) t) 47 0).2.2.1 40 (kd_ M) = nI (qs tb n t) := by
    have s : ∀ j i, 38 ≤ j ∧ j ≤ 40 → (rm_bgh (rm_bnew M1 (kd_ M) k q) (kg M) k q (qs tb n t) (ka M) (rm_has M q k)).2.2.1 j i = (mw_setV (mw_setV (mw_setV M1 38 (kd_ M) (nI k)) 39 (kd_ M) (nI q)) 40 (kd_ M) (M1.1 27)).2.2.1 j i := by
      intro j i hj
      unfold rm_bgh
      show (mw_setV _ 114 _ _).2.2.1 j i = _
      rw [setV_ne (by omega), setV_ne (by omega), setV_ne (by omega), setV_ne (by omega), setV_ne (by omega)]
      rfl
    refine ⟨(s 38 _ (by omega)).trans ?_, (s 39 _ (by omega)).trans ?_, (s 40 _ (by omega)).trans ?_⟩
    · rw [setV_ne (by omega), setV_ne (by omega), setV_eq]
    · rw [setV_ne (by omega), setV_eq]
    · rw [setV_eq, m27]
  have wk : ka (mw_setS (pw tb n (rm_bgh (rm_bnew M1 (M.1 37).toNatClampNeg k q) (M.1 111).toNatClampNeg k q (qs tb n t) (M.1 13).toNatClampNeg (rm_has M q k)) t) 47 0) = ka M := mka
  have wf : fpOf (mw_setS (pw tb n (rm_bgh (rm_bnew M1 (M.1 37).toNatClampNeg k q) (M.1 111).toNatClampNeg k q (qs tb n t) (M.1 13).toNatClampNeg (rm_has M q k)) t) 47 0) = fpOf M1 := rfl
  generalize mw_setS (pw tb n (rm_bgh (rm_bnew M1 (M.1 37).toNatClampNeg k q) (M.1 111).toNatClampNeg k q (qs tb n t) (M.1 13).toNatClampNeg (rm_has M q k)) t) 47 0 = M3 at hr hkb eg ed kgk hI3 w wn wb wk wf ⊢
  have key := kB (M0 := M3) (tl := -1) (a := ka M3) (u := ku M3) (kL k q n) hI3 (by omega) 1 ⟨kp.refl M3, Nat.le_refl _, Nat.le_refl _⟩
  have hcv := cvB (k := k) (q := q) (deep := 1) (cvL n) hI3 (by omega)
  have hpg := pB_post (pL_post k q n) hI3 (by omega) 1
  generalize pB tb n (pL tb n k q n) M3 (t + 1) 1 = z at hr hkb eg ed kgk key hcv hpg ⊢
  have hz : ¬ z.1 = -2 := fun e => hr (by unfold pBd4; rw [if_pos e])
  obtain ⟨v1, v2, v3⟩ := hcv hz
  obtain ⟨gz, gt⟩ := hpg.resolve_left hz
  have hkz := gz.kA_
  have kV : ∀ j i, (j < 14 ∨ (18 < j ∧ j < 42) ∨ (46 < j ∧ j < 80) ∨ 84 < j) → z.2.1.2.2.1 j i = M3.2.2.1 j i := fun j i hj => key.1.2.2.2 j i (Or.inl hj)
  have eM : (pBd4 k q (M.1 111).toNatClampNeg r l (rm_has M q k) z) = (1, (if rm_has M q k = true then rm_bge z.2.1 (kg M) z.1 r l else mw_setV (rm_bge (rm_body z.2.1 (6 * k + q) r l z.1 (z.2.1.1 47)) (kg M) z.1 r l) 97 (6 * k + q) (nI (kg M))), z.2.2) := by unfold pBd4; rw [if_neg hz]; rfl
  rw [eM] at hr hkb eg ed kgk ⊢
  -- the result's cells
  have x : ∀ (s : Bool) (j i : Nat), (¬ (j = 108 ∨ j = 109 ∨ j = 112 ∨ j = 113 ∨ j = 115) ∨ ¬ i = kg M) → (s = true ∨ ¬ ((8 ≤ j ∧ j ≤ 12 ∨ j = 97) ∧ i = 6 * k + q)) → (if s = true then rm_bge z.2.1 (kg M) z.1 r l else mw_setV (rm_bge (rm_body z.2.1 (6 * k + q) r l z.1 (z.2.1.1 47)) (kg M) z.1 r l) 97 (6 * k + q) (nI (kg M))).2.2.1 j i = z.2.1.2.2.1 j i := by
    intro s j i h1 h2
    cases s with
    | true =>
      rw [if_pos rfl]
      unfold rm_bge
      rw [setV_ne (by omega), setV_ne (by omega), setV_ne (by omega), setV_ne (by omega), setV_ne (by omega)]
    | false =>
      rw [if_neg (by decide)]
      have h3 : ¬ ((8 ≤ j ∧ j ≤ 12 ∨ j = 97) ∧ i = 6 * k + q) := h2.resolve_left (by decide)
      unfold rm_bge rm_body
      rw [setV_ne (by omega), setV_ne (by omega), setV_ne (by omega), setV_ne (by omega), setV_ne (by omega), setV_ne (by omega), setV_ne (by omega), setV_ne (by omega), setV_ne (by omega), setV_ne (by omega), setV_ne (by omega)]
  have xn : ∀ (s : Bool), (if s = true then rm_bge z.2.1 (kg M) z.1 r l else mw_setV (rm_bge (rm_body z.2.1 (6 * k + q) r l z.1 (z.2.1.1 47)) (kg M) z.1 r l) 97 (6 * k + q) (nI (kg M))).2.2.1 108 (kg M) = z.1 ∧ (if s = true then rm_bge z.2.1 (kg M) z.1 r l else mw_setV (rm_bge (rm_body z.2.1 (6 * k + q) r l z.1 (z.2.1.1 47)) (kg M) z.1 r l) 97 (6 * k + q) (nI (kg M))).2.2.1 109 (kg M) = z.2.1.1 47 ∧ (if s = true then rm_bge z.2.1 (kg M) z.1 r l else mw_setV (rm_bge (rm_body z.2.1 (6 * k + q) r l z.1 (z.2.1.1 47)) (kg M) z.1 r l) 97 (6 * k + q) (nI (kg M))).2.2.1 112 (kg M) = r ∧ (if s = true then rm_bge z.2.1 (kg M) z.1 r l else mw_setV (rm_bge (rm_body z.2.1 (6 * k + q) r l z.1 (z.2.1.1 47)) (kg M) z.1 r l) 97 (6 * k + q) (nI (kg M))).2.2.1 113 (kg M) = l ∧ (if s = true then rm_bge z.2.1 (kg M) z.1 r l else mw_setV (rm_bge (rm_body z.2.1 (6 * k + q) r l z.1 (z.2.1.1 47)) (kg M) z.1 r l) 97 (6 * k + q) (nI (kg M))).2.2.1 115 (kg M) = z.2.1.1 13 := by
    intro s
    cases s with
    | true =>
      rw [if_pos rfl]
      unfold rm_bge
      refine ⟨?_, ?_, ?_, ?_, setV_eq⟩
      · rw [setV_ne (by omega), setV_ne (by omega), setV_ne (by omega), setV_ne (by omega), setV_eq]
      · rw [setV_ne (by omega), setV_ne (by omega), setV_ne (by omega), setV_eq]
      · rw [setV_ne (by omega), setV_ne (by omega), setV_eq]
      · rw [setV_ne (by omega), setV_eq]
    | false =>
      rw [if_neg (by decide)]
      unfold rm_bge
      refine ⟨?_, ?_, ?_, ?_, ?_⟩
      · rw [setV_ne (by omega), setV_ne (by omega), setV_ne (by omega), setV_ne (by omega), setV_ne (by omega), setV_eq]
      · rw [setV_ne (by omega), setV_ne (by omega), setV_ne (by omega), setV_ne (by omega), setV_eq]; rfl
      · rw [setV_ne (by omega), setV_ne (by omega), setV_ne (by omega), setV_eq]
      · rw [setV_ne (by omega), setV_ne (by omega), setV_eq]
      · rw [setV_ne (by omega), setV_eq]; rfl
  have xb : (mw_setV (rm_bge (rm_body z.2.1 (6 * k + q) r l z.1 (z.2.1.1 47)) (kg M) z.1 r l) 97 (6 * k + q) (nI (kg M))).2.2.1 8 (6 * k + q) = 1 ∧ (mw_setV (rm_bge (rm_body z.2.1 (6 * k + q) r l z.1 (z.2.1.1 47)) (kg M) z.1 r l) 97 (6 * k + q) (nI (kg M))).2.2.1 9 (6 * k + q) = r ∧ (mw_setV (rm_bge (rm_body z.2.1 (6 * k + q) r l z.1 (z.2.1.1 47)) (kg M) z.1 r l) 97 (6 * k + q) (nI (kg M))).2.2.1 10 (6 * k + q) = l ∧ (mw_setV (rm_bge (rm_body z.2.1 (6 * k + q) r l z.1 (z.2.1.1 47)) (kg M) z.1 r l) 97 (6 * k + q) (nI (kg M))).2.2.1 11 (6 * k + q) = z.1 ∧ (mw_setV (rm_bge (rm_body z.2.1 (6 * k + q) r l z.1 (z.2.1.1 47)) (kg M) z.1 r l) 97 (6 * k + q) (nI (kg M))).2.2.1 12 (6 * k + q) = z.2.1.1 47 ∧ (mw_setV (rm_bge (rm_body z.2.1 (6 * k + q) r l z.1 (z.2.1.1 47)) (kg M) z.1 r l) 97 (6 * k + q) (nI (kg M))).2.2.1 97 (6 * k + q) = nI (kg M) := by
    have s : ∀ j, 8 ≤ j ∧ j ≤ 12 → (mw_setV (rm_bge (rm_body z.2.1 (6 * k + q) r l z.1 (z.2.1.1 47)) (kg M) z.1 r l) 97 (6 * k + q) (nI (kg M))).2.2.1 j (6 * k + q) = (rm_body z.2.1 (6 * k + q) r l z.1 (z.2.1.1 47)).2.2.1 j (6 * k + q) := by
      intro j hj
      unfold rm_bge
      rw [setV_ne (by omega), setV_ne (by omega), setV_ne (by omega), setV_ne (by omega), setV_ne (by omega), setV_ne (by omega)]
    rw [s 8 (by omega), s 9 (by omega), s 10 (by omega), s 11 (by omega), s 12 (by omega)]
    unfold rm_body
    refine ⟨?_, ?_, ?_, ?_, setV_eq, setV_eq⟩
    · rw [setV_ne (by omega), setV_ne (by omega), setV_ne (by omega), setV_ne (by omega), setV_eq]
    · rw [setV_ne (by omega), setV_ne (by omega), setV_ne (by omega), setV_eq]
    · rw [setV_ne (by omega), setV_ne (by omega), setV_eq]
    · rw [setV_ne (by omega), setV_eq]
  have xS : ∀ j, (if rm_has M q k = true then rm_bge z.2.1 (kg M) z.1 r l else mw_setV (rm_bge (rm_body z.2.1 (6 * k + q) r l z.1 (z.2.1.1 47)) (kg M) z.1 r l) 97 (6 * k + q) (nI (kg M))).1 j = z.2.1.1 j := by
    intro j
    by_cases y : rm_has M q k = true
    · rw [if_pos y]; rfl
    · rw [if_neg y]; rfl
  obtain ⟨xn1, xn2, xn3, xn4, xn5⟩ := xn (rm_has M q k)
  have x0 := x (rm_has M q k)
  have xb2 : rm_has M q k = false → ∀ j, (if rm_has M q k = true then rm_bge z.2.1 (kg M) z.1 r l else mw_setV (rm_bge (rm_body z.2.1 (6 * k + q) r l z.1 (z.2.1.1 47)) (kg M) z.1 r l) 97 (6 * k + q) (nI (kg M))).2.2.1 j (6 * k + q) = (mw_setV (rm_bge (rm_body z.2.1 (6 * k + q) r l z.1 (z.2.1.1 47)) (kg M) z.1 r l) 97 (6 * k + q) (nI (kg M))).2.2.1 j (6 * k + q) := by
    intro y j
    rw [y, if_neg (by decide)]
  have ekz : ka (if rm_has M q k = true then rm_bge z.2.1 (kg M) z.1 r l else mw_setV (rm_bge (rm_body z.2.1 (6 * k + q) r l z.1 (z.2.1.1 47)) (kg M) z.1 r l) 97 (6 * k + q) (nI (kg M))) = ka z.2.1 := by unfold ka; rw [xS 13]
  generalize (if rm_has M q k = true then rm_bge z.2.1 (kg M) z.1 r l else mw_setV (rm_bge (rm_body z.2.1 (6 * k + q) r l z.1 (z.2.1.1 47)) (kg M) z.1 r l) 97 (6 * k + q) (nI (kg M))) = M' at hr hkb eg ed kgk x0 xn1 xn2 xn3 xn4 xn5 xb2 xS ekz ⊢
  refine ⟨⟨hq, hcq, Nat.le_refl _, by show t < z.2.2; omega, hrr, hll⟩, hkb.1, ?_, ?_, ?_, ?_, ?_, ?_, ?_⟩
  · intro j i hj hn
    show M'.2.2.1 j i = _
    rw [x0 j i (by omega) (by
      by_cases y : rm_has M q k = true
      · exact Or.inl y
      · refine Or.inr (fun e => hn ⟨e.2, ?_⟩)
        cases h : rm_has M q k with
        | true => exact absurd h y
        | false => rfl), kV j i (by omega), w j i (by omega) (by omega)]
  · intro y
    show M'.2.2.1 8 (6 * k + q) = _ ∧ M'.2.2.1 9 (6 * k + q) = _ ∧ M'.2.2.1 10 (6 * k + q) = _ ∧ M'.2.2.1 11 (6 * k + q) = M'.2.2.1 108 (kg M) ∧ M'.2.2.1 12 (6 * k + q) = M'.2.2.1 109 (kg M) ∧ M'.2.2.1 97 (6 * k + q) = _
    rw [xb2 y, xb2 y, xb2 y, xb2 y, xb2 y, xb2 y, xn1, xn2]
    exact xb
  · show M'.2.2.1 98 (kg M) = _ ∧ M'.2.2.1 99 (kg M) = _ ∧ M'.2.2.1 107 (kg M) = _ ∧ M'.2.2.1 96 (kg M) = _ ∧ M'.2.2.1 114 (kg M) = _ ∧ M'.2.2.1 115 (kg M) = nI (ka M') ∧ M'.2.2.1 112 (kg M) = r ∧ M'.2.2.1 113 (kg M) = l ∧ M'.2.2.1 109 (kg M) = M'.1 47
    rw [xn5, xn3, xn4, xn2, xS 47, ekz]
    obtain ⟨n1, n2, n3, n4, n5⟩ := wn
    refine ⟨?_, ?_, ?_, ?_, ?_, hkz.1, rfl, rfl, rfl⟩
    · rw [x0 98 _ (by omega) (by omega), kV 98 _ (by omega), n1]
    · rw [x0 99 _ (by omega) (by omega), kV 99 _ (by omega), n2]
    · rw [x0 107 _ (by omega) (by omega), kV 107 _ (by omega), n3]
    · rw [x0 96 _ (by omega) (by omega), kV 96 _ (by omega), n4]
    · rw [x0 114 _ (by omega) (by omega), kV 114 _ (by omega), n5]
  · obtain ⟨n1, n2, n3⟩ := wb
    refine ⟨?_, ?_, ?_⟩
    · rw [x0 38 _ (by omega) (by omega), kV 38 _ (by omega), n1]
    · rw [x0 39 _ (by omega) (by omega), kV 39 _ (by omega), n2]
    · rw [x0 40 _ (by omega) (by omega), kV 40 _ (by omega), n3]
  · exact ⟨kgk.1, kgk.2.1, eg, ed⟩
  · show CV M' k q 1 (M'.2.2.1 108 (kg M)) (ka M) (ka M')
    rw [xn1, ekz, ← wk]
    exact v3.same (fun j i a b c => x0 j i (by omega) (by omega))
  · show fpOf M' = _
    rw [← efp, ← wf]
    unfold fpOf
    show (M'.1 31, M'.1 32) = _
    rw [xS 31, xS 32, key.1.S (by unfold kpS; omega), key.1.S (by unfold kpS; omega)]
/-- the words ahead of the hook -/
theorem bodyFx.w {M' : mw_S} {t' th q : Nat} {r l : Int32} (h : bodyFx tb n k (pw tb n M t) M' (t + 1) t' th q r l) : bodyFx tb n k M M' t t' th q r l := by
  obtain ⟨⟨a1, a2, a3, a4⟩, b, rest⟩ := h
  refine ⟨⟨a1, a2, by omega, a4⟩, ⟨fun j hj => (b.1 j hj).trans (pw_1 ?_), b.2.1, b.2.2.1, b.2.2.2⟩, rest⟩
  have := hj.1
  unfold kpS at this
  omega
def bodyEx (tb : Nat → Nat) (n k : Nat) (M : mw_S) (t : Nat) (z : pr_T) : Prop := ∃ th q r l, bodyFx tb n k M z.2.1 t z.2.2 th q r l
theorem pBody_fx (hI : pI tb n a0 M t) (hg : gI tb n g0 M t) (hr : ¬ (pBody tb n k M t).1 = 0) : bodyEx tb n k M t (pBody tb n k M t) := by
  have e2 : ∀ {M : mw_S} {t : Nat} {r l : Int32}, pI tb n a0 M t → gI tb n g0 M t → (r = 0 ∨ r = 1 ∨ r = 2) → (l = 0 ∨ l = 1) → ¬ (pBd2 tb n k r l M t).1 = 0 → bodyEx tb n k M t (pBd2 tb n k r l M t) := by
    intro M t r l hI hg hrr hll hr
    unfold pBd2 at hr ⊢
    by_cases c : hkI (cd tb n t) < 0
    · rw [if_pos c] at hr; exact absurd rfl hr
    · rw [if_neg c] at hr ⊢
      obtain ⟨h7, h12, -⟩ := hkI_n c
      exact ⟨t, cd tb n t - 7, r, l, pBd3_fx hI hg (by omega) (by omega) hrr hll hr⟩
  have e1 : ∀ {M : mw_S} {t : Nat} {r : Int32}, pI tb n a0 M t → gI tb n g0 M t → (r = 0 ∨ r = 1 ∨ r = 2) → ¬ (pBd1 tb n k r M t).1 = 0 → bodyEx tb n k M t (pBd1 tb n k r M t) := by
    intro M t r hI hg hrr hr
    unfold pBd1 at hr ⊢
    by_cases c : cd tb n t = 29
    · rw [if_pos c] at hr ⊢
      obtain ⟨th, q, r, l, h⟩ := e2 hI.w hg.w hrr (Or.inr rfl) hr
      exact ⟨th, q, r, l, h.w⟩
    · rw [if_neg c] at hr ⊢; exact e2 hI hg hrr (Or.inl rfl) hr
  unfold pBody at hr ⊢
  by_cases c : cd tb n t = 27
  · rw [if_pos c] at hr ⊢
    obtain ⟨th, q, r, l, h⟩ := e1 hI.w hg.w (Or.inl rfl) hr
    exact ⟨th, q, r, l, h.w⟩
  · rw [if_neg c] at hr ⊢
    by_cases c2 : cd tb n t = 28
    · rw [if_pos c2] at hr ⊢
      obtain ⟨th, q, r, l, h⟩ := e1 hI.w hg.w (Or.inr (Or.inl rfl)) hr
      exact ⟨th, q, r, l, h.w⟩
    · rw [if_neg c2] at hr ⊢; exact e1 hI hg (Or.inr (Or.inr rfl)) hr
end BFX
