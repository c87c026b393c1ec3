/-! kinds and packs: counts, bounds, what stays -/
section KC
variable {tb : Nat → Nat} {n a0 g0 t a u b g k : Nat} {M0 M : mw_S}
theorem pBd3_cnt {q : Nat} {r l : Int32} (hI : pI tb n a0 M t) (hc : 2 ≤ cd tb n t) (hr : ¬ (pBd3 tb n k q r l M t).1 = 0) : (pBd3 tb n k q r l M t).2.1.1 111 = nI (kg M + 1) ∧ (pBd3 tb n k q r l M t).2.1.1 37 = nI (kd_ M + 1) := by
  have hI3 := pBd3_I (k := k) (q := q) hI hc
  have e4 : (mw_setS (pw tb n (rm_bgh (rm_bnew (if rm_has M q k = true then rm_faulty M 3 (M.1 27) else M) (M.1 37).toNatClampNeg k q) (M.1 111).toNatClampNeg k q (qs tb n t) (M.1 13).toNatClampNeg (rm_has M q k)) t) 47 0).1 37 = nI ((M.1 37).toNatClampNeg + 1) ∧ (mw_setS (pw tb n (rm_bgh (rm_bnew (if rm_has M q k = true then rm_faulty M 3 (M.1 27) else M) (M.1 37).toNatClampNeg k q) (M.1 111).toNatClampNeg k q (qs tb n t) (M.1 13).toNatClampNeg (rm_has M q k)) t) 47 0).1 111 = nI ((M.1 111).toNatClampNeg + 1) := ⟨rfl, rfl⟩
  unfold pBd3 at hr ⊢
  generalize mw_setS (pw tb n (rm_bgh (rm_bnew (if rm_has M q k = true then rm_faulty M 3 (M.1 27) else M) (M.1 37).toNatClampNeg k q) (M.1 111).toNatClampNeg k q (qs tb n t) (M.1 13).toNatClampNeg (rm_has M q k)) t) 47 0 = M3 at hI3 e4 hr ⊢
  have hq1 := qs_le (tb := tb) (n := n) (t + 1)
  have key := kB (M0 := M3) (tl := -1) (a := 0) (u := 0) (kL k q n) hI3 (by omega) 1 ⟨kp.refl M3, Nat.zero_le _, Nat.zero_le _⟩
  have k1 : (pB tb n (pL tb n k q n) M3 (t + 1) 1).2.1.1 111 = nI (kg M + 1) := (key.1.1 111 (by unfold kpS; omega)).trans e4.2
  have k2 : (pB tb n (pL tb n k q n) M3 (t + 1) 1).2.1.1 37 = nI (kd_ M + 1) := (key.1.1 37 (by unfold kpS; omega)).trans e4.1
  unfold pBd4 at hr ⊢
  by_cases c : (pB tb n (pL tb n k q n) M3 (t + 1) 1).1 = -2
  · rw [if_pos c] at hr; exact absurd rfl hr
  · rw [if_neg c]
    show (if rm_has M q k = true then _ else _ : mw_S).1 111 = _ ∧ (if rm_has M q k = true then _ else _ : mw_S).1 37 = _
    by_cases cs : rm_has M q k = true
    · rw [if_pos cs]; exact ⟨k1, k2⟩
    · rw [if_neg cs]; exact ⟨k1, k2⟩
theorem pBody_cnt (hI : pI tb n a0 M t) (hr : ¬ (pBody tb n k M t).1 = 0) : (pBody tb n k M t).2.1.1 111 = nI (kg M + 1) ∧ (pBody tb n k M t).2.1.1 37 = nI (kd_ M + 1) := by
  have e2 : ∀ {M : mw_S} {t : Nat} {r l : Int32}, pI tb n a0 M t → ¬ (pBd2 tb n k r l M t).1 = 0 → (pBd2 tb n k r l M t).2.1.1 111 = nI (kg M + 1) ∧ (pBd2 tb n k r l M t).2.1.1 37 = nI (kd_ M + 1) := by
    intro M t r l hI hr
    unfold pBd2 at hr ⊢
    by_cases c : hkI (cd tb n t) < 0
    · rw [if_pos c] at hr; exact absurd rfl hr
    · rw [if_neg c] at hr ⊢
      obtain ⟨h7, h12, -⟩ := hkI_n c
      exact pBd3_cnt hI (by omega) hr
  have e1 : ∀ {M : mw_S} {t : Nat} {r : Int32}, pI tb n a0 M t → ¬ (pBd1 tb n k r M t).1 = 0 → (pBd1 tb n k r M t).2.1.1 111 = nI (kg M + 1) ∧ (pBd1 tb n k r M t).2.1.1 37 = nI (kd_ M + 1) := by
    intro M t r hI hr
    unfold pBd1 at hr ⊢
    by_cases c : cd tb n t = 29
    · rw [if_pos c] at hr ⊢; exact e2 (M := pw tb n M t) hI.w hr
    · rw [if_neg c] at hr ⊢; exact e2 hI hr
  unfold pBody at hr ⊢
  by_cases c : cd tb n t = 27
  · rw [if_pos c] at hr ⊢; exact e1 (M := pw tb n M t) hI.w hr
  · rw [if_neg c] at hr ⊢
    by_cases c2 : cd tb n t = 28
    · rw [if_pos c2] at hr ⊢; exact e1 (M := pw tb n M t) hI.w hr
    · rw [if_neg c2] at hr ⊢; exact e1 hI hr
theorem gI.body (hI : pI tb n a0 M t) (hg : gI tb n g0 M t) (hr : ¬ (pBody tb n k M t).1 = 0) : gI tb n g0 (pBody tb n k M t).2.1 (pBody tb n k M t).2.2 := by
  obtain ⟨c1, -⟩ := pBody_cnt hI hr
  obtain ⟨-, ⟨-, g2⟩, g3⟩ := (pBody_post hI).resolve_left hr
  have q1 := (qs_lt g3).2.1
  have q2 := qs_le_of (tb := tb) (n := n) g2
  obtain ⟨x1, x2, x3, x4⟩ := hg.c hI.n7
  exact ⟨hg.1, kg M + 1, c1, by omega, by omega⟩
theorem kBs (ha : a ≤ 4000) : ∀ (f : Nat) (M : mw_S) (t : Nat), pI tb n a0 M t → gI tb n g0 M t → n - qs tb n t < f → kbI a u b g k M0 M → kbG a u b g k M0 (pBs tb n k f M t) ∧ (¬ (pBs tb n k f M t).1 = 0 → gI tb n g0 (pBs tb n k f M t).2.1 (pBs tb n k f M t).2.2) := by
  intro f
  induction f with
  | zero => intro M t _ _ hf; omega
  | succ f ih =>
    intro M t hI hg hf h
    have e : pBs tb n k (f + 1) M t = (if cd tb n t = 5 then (1, mw_setV (pw tb n M t) 106 k (M.1 111), t + 1) else if (pBody tb n k M t).1 = 0 then pBody tb n k M t else pBs tb n k f (pBody tb n k M t).2.1 (pBody tb n k M t).2.2) := rfl
    rw [e]
    by_cases c : cd tb n t = 5
    · rw [if_pos c]; exact ⟨⟨h.1.w.sV (by unfold kbV; omega), fun _ => h.2⟩, fun _ => hg.w⟩
    · rw [if_neg c]
      have hb := kBody hI hg ha h
      by_cases z : (pBody tb n k M t).1 = 0
      · rw [if_pos z]; exact ⟨hb, fun y => absurd z y⟩
      · rw [if_neg z]
        obtain ⟨-, ⟨g1, g2⟩, g3⟩ := (pBody_post hI).resolve_left z
        have q1 := (qs_lt g3).2.1
        have q2 := qs_le_of (tb := tb) (n := n) g2
        have q3 := qs_le (tb := tb) (n := n) (pBody tb n k M t).2.2
        exact ih _ _ g1 (hg.body hI z) (by omega) (hb.I z)
/-- the memory behind a kind's name, behind its head, where its bodies begin -/
def kM2 (tb : Nat → Nat) (n k : Nat) (M : mw_S) (t : Nat) : mw_S := rm_knm (pw tb n M t) k (spL (wo tb n (t + 1))) (qs tb n (t + 1))
def kM4 (tb : Nat → Nat) (n k : Nat) (M : mw_S) (t : Nat) : mw_S := pw tb n (pw tb n (kM2 tb n k M t) (t + 1)) (t + 1 + 1)
def kM5 (tb : Nat → Nat) (n k : Nat) (M : mw_S) (t : Nat) : mw_S := rm_kin (kM4 tb n k M t) k (kfi ((kM4 tb n k M t).2.2.2.1 100) (spL (wo tb n (t + 1 + 1 + 1))) k) (spL (wo tb n (t + 1 + 1 + 1))) (qs tb n (t + 1 + 1 + 1))
def kM6 (tb : Nat → Nat) (n k : Nat) (M : mw_S) (t : Nat) : mw_S := pw tb n (pw tb n (kM5 tb n k M t) (t + 1 + 1 + 1)) (t + 1 + 1 + 1 + 1)
/-- the words of a kind's head -/
def kHd (tb : Nat → Nat) (n : Nat) (M : mw_S) (t : Nat) : Prop := cd tb n t = 25 ∧ ¬ M.1 35 = 10 ∧ cd tb n (t + 1) = 2 ∧ cd tb n (t + 1 + 1) = 26 ∧ cd tb n (t + 1 + 1 + 1) = 2 ∧ cd tb n (t + 1 + 1 + 1 + 1) = 4
theorem pKind_ok {k : Nat} (hk : (M.1 3 + M.1 35).toNatClampNeg = k) (h : kHd tb n M t) : pKind tb n M t = pBs tb n k (n + 1) (kM6 tb n k M t) (t + 1 + 1 + 1 + 1 + 1) := by
  obtain ⟨c1, c2, c3, c4, c5, c6⟩ := h
  unfold pKind pK2 pK3 pT
  rw [if_pos c1, if_neg c2, hk, if_pos c3, if_pos c4]
  show (if (1 : Int32) = 0 then _ else pK4 tb n k (kM4 tb n k M t) (t + 1 + 1 + 1)) = _
  rw [if_neg (by decide)]
  unfold pK4 pK5 pT
  rw [if_pos c5, if_pos c6]
  show (if (1 : Int32) = 0 then _ else pBs tb n k (n + 1) (kM6 tb n k M t) (t + 1 + 1 + 1 + 1 + 1)) = _
  rw [if_neg (by decide)]
theorem pKind_no (h : ¬ kHd tb n M t) : (pKind tb n M t).1 = 0 := by
  unfold pKind
  by_cases c1 : cd tb n t = 25
  · rw [if_pos c1]
    by_cases c2 : M.1 35 = 10
    · rw [if_pos c2]
    · rw [if_neg c2]
      unfold pK2
      by_cases c3 : cd tb n (t + 1) = 2
      · rw [if_pos c3]
        unfold pK3 pT
        by_cases c4 : cd tb n (t + 1 + 1) = 26
        · rw [if_pos c4]
          refine (if_neg (show ¬ (1 : Int32) = 0 by decide)).symm ▸ ?_
          unfold pK4
          by_cases c5 : cd tb n (t + 1 + 1 + 1) = 2
          · rw [if_pos c5]
            unfold pK5 pT
            by_cases c6 : cd tb n (t + 1 + 1 + 1 + 1) = 4
            · exact absurd ⟨c1, c2, c3, c4, c5, c6⟩ h
            · rw [if_neg c6]; exact if_pos rfl ▸ rfl
          · rw [if_neg c5]
        · rw [if_neg c4]; exact if_pos rfl ▸ rfl
      · rw [if_neg c3]
  · rw [if_neg c1]
theorem rm_clr_V {i j : Nat} (hj : ¬ j = 8) : (rm_clr M k i).2.2.1 j = M.2.2.1 j := by
  funext l
  show (if j = 8 ∧ 6 * k ≤ l ∧ l < 6 * k + i then 0 else M.2.2.1 j l) = _
  rw [if_neg (fun z => hj z.1)]
theorem pI.knm {w : Int64} {p : Nat} (h : pI tb n a0 M t) : pI tb n a0 (rm_knm M k w p) t := by
  have e : pI tb n a0 (mw_setV (mw_setW M 100 k w) 90 k (nI p)) t := pI.sV (h.same rfl rfl) rfl
  unfold rm_knm
  by_cases c : kfi (M.2.2.2.1 100) w k = none
  · rw [if_pos c]; exact e
  · rw [if_neg c]; exact e.flt
theorem pI.kin {ab : Option Nat} {w : Int64} {p : Nat} (h : pI tb n a0 M t) : pI tb n a0 (rm_kin M k ab w p) t := by
  have eq1_ : pI tb n a0 (if ab = none then rm_faulty (mw_setV M 6 k (oI ab)) 2 (M.1 27) else mw_setV M 6 k (oI ab)) t := by
    by_cases c : ab = none
    · rw [if_pos c]; exact (h.sV rfl).flt
    · rw [if_neg c]; exact h.sV rfl
  unfold rm_kin
  generalize (if ab = none then rm_faulty (mw_setV M 6 k (oI ab)) 2 (M.1 27) else mw_setV M 6 k (oI ab)) = Mq1_ at eq1_ ⊢
  have sq1_ : pI tb n a0 (mw_setW Mq1_ 103 k w) t := eq1_.same rfl rfl
  have sq2_ : pI tb n a0 (mw_setV (mw_setW Mq1_ 103 k w) 91 k (nI p)) t := sq1_.sV rfl
  have sq3_ : pI tb n a0 (mw_setV (mw_setV (mw_setW Mq1_ 103 k w) 91 k (nI p)) 105 k (M.1 111)) t := sq2_.sV rfl
  have sq4_ : pI tb n a0 (mw_setV (mw_setV (mw_setV (mw_setW Mq1_ 103 k w) 91 k (nI p)) 105 k (M.1 111)) 116 k (M.1 13)) t := sq3_.sV rfl
  have sq5_ : pI tb n a0 (mw_setV (mw_setV (mw_setV (mw_setV (mw_setW Mq1_ 103 k w) 91 k (nI p)) 105 k (M.1 111)) 116 k (M.1 13)) 5 k (M.1 34)) t := sq4_.sV rfl
  have eq2_ : pI tb n a0 (mw_setV (mw_setV (mw_setV (mw_setV (mw_setV (mw_setW Mq1_ 103 k w) 91 k (nI p)) 105 k (M.1 111)) 116 k (M.1 13)) 5 k (M.1 34)) 7 k (M.1 19)) t := sq5_.sV rfl
  generalize mw_setV (mw_setV (mw_setV (mw_setV (mw_setV (mw_setW Mq1_ 103 k w) 91 k (nI p)) 105 k (M.1 111)) 116 k (M.1 13)) 5 k (M.1 34)) 7 k (M.1 19) = Mq2_ at eq2_ ⊢
  exact (eq2_.same (M' := rm_clr Mq2_ k 6) rfl (rm_clr_V (by decide))).same2 (fun j _ _ _ _ _ h5 _ _ _ _ => mw_u_ne _ _ h5) rfl
theorem pI.k6 (h : pI tb n a0 M t) : pI tb n a0 (kM6 tb n k M t) (t + 1 + 1 + 1 + 1 + 1) := by
  unfold kM6 kM5 kM4 kM2
  exact (pI.kin (h.w.knm.w.w)).w.w
theorem rm_knm_S {w : Int64} {p j : Nat} (h1 : ¬ j = 31) (h2 : ¬ j = 32) : (rm_knm M k w p).1 j = M.1 j := by
  unfold rm_knm
  by_cases c : kfi (M.2.2.2.1 100) w k = none
  · rw [if_pos c]; rfl
  · rw [if_neg c, rm_faulty_1 _ _ _ h1 h2]; rfl
theorem rm_kin_S {ab : Option Nat} {w : Int64} {p j : Nat} (h1 : ¬ j = 31) (h2 : ¬ j = 32) (h3 : ¬ j = 35) : (rm_kin M k ab w p).1 j = M.1 j := by
  unfold rm_kin
  show mw_u (if ab = none then rm_faulty (mw_setV M 6 k (oI ab)) 2 (M.1 27) else mw_setV M 6 k (oI ab)).1 35 _ j = _
  rw [mw_u_ne _ _ h3]
  by_cases c : ab = none
  · rw [if_pos c, rm_faulty_1 _ _ _ h1 h2]; rfl
  · rw [if_neg c]; rfl
/-- scalars behind a kind's head -/
theorem kM6_S {j : Nat} (hj : ¬ j = 31 ∧ ¬ j = 32 ∧ ¬ j = 35 ∧ ¬ (26 ≤ j ∧ j ≤ 29)) : (kM6 tb n k M t).1 j = M.1 j := by
  have w : ∀ (M : mw_S) (t : Nat), (pw tb n M t).1 j = M.1 j := fun M t => by
    show mw_u (mw_u (mw_u (mw_u M.1 26 _) 27 _) 28 _) 29 _ j = _
    rw [mw_u_ne _ _ (by omega), mw_u_ne _ _ (by omega), mw_u_ne _ _ (by omega), mw_u_ne _ _ (by omega)]
  unfold kM6
  rw [w, w]
  unfold kM5
  rw [rm_kin_S hj.1 hj.2.1 hj.2.2.1]
  unfold kM4
  rw [w, w]
  unfold kM2
  rw [rm_knm_S hj.1 hj.2.1, w]
theorem kM6_35 : (kM6 tb n k M t).1 35 = M.1 35 + 1 := by
  show (kM4 tb n k M t).1 35 + 1 = _
  show (kM2 tb n k M t).1 35 + 1 = _
  unfold kM2
  rw [rm_knm_S (by decide) (by decide)]
  rfl
theorem gI.k6 (h : gI tb n g0 M t) : gI tb n g0 (kM6 tb n k M t) (t + 1 + 1 + 1 + 1 + 1) := by
  obtain ⟨h0, x, h1, h2, h3⟩ := h
  have := qs_le_of (tb := tb) (n := n) (show t ≤ t + 1 + 1 + 1 + 1 + 1 by omega)
  exact ⟨h0, x, (kM6_S (by omega)).trans h1, h2, by omega⟩
/-- names behind a kind's head -/
theorem rm_knm_W {w : Int64} {p : Nat} : (rm_knm M k w p).2.2.2 = (mw_setW M 100 k w).2.2.2 := by
  unfold rm_knm
  by_cases c : kfi (M.2.2.2.1 100) w k = none
  · rw [if_pos c]; rfl
  · rw [if_neg c, rm_faulty_2]; rfl
theorem rm_kin_W {ab : Option Nat} {w : Int64} {p : Nat} : (rm_kin M k ab w p).2.2.2 = (mw_setW M 103 k w).2.2.2 := by
  unfold rm_kin
  show (mw_setW (if ab = none then rm_faulty (mw_setV M 6 k (oI ab)) 2 (M.1 27) else mw_setV M 6 k (oI ab)) 103 k w).2.2.2 = _
  by_cases c : ab = none
  · rw [if_pos c]
    show (mw_u2 (rm_faulty (mw_setV M 6 k (oI ab)) 2 (M.1 27)).2.2.2.1 103 k w, (rm_faulty (mw_setV M 6 k (oI ab)) 2 (M.1 27)).2.2.2.2) = _
    rw [rm_faulty_2]; rfl
  · rw [if_neg c]; rfl
theorem kM6_W : (kM6 tb n k M t).2.2.2 = (mw_setW (mw_setW M 100 k (spL (wo tb n (t + 1)))) 103 k (spL (wo tb n (t + 1 + 1 + 1)))).2.2.2 := by
  show (kM5 tb n k M t).2.2.2 = _
  unfold kM5
  rw [rm_kin_W]
  show (mw_u2 (kM2 tb n k M t).2.2.2.1 103 k _, (kM2 tb n k M t).2.2.2.2) = _
  unfold kM2
  rw [rm_knm_W]
  rfl
theorem pKind_post (hI : pI tb n a0 M t) (hr : ¬ (pKind tb n M t).1 = 0) : kHd tb n M t ∧ (pKind tb n M t).1 = 1 ∧ pG tb n a0 (t + 1) (pKind tb n M t) ∧ qs tb n t < qs tb n (t + 1) := by
  have hh : kHd tb n M t := Classical.not_not.mp (fun z => hr (pKind_no z))
  rw [pKind_ok rfl hh] at hr ⊢
  have hq := qs_le (tb := tb) (n := n) (t + 1 + 1 + 1 + 1 + 1)
  obtain ⟨h1, h2, -⟩ := (pBs_post (n + 1) _ _ hI.k6 (by omega)).resolve_left hr
  exact ⟨hh, h1, h2.mono (by omega), (qs_lt (by have := hh.1; omega)).2.1⟩
theorem pKind_cnt {nk nn : Nat} (hI : pI tb n a0 M t) (hg : gI tb n g0 M t) (h3 : M.1 3 = nI nk) (h35 : M.1 35 = nI nn) (hnk : nk ≤ 40) (hnn : nn ≤ 10) (hr : ¬ (pKind tb n M t).1 = 0) :
    (pKind tb n M t).2.1.1 35 = nI (nn + 1) ∧ nn < 10 ∧ gI tb n g0 (pKind tb n M t).2.1 (pKind tb n M t).2.2 ∧ (pKind tb n M t).2.1.2.2.2 = (mw_setW (mw_setW M 100 (nk + nn) (spL (wo tb n (t + 1)))) 103 (nk + nn) (spL (wo tb n (t + 1 + 1 + 1)))).2.2.2 ∧ (∀ j, kbS j → ¬ j = 35 → (pKind tb n M t).2.1.1 j = M.1 j) ∧ (pKind tb n M t).2.1.2.1 = M.2.1 := by
  have hh := (pKind_post hI hr).1
  have hk : (M.1 3 + M.1 35).toNatClampNeg = nk + nn := by rw [h3, h35, nI_add, nI_clamp (by omega)]
  have hn10 : nn < 10 := by
    rcases Nat.lt_or_ge nn 10 with z | z
    · exact z
    · exact absurd (by rw [h35, show nn = 10 by omega]; decide) hh.2.1
  rw [pKind_ok hk hh] at hr ⊢
  have hq := qs_le (tb := tb) (n := n) (t + 1 + 1 + 1 + 1 + 1)
  obtain ⟨⟨k1, -⟩, k2⟩ := kBs (a := 0) (u := 0) (b := 0) (g := 0) (k := nk + nn) (M0 := kM6 tb n (nk + nn) M t) (by omega) (n + 1) _ _ hI.k6 (hg.k6 (k := nk + nn)) (by omega) ⟨kb.refl _, Nat.zero_le _, Nat.zero_le _, Nat.zero_le _, Nat.zero_le _⟩
  refine ⟨?_, hn10, k2 hr, k1.2.2.1.trans kM6_W, fun j hj h5 => ?_, k1.2.1.trans ?_⟩
  · rw [k1.1 35 (by unfold kbS kpS; omega), kM6_35, h35, nI_1]
  · have := hj
    unfold kbS kpS at this
    rw [k1.1 j hj, kM6_S (by omega)]
  · have f : ∀ (M : mw_S) (f p : Int32), (rm_faulty M f p).2.1 = M.2.1 := fun M f p => by rw [rm_faulty_2]
    show (kM5 tb n (nk + nn) M t).2.1 = _
    have e1 : (kM5 tb n (nk + nn) M t).2.1 = (kM4 tb n (nk + nn) M t).2.1 := by
      unfold kM5 rm_kin
      show (if _ = none then _ else _ : mw_S).2.1 = _
      split
      · rw [f]; rfl
      · rfl
    rw [e1]
    show (kM2 tb n (nk + nn) M t).2.1 = _
    unfold kM2 rm_knm
    split
    · rfl
    · rw [f]; rfl
end KC
