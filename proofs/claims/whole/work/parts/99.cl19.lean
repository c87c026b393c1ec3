/-! an act under way: what the parts of a run leave -/
/-- each body's row of actions -/
def cvA_ (M : mw_S) (nk na : Nat) : Prop := ∀ k q, k < nk → q < 6 → rm_has M q k = true → ∃ s e, e ≤ na ∧ CV M k q 1 (M.2.2.1 11 (6 * k + q)) s e
def bHy (M : mw_S) (ab : Nat → Option Nat) (nk K k q : Nat) : Prop := k < nk ∧ q < 6 ∧ rm_has M q k = true ∧ Ae ab K k
def rHy (ad : Nat → Nat → Nat) (ab : Nat → Option Nat) (nk na : Nat) (oK oQ : Nat → Nat) (app K : Nat) (B : rB_T) (e f : Nat) (M : mw_S) (C : cw_C) (t u T : Nat) : Prop := rn_G M nk na ab oK oQ app K ∧ rn_I M e t u ∧ 400 ≤ t + f ∧ cvA_ M nk na ∧ rX ad C M ab nk app K B T ∧ cN C 0 = na
section RUP
variable {G : mm_G} {L : Nat × Nat} {h h0 h1 h2 : mm_H} {ad : Nat → Nat → Nat} {C C1 C2 : cw_C} {M M1 : mw_S} {ab : Nat → Option Nat} {nk na app K T T1 d e f t u v i j k q : Nat} {oK oQ : Nat → Nat} {B : rB_T} {x n : Int32} {res : Int32 × mw_S} {r : Option Value}
theorem rO.tr (z : rO ad h0 h1 C1 ab nk app K B res r h2) (e : h1.2 = h.2) (hF : rF app C C1) : rO ad h0 h C ab nk app K B res r h2 := by
  obtain ⟨C', T, a, b, c, d, e', f, g⟩ := z
  exact ⟨C', T, a, b.trans e, c, d, e', hF.trans f, g⟩
theorem rX_65 (h : rX ad C M ab nk app K B T) : rX ad C (mw_setS M 65 x) ab nk app K B T := ⟨h.1.nf rfl rfl (nM_setS rfl), h.2.1.nd rfl (nM_setS rfl), h.2.2.1.nd rfl (nM_setS rfl), h.2.2.2.nd rfl (nM_setS rfl)⟩
theorem gb_of (h : M1.2.2.1 97 (6 * k + q) = M.2.2.1 97 (6 * k + q)) : gb M1 k q = gb M k q := by unfold gb; rw [h]
theorem cvA_.of (h : cvA_ M nk na) (hv : ∀ j i, ¬ j = 69 → ¬ j = 70 → ¬ j = 71 → ¬ j = 73 → ¬ j = 51 → ¬ j = 52 → M1.2.2.1 j i = M.2.2.1 j i) : cvA_ M1 nk na := by
  intro k q hk hq hh
  have e8 : rm_has M1 q k = rm_has M q k := by unfold rm_has; rw [hv 8 _ (by decide) (by decide) (by decide) (by decide) (by decide) (by decide)]
  rw [e8] at hh
  obtain ⟨s, e, he, hc⟩ := h k q hk hq hh
  refine ⟨s, e, he, ?_⟩
  rw [hv 11 _ (by decide) (by decide) (by decide) (by decide) (by decide) (by decide)]
  exact hc.same (fun j i a b c => hv j i (by omega) (by omega) (by omega) (by omega) (by omega) (by omega))
theorem rn_same.V2 (h : rn_same M M1) : ∀ j i, ¬ j = 69 → ¬ j = 70 → ¬ j = 71 → ¬ j = 73 → ¬ j = 51 → ¬ j = 52 → M1.2.2.1 j i = M.2.2.1 j i := fun j i a b c d e f => h.2.2.1 j i a b c d (Or.inl ⟨e, f⟩)
theorem ent_V2 : ∀ j i, ¬ j = 69 → ¬ j = 70 → ¬ j = 71 → ¬ j = 73 → ¬ j = 51 → ¬ j = 52 → (rm_ent M k q).2.2.1 j i = M.2.2.1 j i := fun j i a b c d e f => rn_ent_V ⟨a, b, c⟩
theorem bHy.of (h : bHy M ab nk K k q) (hv : ∀ j i, ¬ j = 69 → ¬ j = 70 → ¬ j = 71 → ¬ j = 73 → ¬ j = 51 → ¬ j = 52 → M1.2.2.1 j i = M.2.2.1 j i) : bHy M1 ab nk K k q := ⟨h.1, h.2.1, by
  have e8 : rm_has M1 q k = rm_has M q k := by unfold rm_has; rw [hv 8 _ (by decide) (by decide) (by decide) (by decide) (by decide) (by decide)]
  rw [e8]; exact h.2.2.1, h.2.2.2⟩
theorem gb_v2 (hv : ∀ j i, ¬ j = 69 → ¬ j = 70 → ¬ j = 71 → ¬ j = 73 → ¬ j = 51 → ¬ j = 52 → M1.2.2.1 j i = M.2.2.1 j i) : gb M1 k q = gb M k q := gb_of (hv 97 _ (by decide) (by decide) (by decide) (by decide) (by decide) (by decide))
/-- a body's own fields -/
theorem bfct (hE : ckE ad C M ab nk) (hk : k < nk) (hq : q < 6) (hh : rm_has M q k = true) : gb M k q < cN C 1 ∧ cR C 1 (gb M k q) 0 = some (ad 4 k) ∧ cI C 1 (gb M k q) 1 = nI q ∧ lkR ad (cN C 0) (M.2.2.1 11 (6 * k + q)) (cR C 1 (gb M k q) 5) := by
  obtain ⟨g, g1, g2, g3, g4, g5, g6, g7, g8⟩ := hE.2.2.2.2.1 k hk q hq hh
  have hkg := hE.2.2.2.1
  have eg : gb M k q = g := by unfold gb; rw [g1, nI_clamp (by omega)]
  have n1 : g < cN C 1 := by rw [hkg.1]; exact g2
  obtain ⟨b1, b2, b3, b4, b5, b6, b7, b8⟩ := hE.2.2.1 g n1
  rw [eg]
  exact ⟨n1, by rw [b1, g3], by rw [b3, g4], by rw [g7]; exact b7⟩
theorem rF.N (h : rF app C C1) (hf : ruF i 99 = true) : cN C1 i = cN C i := by
  have := congrFun h.1 i
  have e := congrArg (fun z => z.2.2.2) this
  have e : (bif ruF i 99 then (C1 i).2.2.2 else 0) = (bif ruF i 99 then (C i).2.2.2 else 0) := e
  rw [hf] at e
  exact e
theorem nD_I {p : Nat → Nat → Bool} (h : nD p C1 = nD p C) {f i j : Nat} (hf : p f j = true) : cI C1 f i j = cI C f i j := by
  have e := congrArg (fun z => z.1 i j) (congrFun h f)
  have e : (bif p f j then (C1 f).1 i j else 0) = (bif p f j then (C f).1 i j else 0) := e
  rw [hf] at e
  exact e
theorem nD_R {p : Nat → Nat → Bool} (h : nD p C1 = nD p C) {f i j : Nat} (hf : p f j = true) : cR C1 f i j = cR C f i j := by
  have e := congrArg (fun z => z.2.2.1 i j) (congrFun h f)
  have e : (bif p f j then (C1 f).2.2.1 i j else none) = (bif p f j then (C f).2.2.1 i j else none) := e
  rw [hf] at e
  exact e
theorem wy_0 : wy 0 = 0 := rfl
theorem wy_2 {y : Int32} (hy : y = 0 ∨ y = 1 ∨ y = 2 ∨ y = 3) : (wy y = 2 ↔ y = 1) ∧ (wy y = 0 ↔ y = 0) ∧ (wy y = 1 ↔ y = 2) ∧ (wy y = 3 ↔ y = 3) := by
  rcases hy with rfl | rfl | rfl | rfl <;> decide
/-- the number of an action -/
theorem rX.n8 (h : rX ad C M ab nk app K B T) : 0 < cN C 8 := h.2.1.1.1
theorem rX.n9 (h : rX ad C M ab nk app K B T) : app < cN C 9 := h.2.1.1.2
theorem rX.r11 (h : rX ad C M ab nk app K B T) : cR C 8 0 11 = some (ad 9 app) := h.2.1.2.2.1
/-- say -/
theorem sn_R {s : Nat} (hX : rX ad C M ab nk app K B T) (hT : T ≤ t) (ht : M.1 67 = nI t) (ht4 : t ≤ 400) (hs : M.1 72 = nI s) (hs4 : s < 400) (hC : cw ad h0 C h) : mm_Ok G mX8_sayNumber L d [.ref (ad 8 0), .int x] h (rO ad h0 h C ab nk app K B (0, mw_setS (mw_setV M 73 (M.1 72).toNatClampNeg x) 72 (M.1 72 + 1))) := by
  refine mm_Ok.post (sn_ok hX.n8 hX.2.2.1.1.2 hX.2.1.2.1.2.2.2 (hX.2.2.1.2.1.2.1.trans hs) hs4 hC) (fun r h1 z => ?_)
  exact ⟨_, t, z.1, z.2.1, z.2.2, ⟨ht, ht4⟩, (rX_say hX hs hs4).more hT, rF_15.trans (rF_8 rfl), fun y => by rcases y with y | y <;> exact absurd y (by show ¬ (0 : Int32) = _; decide)⟩
/-- fail -/
theorem fw_R (hX : rX ad C M ab nk app K B T) (hT : T ≤ t) (ht : M.1 67 = nI t) (ht4 : t ≤ 400) (hC : cw ad h0 C h) : mm_Ok G mX8_failWith L d [.ref (ad 8 0), .int x] h (rO ad h0 h C ab nk app K B (1, mw_setS M 64 x)) := by
  refine mm_Ok.post (fw_ok hX.n8 hC) (fun r h1 z => ?_)
  exact ⟨_, t, z.1, z.2.1, z.2.2, ⟨ht, ht4⟩, (rX_fail hX).more hT, rF_8 rfl, fun _ => cI_sI_e⟩
theorem rw_R (hX : rX ad C M ab nk app K B T) (hT : T ≤ t) (ht : M.1 67 = nI t) (ht4 : t ≤ 400) (hC : cw ad h0 C h) : mm_Ok G mX8_refuseWith L (d + 1) [.ref (ad 8 0), .int x] h (rO ad h0 h C ab nk app K B (if M.1 63 = 0 then (1, mw_setS M 64 (x + 2000)) else (2, mw_setS M 64 x))) := by
  have h13 : cI C 8 0 13 = M.1 63 := hX.2.1.2.2.2.2.1.2
  by_cases e : M.1 63 = 0
  · rw [if_pos e]
    refine mm_Ok.post (rw_0 hX.n8 (h13.trans e) hC) (fun r h1 z => ?_)
    exact ⟨_, t, z.1, z.2.1, z.2.2, ⟨ht, ht4⟩, (rX_fail hX).more hT, rF_8 rfl, fun _ => cI_sI_e⟩
  · rw [if_neg e]
    refine mm_Ok.post (rw_1 hX.n8 (fun z => e (h13.symm.trans z)) hC) (fun r h1 z => ?_)
    exact ⟨_, t, z.1, z.2.1, z.2.2, ⟨ht, ht4⟩, (rX_fail hX).more hT, rF_8 rfl, fun _ => cI_sI_e⟩
/-- add, take, warm -/
theorem aw_R (hX : rX ad C M ab nk app K B T) (hT : T + 1 ≤ t) (ht : M.1 67 = nI t) (ht4 : t ≤ 400) (hv : v ≤ 999) (ha : rn_app M = app) (hw : ∃ w, M.2.2.1 52 app = nI w ∧ w ≤ 100000) (hC : cw ad h0 C h) : mm_Ok G mX8_addWater L (d + 1) [.ref (ad 8 0), .int (nI v)] h (rO ad h0 h C ab nk app K B (rnM M 4 (nI v))) := by
  obtain ⟨w, w1, w2⟩ := hw
  have c2 : cI C 9 app 2 = M.2.2.1 50 app := hX.2.1.2.2.2.2.2
  have c3 : cI C 9 app 3 = M.2.2.1 51 app := hX.2.2.2.1.1
  have c4 : cI C 9 app 4 = M.2.2.1 52 app := hX.2.2.2.1.2
  have w3 : ¬ 100000 < cI C 9 app 4 + 0 := by
    rw [Int32.add_zero, c4, w1]
    exact fun z => absurd ((nI_ltI (a := 100000) (by decide) (by omega)).mp z) (by omega)
  unfold rnM
  rw [if_pos rfl, ha]
  by_cases e : M.2.2.1 51 app + nI v ≤ M.2.2.1 50 app
  · rw [if_pos e]
    have hr : ¬ rmI C app (nI v) 0 = 0 := by unfold rmI; rw [c2, c3, if_neg (Int32.not_lt.mpr e), if_neg w3]; decide
    refine mm_Ok.post (aw_yes hX.n8 hX.n9 hX.r11 hr hC) (fun r h1 z => ?_)
    exact ⟨_, t, z.1, z.2.1, z.2.2, ⟨ht, ht4⟩, (rX_add hX hv).more hT, (rF_9 rfl).trans (rF_8 rfl), fun y => by rcases y with y | y <;> exact absurd y (by show ¬ (0 : Int32) = _; decide)⟩
  · rw [if_neg e]
    have hr : rmI C app (nI v) 0 = 0 := by unfold rmI; rw [c2, c3, if_pos (Int32.not_le.mp e)]
    refine mm_Ok.post (aw_no hX.n8 hX.n9 hX.r11 hr hC) (fun r h1 z => ?_)
    exact ⟨_, t, z.1, z.2.1, z.2.2, ⟨ht, ht4⟩, (rX_fail hX).more (by omega), rF_8 rfl, fun _ => cI_sI_e⟩
theorem tw_R (hX : rX ad C M ab nk app K B T) (hT : T + 1 ≤ t) (ht : M.1 67 = nI t) (ht4 : t ≤ 400) (hv : v ≤ 999) (ha : rn_app M = app) (hC : cw ad h0 C h) : mm_Ok G mX8_takeWater L (d + 1) [.ref (ad 8 0), .int (nI v)] h (rO ad h0 h C ab nk app K B (rnM M 5 (nI v))) := by
  have c3 : cI C 9 app 3 = M.2.2.1 51 app := hX.2.2.2.1.1
  unfold rnM
  rw [if_neg (by decide), if_pos rfl, ha]
  by_cases e : nI v ≤ M.2.2.1 51 app
  · rw [if_pos e]
    refine mm_Ok.post (tw_yes hX.n8 hX.n9 hX.r11 (by rw [c3]; exact e) hC) (fun r h1 z => ?_)
    exact ⟨_, t, z.1, z.2.1, z.2.2, ⟨ht, ht4⟩, (rX_take hX hv).more hT, (rF_9 rfl).trans (rF_8 rfl), fun y => by rcases y with y | y <;> exact absurd y (by show ¬ (0 : Int32) = _; decide)⟩
  · rw [if_neg e]
    refine mm_Ok.post (tw_no hX.n8 hX.n9 hX.r11 (by rw [c3]; exact e) hC) (fun r h1 z => ?_)
    exact ⟨_, t, z.1, z.2.1, z.2.2, ⟨ht, ht4⟩, (rX_fail hX).more (by omega), rF_8 rfl, fun _ => cI_sI_e⟩
theorem ah_R (hX : rX ad C M ab nk app K B T) (hT : T + 1 ≤ t) (ht : M.1 67 = nI t) (ht4 : t ≤ 400) (hv : v ≤ 999) (ha : rn_app M = app) (hw : ∃ w, M.2.2.1 51 app = nI w ∧ nI w ≤ M.2.2.1 50 app) (hC : cw ad h0 C h) : mm_Ok G mX8_addHeat L (d + 1) [.ref (ad 8 0), .int (nI v)] h (rO ad h0 h C ab nk app K B (rnM M 6 (nI v))) := by
  obtain ⟨w, w1, w2⟩ := hw
  have c2 : cI C 9 app 2 = M.2.2.1 50 app := hX.2.1.2.2.2.2.2
  have c3 : cI C 9 app 3 = M.2.2.1 51 app := hX.2.2.2.1.1
  have c4 : cI C 9 app 4 = M.2.2.1 52 app := hX.2.2.2.1.2
  have w3 : ¬ cI C 9 app 2 < cI C 9 app 3 + 0 := by
    rw [Int32.add_zero, c3, c2, w1]
    exact Int32.not_lt.mpr w2
  unfold rnM
  rw [if_neg (by decide), if_neg (by decide), ha]
  by_cases e : M.2.2.1 52 app + nI v ≤ 100000
  · rw [if_pos e]
    have hr : ¬ rmI C app 0 (nI v) = 0 := by unfold rmI; rw [if_neg w3, c4, if_neg (Int32.not_lt.mpr e)]; decide
    refine mm_Ok.post (ah_yes hX.n8 hX.n9 hX.r11 hr hC) (fun r h1 z => ?_)
    exact ⟨_, t, z.1, z.2.1, z.2.2, ⟨ht, ht4⟩, (rX_warm hX hv).more hT, (rF_9 rfl).trans (rF_8 rfl), fun y => by rcases y with y | y <;> exact absurd y (by show ¬ (0 : Int32) = _; decide)⟩
  · rw [if_neg e]
    have hr : rmI C app 0 (nI v) = 0 := by unfold rmI; rw [if_neg w3, c4, if_pos (Int32.not_le.mp e)]
    refine mm_Ok.post (ah_no hX.n8 hX.n9 hX.r11 hr hC) (fun r h1 z => ?_)
    exact ⟨_, t, z.1, z.2.1, z.2.2, ⟨ht, ht4⟩, (rX_fail hX).more (by omega), rF_8 rfl, fun _ => cI_sI_e⟩
end RUP
