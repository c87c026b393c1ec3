/-! the template: what an act's way is -/
section FLW
variable {G : mm_G} {L : Nat × Nat} {h h0 h1 : mm_H} {ad : Nat → Nat → Nat} {C C1 C2 : cw_C} {M M1 : mw_S} {ab : Nat → Option Nat} {nk na app K T T1 d e f t u v i j k q n : Nat} {oK oQ : Nat → Nat} {B : rB_T} {x y : Int32} {F : rn_F} {r w : Int32 × mw_S}
/-- nothing refuses outside the check -/
def nR (r : Int32 × mw_S) : Prop := ¬ r.1 = 2 ∧ r.2.1 63 = 0
def nRF (F : rn_F) : Prop := ∀ (M : mw_S) (x : Int32) (k q : Nat), M.1 63 = 0 → nR (F M x k q)
theorem nR_B (hF : nRF F) (h : M.1 63 = 0) : nR (rnB F M k q) := by
  unfold rnB
  by_cases c : M.1 65 = 12
  · rw [if_pos c]; exact ⟨by show ¬ (3 : Int32) = 2; decide, h⟩
  · rw [if_neg c]
    have := hF (rm_ent M k q) (M.2.2.1 11 (6 * k + q)) k q h
    exact ⟨this.1, this.2⟩
theorem nR_U (hF : nRF F) (h : M.1 63 = 0) {o : Option Nat} : nR (rnU F M o q) := by
  cases o with
  | none => exact ⟨by show ¬ (0 : Int32) = 2; decide, h⟩
  | some j => exact nR_B hF h
theorem nR_M (h : M.1 63 = 0) : nR (rnM M y x) := by
  have z : ∀ (c : Prop) [Decidable c] (a b : Int32 × mw_S), nR a → nR b → nR (if c then a else b) := fun c _ a b ha hb => by split <;> assumption
  have p0 : ∀ M', M'.1 63 = 0 → nR ((0 : Int32), M') := fun M' h' => ⟨by show ¬ (0 : Int32) = 2; decide, h'⟩
  have p1 : ∀ M', M'.1 63 = 0 → nR ((1 : Int32), M') := fun M' h' => ⟨by show ¬ (1 : Int32) = 2; decide, h'⟩
  unfold rnM
  exact z _ _ _ (z _ _ _ (p0 _ h) (p1 _ h)) (z _ _ _ (z _ _ _ (p0 _ h) (p1 _ h)) (z _ _ _ (p0 _ h) (p1 _ h)))
theorem nR_S (hF : nRF F) (h : M.1 63 = 0) : nR (rnS ab F M i k q) := by
  have z : ∀ (c : Prop) [Decidable c] (a b : Int32 × mw_S), nR a → nR b → nR (if c then a else b) := fun c _ a b ha hb => by split <;> assumption
  have p0 : ∀ M', M'.1 63 = 0 → nR ((0 : Int32), M') := fun M' h' => ⟨by show ¬ (0 : Int32) = 2; decide, h'⟩
  have p1 : ∀ M', M'.1 63 = 0 → nR ((1 : Int32), M') := fun M' h' => ⟨by show ¬ (1 : Int32) = 2; decide, h'⟩
  unfold rnS
  refine z _ _ _ (nR_U hF h) (z _ _ _ (nR_U hF h) (z _ _ _ (p0 _ h) (z _ _ _ (nR_M h) (z _ _ _ (nR_M h) (z _ _ _ (nR_M h) (z _ _ _ (p1 _ h) (z _ _ _ ?_ (z _ _ _ (hF _ _ _ _ h) ?_))))))))
  · rw [if_pos h]; exact p1 _ h
  · unfold rnT
    exact z _ _ _ (hF _ _ _ _ (hF _ _ _ _ h).2) (hF _ _ _ _ h)
theorem nR_A : ∀ f, nRF (rnA ab f) := by
  intro f
  induction f with
  | zero =>
    intro M x k q h
    show nR (if x < 0 then (0, M) else (3, M))
    split
    · exact ⟨by show ¬ (0 : Int32) = 2; decide, h⟩
    · exact ⟨by show ¬ (3 : Int32) = 2; decide, h⟩
  | succ f ih =>
    intro M x k q h
    show nR (if x < 0 then (0, M) else if M.1 67 = 400 then (3, M) else rnN (rnA ab f) (rnS ab (rnA ab f) (mw_setS M 67 (M.1 67 + 1)) x.toNatClampNeg k q) x.toNatClampNeg k q)
    split
    · exact ⟨by show ¬ (0 : Int32) = 2; decide, h⟩
    · split
      · exact ⟨by show ¬ (3 : Int32) = 2; decide, h⟩
      · have hS : nR (rnS ab (rnA ab f) (mw_setS M 67 (M.1 67 + 1)) x.toNatClampNeg k q) := nR_S ih h
        unfold rnN
        split
        · exact ih _ _ _ _ hS.2
        · exact hS
theorem nR_H (h : M.1 63 = 0) : nR (rnH ab M q) := nR_U (nR_A 400) h
theorem nR_W : ∀ (f q : Nat) (r : Int32 × mw_S), nR r → nR (rnW ab f q r) := by
  intro f
  induction f with
  | zero => intro q r h; exact h
  | succ f ih =>
    intro q r h
    show nR (if r.1 = 0 then rnW ab f (q + 1) (rnH ab r.2 q) else r)
    split
    · exact ih _ _ (nR_H h.2)
    · exact h
/-- how the act ended, the number that is told, the memory then -/
noncomputable def fl70 (ab : Nat → Option Nat) (w : Int32 × mw_S) : Int32 × Int32 × mw_S := if w.1 = 3 then (3, w.2.1 64, w.2) else (if (rnH ab (mw_setS w.2 65 0) 5).1 = 3 then 3 else if w.1 = 0 then (rnH ab (mw_setS w.2 65 0) 5).1 else w.1, if (rnH ab (mw_setS w.2 65 0) 5).1 = 0 then w.2.1 64 else if w.1 = 0 then (rnH ab (mw_setS w.2 65 0) 5).2.1 64 else w.2.1 64, (rnH ab (mw_setS w.2 65 0) 5).2)
noncomputable def fl0 (ab : Nat → Option Nat) (r : Int32 × mw_S) : Int32 × Int32 × mw_S := if r.1 = 2 then (2, r.2.1 64, mw_setS r.2 63 0) else fl70 ab (rnW ab 4 1 (r.1, mw_setS r.2 63 0))
theorem actC_fl : sp_actC ab n app w = rnE (fl70 ab w).2.2 n app (fl70 ab w).1 (fl70 ab w).2.1 := by
  unfold sp_actC fl70
  by_cases c : w.1 = 3
  · rw [if_pos c, if_pos c]
  · rw [if_neg c, if_neg c]; rfl
theorem actR_fl (hr : r.1 = 0 ∨ r.1 = 1 ∨ r.1 = 2 ∨ r.1 = 3) : sp_actR ab n app r = if (fl0 ab r).1 = 2 then (1, mw_setS (rm_rst (fl0 ab r).2.2 n app app) 66 (fl0 ab r).2.1) else rnE (fl0 ab r).2.2 n app (fl0 ab r).1 (fl0 ab r).2.1 := by
  unfold sp_actR fl0
  by_cases c : r.1 = 2
  · rw [if_pos c, if_pos c, if_pos rfl]
  · rw [if_neg c, if_neg c, actC_fl, if_neg]
    have h1 : nR (rnW ab 4 1 (r.1, mw_setS r.2 63 0)) := nR_W 4 1 _ ⟨c, rfl⟩
    have h2 : nR (rnH ab (mw_setS (rnW ab 4 1 (r.1, mw_setS r.2 63 0)).2 65 0) 5) := nR_H h1.2
    unfold fl70
    split
    · show ¬ (3 : Int32) = 2; decide
    · show ¬ (if _ = _ then _ else _) = _
      split
      · decide
      · split
        · exact h2.1
        · exact h1.1
theorem rX_0 (h : rX ad C M ab nk app K B T) : rX ad (cw_sI C 8 0 0 x) M ab nk app K B T := ⟨h.1.nf rfl (nC_sI rfl) rfl, h.2.1.nd (nD_sI rfl) rfl, h.2.2.1.nd (nD_sI rfl) rfl, h.2.2.2.nd (nD_sI rfl) rfl⟩
theorem rX_63 (h : rX ad C M ab nk app K B T) : rX ad (cw_sI C 8 0 13 x) (mw_setS M 63 x) ab nk app K B T := by
  refine ⟨h.1.nf rfl (nC_sI rfl) (nM_setS rfl), ?_, h.2.2.1.nd (nD_sI rfl) (nM_setS rfl), h.2.2.2.nd (nD_sI rfl) (nM_setS rfl)⟩
  obtain ⟨a, b, c, d, ⟨e1, e2⟩, f⟩ := h.2.1
  have q9 : cw_sI C 8 0 13 x 9 = C 9 := cw_sI_o (by decide)
  have q8 : ∀ j, cR (cw_sI C 8 0 13 x) 8 0 j = cR C 8 0 j := fun j => by unfold cR; rw [cw_sI_f]
  refine ⟨by rw [cw_sI_N, cw_sI_N]; exact a, by rw [q8, q8, q8, q8]; exact b, by rw [q8]; exact c, by rw [cR_o q9]; exact d, ⟨by rw [cI_sI_n (by decide)]; exact e1, by rw [cI_sI_e]; rfl⟩, by rw [cI_o q9]; exact f⟩
/-- one of the template's six -/
theorem rh_ok (H : rHy ad ab nk na oK oQ app K B e 400 M C t 0 t) (he : e + 1 ≤ 6) (h0K : Ae ab K 0) (hq : q < 6) (h00 : rm_has M q 0 = true) (hd : 200 ≤ d) (hC : cw ad h0 C h) : mm_Ok G mX8_runChosen L d [.ref (ad 8 0), .ref (ad 1 (gb M 0 q)), .int 0] h (rO ad h0 h C ab nk app K B (rnH ab M q)) := by
  have hK : K < nk := H.1.2.2.2.1.2
  have hKe : rn_K M = K := by
    unfold rn_K rn_app
    rw [H.1.2.2.1.1, nI_clamp (by have := H.1.2.2.1.2; omega), H.1.2.2.2.1.1, nI_clamp (by have := H.1.1.2.1; omega)]
  have H1 : rHy ad ab nk na oK oQ app K B (e + 1) 400 M C t 0 t := ⟨H.1, H.2.1.more (by omega) he, H.2.2.1, H.2.2.2⟩
  have hb : bHy M ab nk K 0 q := ⟨Nat.lt_of_le_of_lt (Nat.zero_le _) hK, hq, h00, h0K⟩
  have z := rch_ok (G := G) (L := L) (d := d) (d' := d - 3) (h := h) ra_ok_ H1 (Nat.le_refl t) H.2.1.room hb rfl (by omega) (by omega) hC
  unfold rnH
  rw [hKe]
  exact z
theorem rHy.next {res : Int32 × mw_S} (H : rHy ad ab nk na oK oQ app K B e 400 M C t 0 t) (hP : rn_P M (e + 1) t 0 res) (w1 : res.2.1 67 = nI T) (w2 : T ≤ 400) (x2 : rX ad C2 res.2 ab nk app K B T) (f2 : rF app C C2) : rHy ad ab nk na oK oQ app K B (e + 1) 400 res.2 C2 T 0 T := by
  obtain ⟨hsm, ⟨t6, ht6, hI6⟩, -⟩ := hP
  have et : t6 = T := (nI_eq (by have := hI6.1.2; omega) (by omega)).mp (hI6.1.1.symm.trans w1)
  subst et
  exact ⟨H.1.same hsm, hI6, by omega, H.2.2.2.1.of hsm.V2, x2, (f2.N rfl).trans H.2.2.2.2.2⟩
end FLW
