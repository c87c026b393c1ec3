/-! uses and places over a body -/
section UIB
variable {tb : Nat → Nat} {n aL lo a0 g0 t k : Nat} {M : mw_S}
theorem UI.low (h_ : UI tb n 0 0 a0 5000 M t) (hl_ : lo ≤ qs tb n t) (ha_ : ka M ≤ aL) : UI tb n aL lo a0 5000 M t := ⟨⟨hl_, fun y a b => by omega⟩, h_.2⟩
theorem uiBd3 {q : Nat} {r l : Int32} (hI_ : pI tb n a0 M t) (hu_ : UI tb n 0 0 a0 5000 M t) (hc_ : 2 ≤ cd tb n t) (hr_ : ¬ (pBd3 tb n k q r l M t).1 = 0) : UI tb n 0 0 a0 5000 (pBd3 tb n k q r l M t).2.1 (pBd3 tb n k q r l M t).2.2 ∧ ∀ y, ka M ≤ y → y < ka (pBd3 tb n k q r l M t).2.1 → qs tb n t < ((pBd3 tb n k q r l M t).2.1.2.2.1 83 y).toNatClampNeg := by
  have hI3_ := pBd3_I (k := k) (q := q) hI_ hc_
  have hlt_ := (qs_lt hc_).2.1
  have hM1_ : ∀ Mq_ : mw_S, (Mq_ = M ∨ Mq_ = rm_faulty M 3 (M.1 27)) → Mq_.2 = M.2 ∧ ka Mq_ = ka M ∧ ku Mq_ = ku M := by
    intro Mq_ h
    rcases h with h | h
    · subst h; exact ⟨rfl, rfl, rfl⟩
    · subst h
      refine ⟨rm_faulty_2 _ _ _, ?_, ?_⟩
      · unfold ka; rw [rm_faulty_1 _ _ _ (by decide) (by decide)]
      · unfold ku; rw [rm_faulty_1 _ _ _ (by decide) (by decide)]
  have eM1_ := hM1_ (if rm_has M q k = true then rm_faulty M 3 (M.1 27) else M) (by by_cases z : rm_has M q k = true <;> simp [z])
  unfold pBd3 at hr_ ⊢
  generalize (if rm_has M q k = true then rm_faulty M 3 (M.1 27) else M) = Mq_ at hr_ hI3_ eM1_ ⊢
  obtain ⟨m2_, mka_, mku_⟩ := eM1_
  have u3_ : UI tb n 0 0 a0 5000 (mw_setS (pw tb n (rm_bgh (rm_bnew Mq_ (M.1 37).toNatClampNeg k q) (M.1 111).toNatClampNeg k q (qs tb n t) (M.1 13).toNatClampNeg (rm_has M q k)) t) 47 0) (t + 1) := by
    have w_ : ∀ j i, (j = 14 ∨ j = 15 ∨ 42 ≤ j ∧ j ≤ 46 ∨ 81 ≤ j ∧ j ≤ 84) → (mw_setS (pw tb n (rm_bgh (rm_bnew Mq_ (M.1 37).toNatClampNeg k q) (M.1 111).toNatClampNeg k q (qs tb n t) (M.1 13).toNatClampNeg (rm_has M q k)) t) 47 0).2.2.1 j i = M.2.2.1 j i := by
      intro j i hj
      show (rm_bgh (rm_bnew Mq_ (kd_ M) k q) (kg M) k q (qs tb n t) (ka M) (rm_has M q k)).2.2.1 j i = _
      unfold rm_bgh rm_bnew
      show (mw_setV _ 114 _ _).2.2.1 j i = _
      rw [setV_ne (by omega), setV_ne (by omega), setV_ne (by omega), setV_ne (by omega), setV_ne (by omega)]
      show (mw_setV _ 40 _ _).2.2.1 j i = _
      rw [setV_ne (by omega), setV_ne (by omega), setV_ne (by omega), m2_]
    exact hu_.same mka_ mku_ (fun j i hj => w_ j i (by omega)) (fun i _ => w_ 15 i (by omega)) (by omega)
  have k3_ : ka (mw_setS (pw tb n (rm_bgh (rm_bnew Mq_ (M.1 37).toNatClampNeg k q) (M.1 111).toNatClampNeg k q (qs tb n t) (M.1 13).toNatClampNeg (rm_has M q k)) t) 47 0) = ka M := mka_
  generalize mw_setS (pw tb n (rm_bgh (rm_bnew Mq_ (M.1 37).toNatClampNeg k q) (M.1 111).toNatClampNeg k q (qs tb n t) (M.1 13).toNatClampNeg (rm_has M q k)) t) 47 0 = M3_ at hr_ hI3_ u3_ k3_ ⊢
  have hq1_ := qs_le (tb := tb) (n := n) (t + 1)
  have ua_ := uiB (deep := 1) (uiL (k := k) (q := q) n) hI3_ (by omega) u3_
  have ub_ := uiB (deep := 1) (uiL (k := k) (q := q) n) hI3_ (by omega) (u3_.low (aL := ka M) (lo := qs tb n (t + 1)) (Nat.le_refl _) (by omega))
  generalize pB tb n (pL tb n k q n) M3_ (t + 1) 1 = z_ at hr_ ua_ ub_ ⊢
  have hz_ : ¬ z_.1 = -2 := fun e => hr_ (by unfold pBd4; rw [if_pos e])
  have eM_ : (pBd4 k q (M.1 111).toNatClampNeg r l (rm_has M q k) z_) = (1, (if rm_has M q k = true then rm_bge z_.2.1 (kg M) z_.1 r l else mw_setV (rm_bge (rm_body z_.2.1 (6 * k + q) r l z_.1 (z_.2.1.1 47)) (kg M) z_.1 r l) 97 (6 * k + q) (nI (kg M))), z_.2.2) := by unfold pBd4; rw [if_neg hz_]; rfl
  rw [eM_] at hr_ ⊢
  have x_ : ∀ j i, (j = 14 ∨ j = 15 ∨ 42 ≤ j ∧ j ≤ 46 ∨ 81 ≤ j ∧ j ≤ 84) → (if rm_has M q k = true then rm_bge z_.2.1 (kg M) z_.1 r l else mw_setV (rm_bge (rm_body z_.2.1 (6 * k + q) r l z_.1 (z_.2.1.1 47)) (kg M) z_.1 r l) 97 (6 * k + q) (nI (kg M))).2.2.1 j i = z_.2.1.2.2.1 j i := by
    intro j i hj
    by_cases y : rm_has M q k = true
    · rw [if_pos y]
      unfold rm_bge
      rw [setV_ne (by omega), setV_ne (by omega), setV_ne (by omega), setV_ne (by omega), setV_ne (by omega)]
    · rw [if_neg y]
      unfold rm_bge rm_body
      rw [setV_ne (by omega), setV_ne (by omega), setV_ne (by omega), setV_ne (by omega), setV_ne (by omega), setV_ne (by omega), setV_ne (by omega), setV_ne (by omega), setV_ne (by omega), setV_ne (by omega), setV_ne (by omega)]
  have xk_ : ka (if rm_has M q k = true then rm_bge z_.2.1 (kg M) z_.1 r l else mw_setV (rm_bge (rm_body z_.2.1 (6 * k + q) r l z_.1 (z_.2.1.1 47)) (kg M) z_.1 r l) 97 (6 * k + q) (nI (kg M))) = ka z_.2.1 ∧ ku (if rm_has M q k = true then rm_bge z_.2.1 (kg M) z_.1 r l else mw_setV (rm_bge (rm_body z_.2.1 (6 * k + q) r l z_.1 (z_.2.1.1 47)) (kg M) z_.1 r l) 97 (6 * k + q) (nI (kg M))) = ku z_.2.1 := by
    by_cases y : rm_has M q k = true
    · rw [if_pos y]; exact ⟨rfl, rfl⟩
    · rw [if_neg y]; exact ⟨rfl, rfl⟩
  generalize (if rm_has M q k = true then rm_bge z_.2.1 (kg M) z_.1 r l else mw_setV (rm_bge (rm_body z_.2.1 (6 * k + q) r l z_.1 (z_.2.1.1 47)) (kg M) z_.1 r l) 97 (6 * k + q) (nI (kg M))) = Mz_ at hr_ x_ xk_ ⊢
  refine ⟨(ua_ hz_).same xk_.1 xk_.2 (fun j i hj => x_ j i (by omega)) (fun i _ => x_ 15 i (by omega)) (Nat.le_refl _), fun y h1_ h2_ => ?_⟩
  have h2_ : y < ka Mz_ := h2_
  have h3_ := (ub_ hz_).1.2 y h1_ (by omega)
  show qs tb n t < (Mz_.2.2.1 83 y).toNatClampNeg
  rw [x_ 83 y (by omega)]
  omega
/-- a body with all that is known of it -/
def bodyAll (tb : Nat → Nat) (n a0 k : Nat) (M : mw_S) (t : Nat) (z : pr_T) : Prop := ∃ th q r l, bodyFx tb n k M z.2.1 t z.2.2 th q r l ∧ UI tb n 0 0 a0 5000 z.2.1 z.2.2 ∧ ∀ y, ka M ≤ y → y < ka z.2.1 → qs tb n th < (z.2.1.2.2.1 83 y).toNatClampNeg
theorem bodyAll.w {z : pr_T} (h_ : bodyAll tb n a0 k (pw tb n M t) (t + 1) z) : bodyAll tb n a0 k M t z := by
  obtain ⟨th, q, r, l, h1_, h2_⟩ := h_
  exact ⟨th, q, r, l, h1_.w, h2_⟩
theorem pBody_all (hI_ : pI tb n a0 M t) (hg_ : gI tb n g0 M t) (hu_ : UI tb n 0 0 a0 5000 M t) (hr_ : ¬ (pBody tb n k M t).1 = 0) : bodyAll tb n a0 k M t (pBody tb n k M t) := by
  have e2_ : ∀ {M : mw_S} {t : Nat} {r l : Int32}, pI tb n a0 M t → gI tb n g0 M t → UI tb n 0 0 a0 5000 M t → (r = 0 ∨ r = 1 ∨ r = 2) → (l = 0 ∨ l = 1) → ¬ (pBd2 tb n k r l M t).1 = 0 → bodyAll tb n a0 k M t (pBd2 tb n k r l M t) := by
    intro M t r l hI_ hg_ hu_ hrr_ hll_ hr_
    unfold pBd2 at hr_ ⊢
    by_cases c : hkI (cd tb n t) < 0
    · rw [if_pos c] at hr_; exact absurd rfl hr_
    · rw [if_neg c] at hr_ ⊢
      obtain ⟨h7_, h12_, -⟩ := hkI_n c
      obtain ⟨u1_, u2_⟩ := uiBd3 hI_ hu_ (by omega) hr_
      exact ⟨t, cd tb n t - 7, r, l, pBd3_fx hI_ hg_ (by omega) (by omega) hrr_ hll_ hr_, u1_, u2_⟩
  have e1_ : ∀ {M : mw_S} {t : Nat} {r : Int32}, pI tb n a0 M t → gI tb n g0 M t → UI tb n 0 0 a0 5000 M t → (r = 0 ∨ r = 1 ∨ r = 2) → ¬ (pBd1 tb n k r M t).1 = 0 → bodyAll tb n a0 k M t (pBd1 tb n k r M t) := by
    intro M t r hI_ hg_ hu_ hrr_ hr_
    unfold pBd1 at hr_ ⊢
    by_cases c : cd tb n t = 29
    · rw [if_pos c] at hr_ ⊢; exact (e2_ hI_.w hg_.w hu_.w hrr_ (Or.inr rfl) hr_).w
    · rw [if_neg c] at hr_ ⊢; exact e2_ hI_ hg_ hu_ hrr_ (Or.inl rfl) hr_
  unfold pBody at hr_ ⊢
  by_cases c : cd tb n t = 27
  · rw [if_pos c] at hr_ ⊢; exact (e1_ hI_.w hg_.w hu_.w (Or.inl rfl) hr_).w
  · rw [if_neg c] at hr_ ⊢
    by_cases c2 : cd tb n t = 28
    · rw [if_pos c2] at hr_ ⊢; exact (e1_ hI_.w hg_.w hu_.w (Or.inr (Or.inl rfl)) hr_).w
    · rw [if_neg c2] at hr_ ⊢; exact e1_ hI_ hg_ hu_ (Or.inr (Or.inr rfl)) hr_
end UIB
/-! the least of a set of faults: by place, then 5 ahead of 4 -/
def rkN (f : Nat) : Nat := if f = 5 then 4 else if f = 4 then 5 else f
def MinF (P : Nat → Nat → Prop) (fp : fp_T) : Prop := (fp.1 = 0 ∧ ∀ p f, ¬ P p f) ∨ ∃ p f, fp = (nI f, nI p) ∧ 1 ≤ f ∧ f ≤ 7 ∧ p < 2 ^ 31 ∧ P p f ∧ ∀ p' f', P p' f' → p < p' ∨ (p = p' ∧ rkN f ≤ rkN f')
theorem MinF.ext {P Q : Nat → Nat → Prop} {fp : fp_T} (h : MinF P fp) (he : ∀ p f, P p f ↔ Q p f) : MinF Q fp := by
  have : P = Q := funext fun p => funext fun f => propext (he p f)
  rw [← this]
  exact h
theorem sp_rank_N : ∀ f, f ≤ 7 → sp_rank (nI f) = nI (rkN f) ∧ rkN f ≤ 7 := by decide +kernel
theorem MinF.add {P Q : Nat → Nat → Prop} {fp : fp_T} {p f : Nat} (h : MinF P fp) (hf : 1 ≤ f ∧ f ≤ 7) (hp : p < 2 ^ 31) (hQ : ∀ p' f', Q p' f' ↔ P p' f' ∨ (p' = p ∧ f' = f)) : MinF Q (flt fp (nI f) (nI p)) := by
  unfold flt
  rcases h with ⟨h1, h2⟩ | ⟨p0, f0, rfl, a1, a2, a3, a4, a5⟩
  · rw [if_pos h1]
    refine Or.inr ⟨p, f, rfl, hf.1, hf.2, hp, (hQ p f).mpr (Or.inr ⟨rfl, rfl⟩), fun p' f' h => ?_⟩
    rcases (hQ p' f').mp h with z | ⟨rfl, rfl⟩
    · exact absurd z (h2 p' f')
    · exact Or.inr ⟨rfl, Nat.le_refl _⟩
  · have n0 : ¬ nI f0 = 0 := nI_ne (b := 0) (by omega) (by omega) (by omega)
    have hmem : Q p0 f0 := (hQ p0 f0).mpr (Or.inl a4)
    show MinF Q (if nI f0 = 0 then (nI f, nI p) else if nI p < nI p0 then (nI f, nI p) else if nI p = nI p0 then (if sp_rank (nI f0) ≤ sp_rank (nI f) then (nI f0, nI p0) else (nI f, nI p)) else (nI f0, nI p0))
    rw [if_neg n0]
    have new : (p < p0 ∨ (p = p0 ∧ rkN f ≤ rkN f0)) → MinF Q (nI f, nI p) := by
      intro hn
      refine Or.inr ⟨p, f, rfl, hf.1, hf.2, hp, (hQ p f).mpr (Or.inr ⟨rfl, rfl⟩), fun p' f' h => ?_⟩
      rcases (hQ p' f').mp h with z | ⟨rfl, rfl⟩
      · have := a5 p' f' z; omega
      · exact Or.inr ⟨rfl, Nat.le_refl _⟩
    have old : (p0 < p ∨ (p0 = p ∧ rkN f0 ≤ rkN f)) → MinF Q (nI f0, nI p0) := by
      intro hn
      refine Or.inr ⟨p0, f0, rfl, a1, a2, a3, hmem, fun p' f' h => ?_⟩
      rcases (hQ p' f').mp h with z | ⟨rfl, rfl⟩
      · exact a5 p' f' z
      · omega
    by_cases c1 : nI p < nI p0
    · rw [if_pos c1]; exact new (Or.inl ((nI_ltI hp a3).mp c1))
    · rw [if_neg c1]
      have c1' : p0 ≤ p := Nat.not_lt.mp (fun z => c1 ((nI_ltI hp a3).mpr z))
      by_cases c2 : nI p = nI p0
      · rw [if_pos c2]
        have e := (nI_eq hp a3).mp c2
        obtain ⟨r1, r2⟩ := sp_rank_N f0 a2
        obtain ⟨r3, r4⟩ := sp_rank_N f hf.2
        rw [r1, r3]
        by_cases c3 : nI (rkN f0) ≤ nI (rkN f)
        · rw [if_pos c3]; exact old (Or.inr ⟨e.symm, (nI_leI (by omega) (by omega)).mp c3⟩)
        · rw [if_neg c3]
          refine new (Or.inr ⟨e, ?_⟩)
          have := Nat.not_le.mp (fun z => c3 ((nI_leI (by omega) (by omega)).mpr z))
          omega
      · rw [if_neg c2]
        exact old (Or.inl (by
          have : ¬ p = p0 := fun e => c2 (by rw [e])
          omega))
/-- two least ones are one -/
theorem MinF.uniq {P : Nat → Nat → Prop} {p f p' f' : Nat} (h : P p f) (h' : P p' f') (a : ∀ x y, P x y → p < x ∨ (p = x ∧ rkN f ≤ rkN y)) (b : ∀ x y, P x y → p' < x ∨ (p' = x ∧ rkN f' ≤ rkN y)) (hf : f ≤ 7) (hf' : f' ≤ 7) : p = p' ∧ f = f' := by
  have h1 := a p' f' h'
  have h2 := b p f h
  have e : p = p' := by omega
  refine ⟨e, ?_⟩
  have h3 : rkN f = rkN f' := by omega
  have inj : ∀ x, x ≤ 7 → ∀ y, y ≤ 7 → rkN x = rkN y → x = y := by decide +kernel
  exact inj f hf f' hf' h3
