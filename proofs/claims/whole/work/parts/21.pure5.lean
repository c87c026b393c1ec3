/-! an act of the reference, as functions of its memory; the fuel is the ticks that are left -/
theorem An.kf {ab : Nat → Option Nat} {P : Nat → Bool} {n : Nat} (hab : kf_ok ab n) (hn : n ≤ 63) : ∀ (f : Nat) (c : Option Nat) (r : Nat), kf_lt f c → kf_lt n c → kfind ab P c = some r → ∃ x, c = some x ∧ (x = r ∨ An ab x r) := by
  intro f
  induction f with
  | zero =>
    intro c r h1 h2 h
    cases c with
    | none => cases h
    | some x => exact absurd h1 (Nat.not_lt_zero x)
  | succ f ih =>
    intro c r h1 h2 h
    cases c with
    | none => cases h
    | some x =>
      have h1 : x < f + 1 := h1
      have h2 : x < n := h2
      refine ⟨x, rfl, ?_⟩
      rw [kfind_some hab hn h2] at h
      cases hP : P x with
      | true =>
        rw [hP] at h
        cases h
        exact Or.inl rfl
      | false =>
        rw [hP] at h
        have h : kfind ab P (ab x) = some r := h
        cases hx : ab x with
        | none => rw [hx] at h; cases h
        | some z =>
          rw [hx] at h
          have hz := hab x z h2 hx
          obtain ⟨z', e, hz'⟩ := ih (some z) r (show z < f by omega) (show z < n by omega) h
          cases e
          rcases hz' with rfl | hz'
          · exact Or.inr (An.one hx)
          · exact Or.inr ((An.one hx).trans hz')
/-- at or above -/
def Ae (ab : Nat → Option Nat) (k j : Nat) : Prop := k = j ∨ An ab k j
theorem Ae.trans {ab : Nat → Option Nat} {k x u : Nat} (h1 : Ae ab k x) (h2 : Ae ab x u) : Ae ab k u := by
  rcases h1 with rfl | h1
  · exact h2
  · rcases h2 with rfl | h2
    · exact Or.inr h1
    · exact Or.inr (h1.trans h2)
theorem Ae.up {ab : Nat → Option Nat} {n : Nat} {P : Nat → Bool} (hab : kf_ok ab n) (hn : n ≤ 63) {k r : Nat} (hk : k < n) (h : kfind ab P (ab k) = some r) : Ae ab k r ∧ P r = true ∧ r < n := by
  have hl : kf_lt n (ab k) := by
    cases hx : ab k with
    | none => trivial
    | some z => exact Nat.lt_trans (hab k z hk hx) hk
  obtain ⟨x, hx, hr⟩ := An.kf hab hn n _ _ hl hl h
  obtain ⟨hP, hr2, -⟩ := kfind_sat hab hn n _ _ hl hl h
  refine ⟨?_, hP, hr2⟩
  rcases hr with rfl | hr
  · exact Or.inr (An.one hx)
  · exact Or.inr ((An.one hx).trans hr)
theorem Ae.at {ab : Nat → Option Nat} {n : Nat} {P : Nat → Bool} (hab : kf_ok ab n) (hn : n ≤ 63) {k r : Nat} (hk : k < n) (h : kfind ab P (some k) = some r) : Ae ab k r ∧ P r = true ∧ r < n := by
  obtain ⟨x, hx, hr⟩ := An.kf hab hn n (some k) _ hk hk h
  obtain ⟨hP, hr2, -⟩ := kfind_sat hab hn n (some k) _ hk hk h
  cases hx
  exact ⟨hr, hP, hr2⟩
theorem kfind_hit {ab : Nat → Option Nat} {P : Nat → Bool} {n : Nat} (hab : kf_ok ab n) (hn : n ≤ 63) {j : Nat} (hP : P j = true) : ∀ (f k : Nat), k < f → k < n → Ae ab k j → ∃ r, kfind ab P (some k) = some r := by
  intro f
  induction f with
  | zero => intro k h; exact absurd h (Nat.not_lt_zero k)
  | succ f ih =>
    intro k h1 h2 h
    rw [kfind_some hab hn h2]
    cases hk : P k with
    | true => exact ⟨k, rfl⟩
    | false =>
      rcases h with rfl | h
      · rw [hP] at hk; cases hk
      · obtain ⟨x, hx, hxj⟩ := h.cases
        have := hab k x h2 hx
        rw [hx]
        exact ih x (by omega) (by omega) hxj
noncomputable section RN
def rn_fnd (M : mw_S) (ab : Nat → Option Nat) (k q : Nat) (c : Option Nat) : Option Nat := kfind ab (fun x => rm_has M q x && (Nat.beq x k || rm_sees M q k x)) c
def rn_cho (M : mw_S) (ab : Nat → Option Nat) (j q k : Nat) : Option Nat := kfind ab (fun x => Nat.beq x j || (rm_has M q x && ovB ab (rm_E M q) x j)) (some k)
abbrev rn_F : Type := mw_S → Int32 → Nat → Nat → Int32 × mw_S
def rn_n (M : mw_S) (x : Nat) : Int32 := if M.2.2.1 15 x = -1 then M.1 62 else M.2.2.1 15 x
def rn_app (M : mw_S) : Nat := (M.1 61).toNatClampNeg
def rn_K (M : mw_S) : Nat := (M.2.2.1 49 (rn_app M)).toNatClampNeg
def rm_ent (M : mw_S) (k q : Nat) : mw_S :=
  mw_setS (mw_setS (mw_setV (mw_setV (mw_setV M 69 (M.1 68).toNatClampNeg (nI k)) 70 (M.1 68).toNatClampNeg (nI q)) 71 (M.1 68).toNatClampNeg (M.1 65)) 68 (M.1 68 + 1)) 65 (M.1 65 + 1)
def rnB (F : rn_F) (M : mw_S) (k q : Nat) : Int32 × mw_S :=
  if M.1 65 = 12 then (3, M) else
  ((F (rm_ent M k q) (M.2.2.1 11 (6 * k + q)) k q).1, mw_setS (F (rm_ent M k q) (M.2.2.1 11 (6 * k + q)) k q).2 65 ((F (rm_ent M k q) (M.2.2.1 11 (6 * k + q)) k q).2.1 65 - 1))
def rnU (F : rn_F) (M : mw_S) (o : Option Nat) (q : Nat) : Int32 × mw_S := match o with
  | none => (0, M)
  | some j => rnB F M j q
def rnM (M : mw_S) (w x : Int32) : Int32 × mw_S :=
  if w = 4 then (if M.2.2.1 51 (rn_app M) + x ≤ M.2.2.1 50 (rn_app M) then (0, mw_setW (mw_setV M 51 (rn_app M) (M.2.2.1 51 (rn_app M) + x)) 53 1 (M.2.2.2.1 53 1 + x.toInt64)) else (1, mw_setS M 64 1001))
  else if w = 5 then (if x ≤ M.2.2.1 51 (rn_app M) then (0, mw_setW (mw_setV M 51 (rn_app M) (M.2.2.1 51 (rn_app M) - x)) 53 2 (M.2.2.2.1 53 2 + x.toInt64)) else (1, mw_setS M 64 1000))
  else (if M.2.2.1 52 (rn_app M) + x ≤ 100000 then (0, mw_setW (mw_setV M 52 (rn_app M) (M.2.2.1 52 (rn_app M) + x)) 53 4 (M.2.2.2.1 53 4 + x.toInt64)) else (1, mw_setS M 64 1002))
def rnT (F : rn_F) (r : Int32 × mw_S) (x k q : Nat) : Int32 × mw_S := if r.1 = 1 then F r.2 (r.2.2.2.1 17 x) k q else r
def rnS (ab : Nat → Option Nat) (F : rn_F) (M : mw_S) (x k q : Nat) : Int32 × mw_S :=
  if M.2.2.1 14 x = 1 then rnU F M (rn_fnd M ab k q (ab k)) q
  else if M.2.2.1 14 x = 2 then rnU F M ((rn_fnd M ab k (rn_n M x).toNatClampNeg (some k)).bind (fun j => rn_cho M ab j (rn_n M x).toNatClampNeg (rn_K M))) (rn_n M x).toNatClampNeg
  else if M.2.2.1 14 x = 3 then (0, mw_setS (mw_setV M 73 (M.1 72).toNatClampNeg (rn_n M x)) 72 (M.1 72 + 1))
  else if M.2.2.1 14 x = 4 then rnM M 4 (rn_n M x)
  else if M.2.2.1 14 x = 5 then rnM M 5 (rn_n M x)
  else if M.2.2.1 14 x = 6 then rnM M 6 (rn_n M x)
  else if M.2.2.1 14 x = 7 then (1, mw_setS M 64 (rn_n M x))
  else if M.2.2.1 14 x = 8 then (if M.1 63 = 0 then (1, mw_setS M 64 (rn_n M x + 2000)) else (2, mw_setS M 64 (rn_n M x)))
  else if M.2.2.1 14 x = 9 then F M (if M.1 62 < rn_n M x then M.2.2.1 16 x else M.2.2.1 17 x) k q
  else rnT F (F M (M.2.2.1 16 x) k q) x k q
def rnN (F : rn_F) (r : Int32 × mw_S) (x k q : Nat) : Int32 × mw_S := if r.1 = 0 then F r.2 (r.2.2.2.1 18 x) k q else r
def rnA (ab : Nat → Option Nat) : Nat → rn_F
  | 0, M, x, _, _ => if x < 0 then (0, M) else (3, M)
  | n + 1, M, x, k, q => if x < 0 then (0, M) else if M.1 67 = 400 then (3, M) else rnN (rnA ab n) (rnS ab (rnA ab n) (mw_setS M 67 (M.1 67 + 1)) x.toNatClampNeg k q) x.toNatClampNeg k q
end RN
/-- what an act leaves as it is -/
def rn_same (M M' : mw_S) : Prop :=
  (∀ j, ¬ j = 64 → ¬ j = 67 → ¬ j = 68 → ¬ j = 72 → M'.1 j = M.1 j) ∧ M'.2.1 = M.2.1 ∧
  (∀ j i, ¬ j = 69 → ¬ j = 70 → ¬ j = 71 → ¬ j = 73 → (¬ j = 51 ∧ ¬ j = 52 ∨ ¬ i = rn_app M) → M'.2.2.1 j i = M.2.2.1 j i) ∧
  (∀ j i, (¬ j = 53 ∨ ¬ i = 1 ∧ ¬ i = 2 ∧ ¬ i = 4) → M'.2.2.2.1 j i = M.2.2.2.1 j i) ∧ M'.2.2.2.2 = M.2.2.2.2
theorem rn_same.refl (M : mw_S) : rn_same M M := ⟨fun _ _ _ _ _ => rfl, rfl, fun _ _ _ _ _ _ _ => rfl, fun _ _ _ => rfl, rfl⟩
theorem rn_same.app {M M' : mw_S} (h : rn_same M M') : rn_app M' = rn_app M := by
  unfold rn_app
  rw [h.1 61 (by decide) (by decide) (by decide) (by decide)]
theorem rn_same.trans {M M' M'' : mw_S} (h : rn_same M M') (h' : rn_same M' M'') : rn_same M M'' := by
  refine ⟨fun j a b c d => (h'.1 j a b c d).trans (h.1 j a b c d), h'.2.1.trans h.2.1, fun j i a b c d e => (h'.2.2.1 j i a b c d ?_).trans (h.2.2.1 j i a b c d e), fun j i e => (h'.2.2.2.1 j i e).trans (h.2.2.2.1 j i e), h'.2.2.2.2.trans h.2.2.2.2⟩
  rw [h.app]
  exact e
/-- links of actions: all of one body -/
def rm_lk (na : Nat) (oK oQ : Nat → Nat) (k q : Nat) (v : Int32) : Prop := v = -1 ∨ ∃ y, y < na ∧ v = nI y ∧ oK y = k ∧ oQ y = q
def rm_A (M : mw_S) (nk na : Nat) (ab : Nat → Option Nat) (oK oQ : Nat → Nat) : Prop :=
  na ≤ 4000 ∧
  (∀ x, x < na → (oK x < nk ∧ oQ x < 6 ∧ rm_has M (oQ x) (oK x) = true) ∧ (∃ w, 1 ≤ w ∧ w ≤ 10 ∧ M.2.2.1 14 x = nI w) ∧ (M.2.2.1 15 x = -1 ∨ ∃ v, v ≤ 999 ∧ M.2.2.1 15 x = nI v) ∧
    rm_lk na oK oQ (oK x) (oQ x) (M.2.2.1 16 x) ∧ rm_lk na oK oQ (oK x) (oQ x) (M.2.2.1 17 x) ∧ rm_lk na oK oQ (oK x) (oQ x) (M.2.2.1 18 x) ∧
    (M.2.2.1 14 x = 1 → ∃ j, rn_fnd M ab (oK x) (oQ x) (ab (oK x)) = some j) ∧
    (M.2.2.1 14 x = 2 → ∃ c, c < 6 ∧ M.2.2.1 15 x = nI c ∧ ∃ j, rn_fnd M ab (oK x) c (some (oK x)) = some j)) ∧
  ∀ k q, k < nk → q < 6 → rm_has M q k = true → rm_lk na oK oQ k q (M.2.2.1 11 (6 * k + q))
/-- what stands still while an act runs, with the apparatus's kind and number -/
def rn_G (M : mw_S) (nk na : Nat) (ab : Nat → Option Nat) (oK oQ : Nat → Nat) (app K : Nat) : Prop :=
  rm_T M nk ab ∧ rm_A M nk na ab oK oQ ∧ (M.1 61 = nI app ∧ app < 20) ∧ (M.2.2.1 49 app = nI K ∧ K < nk) ∧ (∃ a, a ≤ 999 ∧ M.1 62 = nI a) ∧ ∃ z, z ≤ 10000 ∧ M.2.2.1 50 app = nI z
theorem rn_same.V {M M' : mw_S} (h : rn_same M M') {j i : Nat} (hj : Nat.ble j 50 = true) : M'.2.2.1 j i = M.2.2.1 j i := by
  have := Nat.le_of_ble_eq_true hj
  exact h.2.2.1 j i (by omega) (by omega) (by omega) (by omega) (Or.inl ⟨by omega, by omega⟩)
theorem rn_same.has {M M' : mw_S} (h : rn_same M M') (q k : Nat) : rm_has M' q k = rm_has M q k := by
  unfold rm_has
  rw [h.V rfl]
theorem rn_same.sees {M M' : mw_S} (h : rn_same M M') (q k u : Nat) : rm_sees M' q k u = rm_sees M q k u := by
  unfold rm_sees
  rw [h.V rfl, h.V rfl, h.V rfl]
theorem rn_same.fnd {M M' : mw_S} (h : rn_same M M') : rn_fnd M' = rn_fnd M := by
  funext ab k q c
  unfold rn_fnd
  congr 1
  funext x
  rw [h.has, h.sees]
theorem rn_same.E {M M' : mw_S} (h : rn_same M M') (q : Nat) : rm_E M' q = rm_E M q := by
  funext x z
  unfold rm_E
  rw [h.has, h.sees]
theorem rn_same.cho {M M' : mw_S} (h : rn_same M M') : rn_cho M' = rn_cho M := by
  funext ab j q k
  unfold rn_cho
  congr 1
  funext x
  rw [h.has, h.E]
theorem rn_G.same {M M' : mw_S} {nk na app K : Nat} {ab : Nat → Option Nat} {oK oQ : Nat → Nat} (h : rn_same M M') (g : rn_G M nk na ab oK oQ app K) : rn_G M' nk na ab oK oQ app K := by
  obtain ⟨⟨t1, t2, t3⟩, ⟨a1, a2, a3⟩, ⟨b1, b2⟩, ⟨c1, c2⟩, ⟨d0, d1, d2⟩, ⟨e0, e1, e2⟩⟩ := g
  refine ⟨⟨t1, t2, fun i hi => by rw [h.V rfl]; exact t3 i hi⟩, ⟨a1, fun x hx => ?_, fun k q hk hq hh => ?_⟩, ⟨?_, b2⟩, ⟨by rw [h.V rfl]; exact c1, c2⟩, ⟨d0, d1, ?_⟩, ⟨e0, e1, by rw [h.V rfl]; exact e2⟩⟩
  · rw [h.fnd, h.has, h.V rfl, h.V rfl, h.V rfl, h.V rfl, h.V rfl]
    exact a2 x hx
  · rw [h.V rfl]
    rw [h.has] at hh
    exact a3 k q hk hq hh
  · rw [h.1 61 (by decide) (by decide) (by decide) (by decide)]
    exact b1
  · rw [h.1 62 (by decide) (by decide) (by decide) (by decide)]
    exact d2
/-- counters of an act under way -/
def rn_I (M : mw_S) (e t u : Nat) : Prop := (M.1 67 = nI t ∧ t ≤ 400) ∧ (M.1 65 = nI u ∧ u ≤ 12) ∧ (∃ r, M.1 68 = nI r ∧ r ≤ t + e) ∧ (∃ s, M.1 72 = nI s ∧ s ≤ t) ∧ e ≤ 6 ∧
  (∃ w, M.2.2.1 51 (rn_app M) = nI w ∧ nI w ≤ M.2.2.1 50 (rn_app M) ∧ w ≤ 10000) ∧ ∃ w, M.2.2.1 52 (rn_app M) = nI w ∧ w ≤ 100000
def rn_P (M : mw_S) (e t u : Nat) (r : Int32 × mw_S) : Prop := rn_same M r.2 ∧ (∃ t', t ≤ t' ∧ rn_I r.2 e t' u) ∧ (r.1 = 0 ∨ r.1 = 1 ∨ r.1 = 2 ∨ r.1 = 3)
