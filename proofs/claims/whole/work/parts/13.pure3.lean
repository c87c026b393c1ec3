def bI (b : Bool) : Int32 := bif b then 1 else 0
/-! the reference's search for what is overridden, along the way up from k to p T -/
def Pth (ab : Nat → Option Nat) (k T : Nat) (p : Nat → Nat) : Prop := ∀ t, t ≤ T → upn ab t k = some (p t)
theorem Pth.of {ab : Nat → Option Nat} {k j : Nat} (h : An ab k j) : ∃ (T : Nat) (p : Nat → Nat), Pth ab k T p ∧ 1 ≤ T ∧ p T = j ∧ p 0 = k := by
  obtain ⟨t, ht⟩ := h
  refine ⟨t + 1, fun s => (upn ab s k).getD 0, fun s hs => ?_, by omega, by show (upn ab (t + 1) k).getD 0 = j; rw [ht]; rfl, rfl⟩
  obtain ⟨x, hx⟩ := upn_down (t + 1) s k j ht hs
  show upn ab s k = some ((upn ab s k).getD 0)
  rw [hx]
  rfl
theorem Pth.up {ab : Nat → Option Nat} {k T t : Nat} {p : Nat → Nat} (h : Pth ab k T p) (ht : t < T) : ab (p t) = some (p (t + 1)) := by
  rw [← upn_succ (h t (by omega))]
  exact h (t + 1) (by omega)
theorem Pth.an {ab : Nat → Option Nat} {k T s t : Nat} {p : Nat → Nat} (h : Pth ab k T p) (hst : s < t) (ht : t ≤ T) : An ab (p s) (p t) := by
  refine ⟨t - s - 1, ?_⟩
  have := upn_add s (t - s) k (p s) (h s (by omega))
  rw [show s + (t - s) = t by omega, h t ht] at this
  rw [show t - s - 1 + 1 = t - s by omega]
  exact this.symm
theorem Pth.le {ab : Nat → Option Nat} {n k T t : Nat} {p : Nat → Nat} (hab : kf_ok ab n) (hk : k < n) (h : Pth ab k T p) (ht : t ≤ T) : p t ≤ k := by
  have := upn_lt hab _ _ _ hk (h t ht)
  omega
theorem Pth.lt {ab : Nat → Option Nat} {n k T s t : Nat} {p : Nat → Nat} (hab : kf_ok ab n) (hk : k < n) (h : Pth ab k T p) (hst : s < t) (ht : t ≤ T) : p t < p s :=
  An.lt hab (Nat.lt_of_le_of_lt (h.le hab hk (by omega)) hk) (h.an hst ht)
theorem Pth.inj {ab : Nat → Option Nat} {n k T s t : Nat} {p : Nat → Nat} (hab : kf_ok ab n) (hk : k < n) (h : Pth ab k T p) (hs : s ≤ T) (ht : t ≤ T) (e : p s = p t) : s = t := by
  rcases Nat.lt_trichotomy s t with q | q | q
  · have := h.lt hab hk q ht; omega
  · exact q
  · have := h.lt hab hk q hs; omega
/-- a kind above k and under p s stands on the way, ahead of s -/
theorem Pth.mid {ab : Nat → Option Nat} {n k T s x : Nat} {p : Nat → Nat} (hab : kf_ok ab n) (hk : k < n) (h : Pth ab k T p) (hs : s ≤ T) (hx : An ab k x) (ha : An ab x (p s)) : ∃ r, 1 ≤ r ∧ r < s ∧ x = p r := by
  obtain ⟨r, hr⟩ := hx
  have hxk := upn_lt hab _ _ _ hk hr
  have hlt := An.lt hab (show x < n by omega) ha
  by_cases h1 : r + 1 < s
  · have := h (r + 1) (by omega)
    rw [hr] at this
    exact ⟨r + 1, by omega, h1, Option.some.inj this⟩
  · exfalso
    have h2 := upn_add s (r + 1 - s) k (p s) (h s hs)
    rw [show s + (r + 1 - s) = r + 1 by omega, hr] at h2
    have h3 := upn_lt hab _ _ _ (Nat.lt_of_le_of_lt (h.le hab hk hs) hk) h2.symm
    omega
def iv (ab : Nat → Option Nat) (E : Nat → Nat → Bool) (k T : Nat) (p : Nat → Nat) (f : Nat → Int32) (t : Nat) : Prop :=
  (∀ s, s ≤ T → f (p s) = 0 ∨ f (p s) = 1) ∧ f (p 0) = 1 ∧ (∀ s, 1 ≤ s → s ≤ T → f (p s) = 1 → OV ab E k (p s)) ∧ ∀ r, r < t → f (p r) = 1 → ∀ s, r < s → s ≤ T → E (p r) (p s) = true → f (p s) = 1
def iw (ab : Nat → Option Nat) (E : Nat → Nat → Bool) (k T : Nat) (p : Nat → Nat) (f : Nat → Int32) (t u : Nat) : Prop :=
  iv ab E k T p f t ∧ f (p t) = 1 ∧ ∀ s, t < s → s ≤ u → E (p t) (p s) = true → f (p s) = 1
section IV
variable {ab : Nat → Option Nat} {E : Nat → Nat → Bool} {n k T t u : Nat} {p : Nat → Nat} {f : Nat → Int32}
theorem iv.enter (h : iv ab E k T p f t) (h1 : f (p t) = 1) : iw ab E k T p f t t := ⟨h, h1, fun s a b => by omega⟩
theorem iv.skip (h : iv ab E k T p f t) (h0 : ¬ f (p t) = 1) : iv ab E k T p f (t + 1) := by
  refine ⟨h.1, h.2.1, h.2.2.1, fun r hr hf => ?_⟩
  by_cases e : r = t
  · subst e; exact absurd hf h0
  · exact h.2.2.2 r (by omega) hf
theorem iw.exit (h : iw ab E k T p f t T) : iv ab E k T p f (t + 1) := by
  refine ⟨h.1.1, h.1.2.1, h.1.2.2.1, fun r hr hf => ?_⟩
  by_cases e : r = t
  · subst e; exact h.2.2
  · exact h.1.2.2.2 r (by omega) hf
theorem i01 {x : Int32} (h : x = 0 ∨ x = 1) (b : Bool) : (x ||| bI b = 0 ∨ x ||| bI b = 1) ∧ (x ||| bI b = 1 ↔ x = 1 ∨ b = true) := by
  rcases h with rfl | rfl <;> cases b <;> decide
theorem iw.step (hab : kf_ok ab n) (hk : k < n) (hp : Pth ab k T p) (hp0 : p 0 = k) (hu : u < T) (htu : t ≤ u) (h : iw ab E k T p f t u) : iw ab E k T p (mw_u f (p (u + 1)) (f (p (u + 1)) ||| bI (E (p t) (p (u + 1))))) t (u + 1) := by
  obtain ⟨⟨a1, a2, a3, a4⟩, b1, b2⟩ := h
  have o01 := i01 (a1 (u + 1) (by omega)) (E (p t) (p (u + 1)))
  have val : ∀ s, s ≤ T → mw_u f (p (u + 1)) (f (p (u + 1)) ||| bI (E (p t) (p (u + 1)))) (p s) = if s = u + 1 then f (p (u + 1)) ||| bI (E (p t) (p (u + 1))) else f (p s) := by
    intro s hs
    unfold mw_u
    by_cases e : s = u + 1
    · rw [if_pos (by rw [e]), if_pos e]
    · rw [if_neg (fun z => e (hp.inj hab hk hs (by omega) z)), if_neg e]
  have mono : ∀ s, s ≤ T → f (p s) = 1 → mw_u f (p (u + 1)) (f (p (u + 1)) ||| bI (E (p t) (p (u + 1)))) (p s) = 1 := by
    intro s hs h1
    rw [val s hs]
    by_cases e : s = u + 1
    · rw [if_pos e]; subst e; exact o01.2.mpr (Or.inl h1)
    · rw [if_neg e]; exact h1
  refine ⟨⟨fun s hs => ?_, mono 0 (by omega) a2, fun s h1 hs hf => ?_, fun r hr hf s hrs hs he => ?_⟩, mono t (by omega) b1, fun s hts hs he => ?_⟩
  · rw [val s hs]
    by_cases e : s = u + 1
    · rw [if_pos e]; exact o01.1
    · rw [if_neg e]; exact a1 s hs
  · rw [val s hs] at hf
    by_cases e : s = u + 1
    · rw [if_pos e] at hf
      subst e
      rcases o01.2.mp hf with q | q
      · exact a3 (u + 1) (by omega) hs q
      · by_cases ht0 : t = 0
        · subst ht0
          rw [hp0] at q
          have := hp.an (s := 0) (t := u + 1) (by omega) hs
          rw [hp0] at this
          exact OV.one this q
        · exact (a3 t (by omega) (by omega) b1).step (hp.an (by omega) hs) q
    · rw [if_neg e] at hf
      exact a3 s h1 hs hf
  · rw [val r (by omega), if_neg (by omega)] at hf
    exact mono s hs (a4 r hr hf s hrs hs he)
  · by_cases e : s = u + 1
    · subst e
      rw [val (u + 1) (by omega), if_pos rfl]
      exact o01.2.mpr (Or.inr he)
    · exact mono s (by omega) (b2 s hts (by omega) he)
theorem iv.fin (hab : kf_ok ab n) (hk : k < n) (hp : Pth ab k T p) (hp0 : p 0 = k) (hT : 1 ≤ T) (h : iv ab E k T p f T) : f (p T) = bI (ovB ab E k (p T)) := by
  obtain ⟨a1, a2, a3, a4⟩ := h
  have key : f (p T) = 1 ↔ OV ab E k (p T) := by
    refine ⟨a3 T hT (Nat.le_refl T), fun ho => ?_⟩
    have := ho (fun z => An ab k z ∧ ∀ s, 1 ≤ s → s ≤ T → z = p s → f (p s) = 1) ?_ ?_
    · exact this.2 T hT (Nat.le_refl T) rfl
    · intro z hz he
      refine ⟨hz, fun s h1 hs e => ?_⟩
      subst e
      refine a4 0 (by omega) a2 s (by omega) hs ?_
      rw [hp0]
      exact he
    · intro x z hx hz he
      refine ⟨hx.1.trans hz, fun s h1 hs e => ?_⟩
      subst e
      obtain ⟨r, r1, r2, rfl⟩ := hp.mid hab hk hs hx.1 hz
      exact a4 r (by omega) (hx.2 r r1 (by omega) rfl) s r2 hs he
  rcases a1 T (Nat.le_refl T) with q | q
  · rw [q]
    cases hb : ovB ab E k (p T) with
    | false => rfl
    | true => rw [key.mpr (ovB_iff.mp hb)] at q; exact absurd q (by decide)
  · rw [q, ovB_iff.mpr (key.mp q)]
    rfl
end IV
