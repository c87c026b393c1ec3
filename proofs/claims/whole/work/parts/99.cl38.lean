/-! the frame rule once more: cells dropped from the picture stay, and so do the read-only ones that are in it -/
theorem mm_Ok.frame2 {G : mm_G} {y : mm_M} {L : Nat × Nat} {d : Nat} {h : mm_H} {Q : Option Value → mm_H → Prop} {av : List Value} {S R : Nat → Bool} (hok : mm_Ok G y L d av (hdr S h) Q) (hS : ∀ a, S a = true → a < h.2.1) (hR : ∀ a, R a = true → a < h.2.1 ∧ ∀ c, h.1 a = some c → mm_wr c.1 = false) : mm_Ok G y L d av h (fun r h1 => ∃ h2, Q r h2 ∧ h1 = hjn (fun a => S a || R a) h h2 ∧ h.2.1 ≤ h2.2.1 ∧ ∀ a c, h2.1 a = some c → mm_wr c.1 = true → (S a || R a) = false) := by
  intro A hin hfit p e ha hc hk s m args below hf hap hP hx
  have hU : ∀ a, (S a || R a) = true → a < h.2.1 := fun a z => by
    rcases Bool.or_eq_true_iff.mp z with z | z
    · exact hS a z
    · exact (hR a z).1
  have hin' : mm_in G (fun q => A q ∧ (S q || R q) = false) (hdr S h) := by
    refine ⟨fun q c hq hw => ?_, fun q hq => ⟨hin.2.1 q hq, ?_⟩, fun q hq => hin.2.2 q hq.1⟩
    · have hq : (bif S q then none else h.1 q) = some c := hq
      cases z : S q with
      | true => rw [z] at hq; cases hq
      | false =>
        rw [z] at hq
        refine ⟨hin.1 q c hq hw, ?_⟩
        cases w : R q with
        | true => have := (hR q w).2 c hq; rw [hw] at this; cases this
        | false => rw [z]; rfl
    · cases z : (S q || R q) with
      | true => exact absurd (hU q z) (Nat.not_lt.mpr hq)
      | false => rfl
  have hhp : mm_hp G h s.heap := hP.2.1
  have hP' : mm_Pc G av (hdr S h) args s := ⟨hP.1, ⟨hhp.1, hhp.2.1, fun a c hac => hhp.2.2 a c (by
    have hac : (bif S a then none else h.1 a) = some c := hac
    cases z : S a with
    | true => rw [z] at hac; cases hac
    | false => rw [z] at hac; exact hac)⟩, hP.2.2⟩
  obtain ⟨t, o, a1, b1, b2, ⟨⟨⟨r, h1, c1, c2, c3, c4, c5⟩, cF⟩, L', bF, bL⟩⟩ := hok (fun q => A q ∧ (S q || R q) = false) hin' hfit p e ha hc hk s m args below hf hap hP' hx
  refine ⟨t, o, a1, b1, b2, ⟨⟨⟨r, hjn (fun a => S a || R a) h h1, c1, ⟨h1, c2, rfl, ?_, fun a c z w => (c4.1 a c z w).2⟩, ⟨c3.1, c3.2.1, fun a c hac => ?_⟩, ⟨fun q c hq hw => ?_, fun q hq => (c4.2.1 q hq).1, hin.2.2⟩, c5⟩, cF.1, fun q q1 q2 => cF.2 q q1 (fun z => q2 z.1)⟩, L', bF, fun q hq => (bL q hq).1⟩⟩
  · rw [← hhp.1, ← c3.1]; exact cF.1
  · have hac : (bif (S a || R a) then h.1 a else h1.1 a) = some c := hac
    cases z : (S a || R a) with
    | true =>
      rw [z] at hac
      refine (hhp.2.2 a c hac).kept (cF.2 a ?_ (fun w => by have w2 : (S a || R a) = false := w.2; rw [z] at w2; cases w2))
      have := hU a z
      rw [hhp.1]; exact this
    | false => rw [z] at hac; exact c3.2.2 a c hac
  · have hq : (bif (S q || R q) then h.1 q else h1.1 q) = some c := hq
    cases z : (S q || R q) with
    | true => rw [z] at hq; exact hin.1 q c hq hw
    | false => rw [z] at hq; exact (c4.1 q c hq hw).1
