/-! the frame rule of the small machine: cells that a method isn't told of stay -/
def hdr (S : Nat → Bool) (h : mm_H) : mm_H := (fun a => bif S a then none else h.1 a, h.2)
def hjn (S : Nat → Bool) (h h2 : mm_H) : mm_H := (fun a => bif S a then h.1 a else h2.1 a, h2.2)
theorem mm_Ok.frame {G : mm_G} {y : mm_M} {L : Nat × Nat} {d : Nat} {h : mm_H} {Q : Option Value → mm_H → Prop} {av : List Value} {S : Nat → Bool} (hok : mm_Ok G y L d av (hdr S h) Q) (hS : ∀ a, S a = true → a < h.2.1) : mm_Ok G y L d av h (fun r h1 => ∃ h2, Q r h2 ∧ h1 = hjn S h h2) := by
  intro A hin hfit p e ha hc hk s m args below hf hap hP hx
  have hin' : mm_in G (fun q => A q ∧ S q = false) (hdr S h) := by
    refine ⟨fun q c hq hw => ?_, fun q hq => ⟨hin.2.1 q hq, ?_⟩, fun q hq => hin.2.2 q hq.1⟩
    · cases z : S q with
      | true => have hq : (bif S q then none else h.1 q) = some c := hq; rw [z] at hq; cases hq
      | false => have hq : (bif S q then none else h.1 q) = some c := hq; rw [z] at hq; exact ⟨hin.1 q c hq hw, z⟩
    · cases z : S q with
      | true => exact absurd (hS q z) (Nat.not_lt.mpr hq)
      | false => rfl
  have hhp : mm_hp G h s.heap := hP.2.1
  have hP' : mm_Pc G av (hdr S h) args s := ⟨hP.1, ⟨hhp.1, hhp.2.1, fun a c hac => hhp.2.2 a c (by
    cases z : S a with
    | true => have hac : (bif S a then none else h.1 a) = some c := hac; rw [z] at hac; cases hac
    | false => have hac : (bif S a then none else h.1 a) = some c := hac; rw [z] at hac; exact hac)⟩, hP.2.2⟩
  obtain ⟨t, o, a1, b1, b2, ⟨⟨⟨r, h1, c1, c2, c3, c4, c5⟩, cF⟩, L', bF, bL⟩⟩ := hok (fun q => A q ∧ S q = false) hin' hfit p e ha hc hk s m args below hf hap hP' hx
  refine ⟨t, o, a1, b1, b2, ⟨⟨⟨r, hjn S h h1, c1, ⟨h1, c2, rfl⟩, ⟨c3.1, c3.2.1, fun a c hac => ?_⟩, ⟨fun q c hq hw => ?_, fun q hq => (c4.2.1 q hq).1, hin.2.2⟩, c5⟩, cF.1, fun q q1 q2 => cF.2 q q1 (fun z => q2 z.1)⟩, L', bF, fun q hq => (bL q hq).1⟩⟩
  · have hac : (bif S a then h.1 a else h1.1 a) = some c := hac
    cases z : S a with
    | true =>
      rw [z] at hac
      refine (hhp.2.2 a c hac).kept (cF.2 a ?_ (fun w => by have w2 : S a = false := w.2; rw [z] at w2; cases w2))
      have := hS a z
      rw [hhp.1]; exact this
    | false => rw [z] at hac; exact c3.2.2 a c hac
  · have hq : (bif S q then h.1 q else h1.1 q) = some c := hq
    cases z : S q with
    | true => rw [z] at hq; exact hin.1 q c hq hw
    | false => rw [z] at hq; exact (c4.1 q c hq hw).1
