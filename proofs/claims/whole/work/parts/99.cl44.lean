/-! the class and the reference in one heap -/
noncomputable def clS (ad : Nat → Nat → Nat) (C : cw_C) (a : Nat) : Bool := @decide (∃ f i, f < 22 ∧ i < cN C f ∧ a = ad f i) (Classical.propDecidable _)
noncomputable def roS (h : mm_H) (a : Nat) : Bool := @decide (a < h.2.1 ∧ ∃ c, h.1 a = some c ∧ mm_wr c.1 = false) (Classical.propDecidable _)
noncomputable def noS (ad : Nat → Nat → Nat) (C : cw_C) (h : mm_H) (a : Nat) : Bool := @decide (a < h.2.1 ∧ clS ad C a = false ∧ roS h a = false) (Classical.propDecidable _)
theorem clS_iff {ad : Nat → Nat → Nat} {C : cw_C} {a : Nat} : clS ad C a = true ↔ ∃ f i, f < 22 ∧ i < cN C f ∧ a = ad f i := @decide_eq_true_iff _ (Classical.propDecidable _)
theorem roS_iff {h : mm_H} {a : Nat} : roS h a = true ↔ a < h.2.1 ∧ ∃ c, h.1 a = some c ∧ mm_wr c.1 = false := @decide_eq_true_iff _ (Classical.propDecidable _)
theorem noS_iff {ad : Nat → Nat → Nat} {C : cw_C} {h : mm_H} {a : Nat} : noS ad C h a = true ↔ a < h.2.1 ∧ clS ad C a = false ∧ roS h a = false := @decide_eq_true_iff _ (Classical.propDecidable _)
/-- what the reference sees -/
def RV (G : mm_G) (m : Nat) (am : Nat → Nat) (b : Nat) (scr : List Value) (M : mw_S) (nk np : Nat) (h : mm_H) : Prop := mw_W m am h M h ∧ nmT m am h M 4 100 nk ∧ nmT m am h M 20 101 np ∧ LT G m am h ∧ h.1 b = some (300, scr) ∧ mw_o m am h b
/-- the class has done its call, the reference not yet -/
def MID (G : mm_G) (m : Nat) (am : Nat → Nat) (b : Nat) (scr : List Value) (xa : Nat) (M : mw_S) (nk np : Nat) (M' : mw_S) (ab' : Nat → Option Nat) (nk' np' : Nat) (h : mm_H) : Prop := ∃ ad C na ne nb nt H, cw ad h C h ∧ ad 11 0 = xa ∧ rsR ad C M' ab' nk' np' na ne nb nt H ∧ RV G m am b scr M nk np (hdr (clS ad C) h)
section VW
variable {G : mm_G} {y : mm_M} {L : Nat × Nat} {d : Nat} {av : List Value} {m b xa nk np nk' np' n1 n2 : Nat} {am : Nat → Nat} {scr : List Value} {ad ad1 : Nat → Nat → Nat} {C C1 : cw_C} {M M' M'' : mw_S} {ab ab' : Nat → Option Nat} {h h0 h1 h2 hb : mm_H} {v : Value} {na ne nb nt : Nat} {H : hS}
theorem cw_wr {f : Nat} (hf : f < 22) : mm_wr (cw_k f) = true := by
  have : ∀ f, f < 22 → mm_wr (cw_k f) = true := by decide +kernel
  exact this f hf
/-- the class's view of the heap -/
theorem cw_view (hC : cw ad h C h) : cw ad (hdr (noS ad C h) h) C (hdr (noS ad C h) h) := by
  obtain ⟨w1, w2, w3, w4, w5, w6, w7⟩ := hC
  have nv : ∀ f i, f < 22 → i < cN C f → noS ad C h (ad f i) = false := fun f i hf hi => by
    cases z : noS ad C h (ad f i) with
    | false => rfl
    | true =>
      have := (noS_iff.mp z).2.1
      rw [clS_iff.mpr ⟨f, i, hf, hi, rfl⟩] at this; cases this
  refine ⟨fun f i hf hi => ?_, w2, fun _ _ _ => rfl, Nat.le_refl _, Nat.le_refl _, w6, fun _ _ hz _ _ => hz⟩
  show (bif noS ad C h (ad f i) then none else h.1 (ad f i)) = _
  rw [nv f i hf hi]; exact w1 f i hf hi
theorem lt_view (hL : LT G m am (hdr (clS ad C) h)) : lt_ G (hdr (noS ad C h) h) := by
  intro i bs hi
  obtain ⟨v, l1, l2, l3, l4⟩ := hL i bs hi
  have key : ∀ a c, (hdr (clS ad C) h).1 a = some c → a < h.2.1 → mm_wr c.1 = false → (hdr (noS ad C h) h).1 a = some c := fun a c z hl hw => by
    have z : (bif clS ad C a then none else h.1 a) = some c := z
    cases e : clS ad C a with
    | true => rw [e] at z; cases z
    | false =>
      rw [e] at z
      show (bif noS ad C h a then none else h.1 a) = some c
      have : noS ad C h a = false := by
        cases q : noS ad C h a with
        | false => rfl
        | true =>
          have := (noS_iff.mp q).2.2
          rw [roS_iff.mpr ⟨hl, c, z, hw⟩] at this; cases this
      rw [this]; exact z
  exact ⟨v, key _ _ l1 l3.2.2 rfl, key _ _ l2 l4.2.2 rfl, l3.2.2, l4.2.2⟩
theorem RV.more (h : RV G m am b scr M nk np h1) (hc : ∀ a c, h1.1 a = some c → a < h1.2.1 → h2.1 a = some c) (hs : h1.2.1 ≤ h2.2.1) : RV G m am b scr M nk np h2 := by
  obtain ⟨⟨w1, w2, w3, w4, w5, w6, w7, w8, w9, w10⟩, n4, n20, hL, hb, ho⟩ := h
  have hO : ∀ a, mw_o m am h1 a → mw_o m am h2 a := fun a z => ⟨z.1, z.2.1, by have := z.2.2; omega⟩
  have hS : ∀ a bs, sO m am h1 a bs → sO m am h2 a bs := fun a bs z => by
    obtain ⟨ka, kv, v, rest, s1, s2, s3, s4, s5, s6, s7⟩ := z
    exact ⟨ka, kv, v, rest, hc _ _ s1 s6.2.2, s2, hc _ _ s3 s7.2.2, s4, s5, hO _ s6, hO _ s7⟩
  refine ⟨⟨hc _ _ w1 w8, fun j hj hk => hc _ _ (w2 j hj hk) (w9 j hj hk), w3, w4, fun _ _ _ _ => rfl, Nat.le_refl _, Nat.le_refl _, by omega, fun j hj hk => by have := w9 j hj hk; omega, w10⟩, fun i hi => ?_, fun i hi => ?_, fun i bs hi => ?_, hc _ _ hb ho.2.2, hO _ ho⟩
  · obtain ⟨a, bs, q1, q2, q3, q4⟩ := n4 i hi
    exact ⟨a, bs, q1, hS _ _ q2, q3, q4⟩
  · obtain ⟨a, bs, q1, q2, q3, q4⟩ := n20 i hi
    exact ⟨a, bs, q1, hS _ _ q2, q3, q4⟩
  · obtain ⟨v, l1, l2, l3, l4⟩ := hL i bs hi
    exact ⟨v, hc _ _ l1 l3.2.2, hc _ _ l2 l4.2.2, hO _ l3, hO _ l4⟩
/-- a call of the class's -/
theorem step_c (hC : cw ad h C h) (hx : ad 11 0 = xa) (hRV : RV G m am b scr M nk np (hdr (clS ad C) h)) {Q : Option Value → mm_H → Prop} (hok : mm_Ok G y L d av (hdr (noS ad C h) h) (fun r h1 => ∃ v M' ab' nk' np', aft ad (hdr (noS ad C h) h) n1 n2 ab' nk' np' v M' r h1 ∧ ∀ hh, hh.2 = h1.2 → MID G m am b scr xa M nk np M' ab' nk' np' hh → hh.2.1 ≤ h.2.1 + n1 → hh.2.2 ≤ h.2.2 + n2 → Q (some v) hh)) : mm_Ok G y L d av h Q := by
  have hS : ∀ a, noS ad C h a = true → a < h.2.1 := fun a z => (noS_iff.mp z).1
  have hR : ∀ a, roS h a = true → a < h.2.1 ∧ ∀ c, h.1 a = some c → mm_wr c.1 = false := fun a z => by
    obtain ⟨l, c, z1, z2⟩ := roS_iff.mp z
    exact ⟨l, fun c' e => by rw [z1] at e; cases e; exact z2⟩
  refine mm_Ok.post (hok.frame2 hS hR) (fun r h1 z => ?_)
  obtain ⟨h2, ⟨v, M', ab', nk', np', ⟨rfl, hb, ad1, C1, na, ne, nb, nt, H, hC1, hRs, ha, b1, b2⟩, hQ⟩, rfl, hsz, hwr⟩ := z
  have hwin : ∀ f i, f < 22 → i < cN C1 f → (noS ad C h (ad1 f i) || roS h (ad1 f i)) = false := fun f i hf hi => hwr _ _ (hC1.1 f i hf hi) (cw_wr hf)
  have hcell : ∀ f i, f < 22 → i < cN C1 f → (hjn (fun a => noS ad C h a || roS h a) h h2).1 (ad1 f i) = h2.1 (ad1 f i) := fun f i hf hi => by
    show (bif (noS ad C h (ad1 f i) || roS h (ad1 f i)) then h.1 (ad1 f i) else h2.1 (ad1 f i)) = _
    rw [hwin f i hf hi]; rfl
  refine hQ _ rfl ⟨ad1, C1, na, ne, nb, nt, H, ?_, ha.trans hx, hRs, ?_⟩ b1 b2
  · obtain ⟨w1, w2, w3, w4, w5, w6, w7⟩ := hC1
    exact ⟨fun f i hf hi => (hcell f i hf hi).trans (w1 f i hf hi), w2, fun _ _ _ => rfl, Nat.le_refl _, Nat.le_refl _, w6, fun _ _ hz _ _ => hz⟩
  · refine hRV.more (fun a c z hl => ?_) hsz
    have z : (bif clS ad C a then none else h.1 a) = some c := z
    cases e : clS ad C a with
    | true => rw [e] at z; cases z
    | false =>
      rw [e] at z
      have hU : (noS ad C h a || roS h a) = true := by
        cases q : roS h a with
        | true => exact Bool.or_true _
        | false => rw [(noS_iff (h := h)).mpr ⟨hl, e, q⟩]; rfl
      have hn : clS ad1 C1 a = false := by
        cases q : clS ad1 C1 a with
        | false => rfl
        | true =>
          obtain ⟨f, i, hf, hi, rfl⟩ := clS_iff.mp q
          have := hwin f i hf hi
          rw [hU] at this; cases this
      show (bif clS ad1 C1 a then none else (bif (noS ad C h a || roS h a) then h.1 a else h2.1 a)) = some c
      rw [hn, hU]; exact z
/-- a call of the reference's -/
theorem step_r (hC : cw ad h C h) {Q : Option Value → mm_H → Prop} (hRV : RV G m am b scr M nk np (hdr (clS ad C) h)) (hok : mm_Ok G y L d av (hdr (clS ad C) h) (fun r h1 => ∃ M'', mw_W m am (hdr (clS ad C) h) M'' h1 ∧ ∀ hh, hh.2 = h1.2 → cw ad hh C hh → hdr (clS ad C) hh = h1 → Q r hh)) : mm_Ok G y L d av h Q := by
  have hS : ∀ a, clS ad C a = true → a < h.2.1 := fun a z => by
    obtain ⟨f, i, hf, hi, rfl⟩ := clS_iff.mp z
    exact hC.2.2.2.2.2.1 f i hf hi
  refine mm_Ok.post (hok.frame2 (R := fun _ => false) hS (fun a z => by cases z)) (fun r h1 z => ?_)
  obtain ⟨h2, ⟨M'', hW, hQ⟩, rfl, hsz, hwr⟩ := z
  have hn : ∀ a, clS ad C a = true → h2.1 a = none := fun a z => by
    have e : (hdr (clS ad C) h).1 a = none := by
      show (bif clS ad C a then none else h.1 a) = none
      rw [z]; rfl
    rw [← e]
    refine hW.2.2.2.2.1 a (fun q => ?_) (fun j hj hk q => ?_) (hS a z)
    · have := hRV.1.1
      rw [← q, e] at this; cases this
    · have := hRV.1.2.1 j hj hk
      rw [← q, e] at this; cases this
  have e2 : hdr (clS ad C) (hjn (fun a => clS ad C a || false) h h2) = h2 := by
    refine Prod.ext (funext fun a => ?_) rfl
    show (bif clS ad C a then none else (bif (clS ad C a || false) then h.1 a else h2.1 a)) = h2.1 a
    cases q : clS ad C a with
    | true => exact (hn a q).symm
    | false => rfl
  refine hQ _ rfl ?_ e2
  obtain ⟨w1, w2, w3, w4, w5, w6, w7⟩ := hC
  refine ⟨fun f i hf hi => ?_, w2, fun _ _ _ => rfl, Nat.le_refl _, Nat.le_refl _, fun f i hf hi => Nat.lt_of_lt_of_le (w6 f i hf hi) hsz, fun _ _ hz _ _ => hz⟩
  show (bif (clS ad C (ad f i) || false) then h.1 (ad f i) else h2.1 (ad f i)) = _
  rw [clS_iff.mpr ⟨f, i, hf, hi, rfl⟩]; exact w1 f i hf hi
end VW
