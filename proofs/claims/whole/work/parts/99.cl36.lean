/-! pack: the pack is joined -/
def fgN (C : cw_C) (N : Nat → Nat) : cw_C := fun f => ((C f).1, (C f).2.1, (C f).2.2.1, N f)
def pkN (C : cw_C) (nk np na ne : Nat) (f : Nat) : Nat := if f = 4 ∨ f = 21 then nk else if f = 5 ∨ f = 20 then np else if f = 2 ∨ f = 6 ∨ f = 10 then 0 else if f = 9 then na else if f = 3 then ne else cN C f
/-- the reference's memory behind a pack that was joined, with its name's spelling -/
def pkX (R : mw_S) (fp : fp_T) (nk nn np : Nat) : mw_S := mw_setW (pkDone (setF (mw_setS R 1 0) fp) nk nn np) 101 np (R.2.2.2.1 102 0)
section PKJ
variable {ad ad3 : Nat → Nat → Nat} {C C1 C3 C9 : cw_C} {M R : mw_S} {ab ab' : Nat → Option Nat} {h h0 hb h1 : mm_H} {nk np na ne nb nt nn a0 g0 f i j n y v : Nat} {H : hS} {ho : Int32} {fp : fp_T} {N : Nat → Nat}
theorem fgN_I : cI (fgN C N) f i j = cI C f i j := rfl
theorem fgN_R : cR (fgN C N) f i j = cR C f i j := rfl
theorem fgN_L : cL (fgN C N) f i j = cL C f i j := rfl
theorem fgN_N : cN (fgN C N) f = N f := rfl
theorem fgN_cw (hC : cw ad hb C h) (hN : ∀ f, N f ≤ cN C f) : cw ad h (fgN C N) h := hC.less hN (fun _ _ _ => rfl)
theorem pkX_S : (pkX R fp nk nn np).1 j = mw_u (mw_u (mw_u (mw_u (mw_u (mw_u R.1 1 0) 31 fp.1) 32 fp.2) 3 (nI (nk + nn))) 23 (R.1 23 + (if R.1 34 = R.1 23 then 1 else 0))) 19 (nI (np + 1)) j := rfl
theorem pkX_V : (pkX R fp nk nn np).2.2.1 j i = if j = 22 ∧ i = np then 0 else if j = 21 ∧ i = np then R.1 34 else R.2.2.1 j i := rfl
theorem pkX_W : (pkX R fp nk nn np).2.2.2.1 j i = if j = 101 ∧ i = np then R.2.2.2.1 102 0 else R.2.2.2.1 j i := rfl
theorem pkX_Vo (h : ¬ j = 21) (h2 : ¬ j = 22) : (pkX R fp nk nn np).2.2.1 j = R.2.2.1 j := funext fun i => by rw [pkX_V, if_neg (fun z => h2 z.1), if_neg (fun z => h z.1)]
theorem pkX_So (h1 : ¬ j = 1) (h3 : ¬ j = 3) (h19 : ¬ j = 19) (h23 : ¬ j = 23) (h31 : ¬ j = 31) (h32 : ¬ j = 32) : (pkX R fp nk nn np).1 j = R.1 j := by
  rw [pkX_S, mw_u_ne _ _ h19, mw_u_ne _ _ h23, mw_u_ne _ _ h3, mw_u_ne _ _ h32, mw_u_ne _ _ h31, mw_u_ne _ _ h1]
/-- old objects, when the pack was joined -/
def rwS (ad : Nat → Nat → Nat) (C : cw_C) (ad3 : Nat → Nat → Nat) (C9 : cw_C) : Prop := ∀ f i, ¬ f = 7 → ¬ f = 11 → ¬ f = 18 → ¬ f = 19 → i < cN C f → i < cN C9 f ∧ ad3 f i = ad f i ∧ (∀ j, cI C9 f i j = cI C f i j) ∧ ∀ j, cR C9 f i j = cR C f i j
theorem pk_rs (Rr : rsR ad C M ab nk np na ne nb nt H) (hw : rwS ad C ad3 C9) (hu : hus ad C ad3 C9) (a7 : ad3 7 0 = ad 7 0)
    (hE : ckE ad3 C9 R ab' (nk + nn)) (hG : rgR ad3 C9 (pkX R fp nk nn np) (nk + nn) (np + 1))
    (hK : kk nk a0 g0 M R) (hT : rm_T R (nk + nn) ab') (h24 : R.1 24 = -1) (hyK : ∀ g, g < cN C9 1 → yK R g < nk + nn)
    (hn4 : nk + nn ≤ cN C9 4) (hn21 : nk + nn ≤ cN C9 21) : rsR ad3 (fgN C9 (pkN C9 (nk + nn) (np + 1) na ne)) (pkX R fp nk nn np) ab' (nk + nn) (np + 1) na ne nb nt H := by
  obtain ⟨u1, u2, u3, u4, u5, u6⟩ := hu
  have V := hK.2.2.2.2
  have hcn := Rr.cn
  have n0 : ∀ f, ¬ f = 4 → ¬ f = 21 → ¬ f = 5 → ¬ f = 20 → ¬ f = 2 → ¬ f = 6 → ¬ f = 10 → ¬ f = 9 → ¬ f = 3 → pkN C9 (nk + nn) (np + 1) na ne f = cN C9 f := fun f a b c d e g h i j => by unfold pkN; rw [if_neg (by omega), if_neg (by omega), if_neg (by omega), if_neg i, if_neg j]
  have VX : ∀ j i, kkV nk a0 g0 j i → ¬ j = 21 → ¬ j = 22 → (pkX R fp nk nn np).2.2.1 j i = M.2.2.1 j i := fun j i hv h1 h2 => (congrFun (pkX_Vo h1 h2) i).trans (V j i hv)
  have WX : ∀ j i, j < 74 → (pkX R fp nk nn np).2.2.2.1 j i = M.2.2.2.1 j i := fun j i hj => by
    rw [pkX_W, if_neg (by omega)]; exact hK.2.2.2.1 j i (by omega) (by omega) (by omega)
  have SX : ∀ j, 48 ≤ j → j < 74 → (pkX R fp nk nn np).1 j = M.1 j := fun j h1 h2 => (pkX_So (by omega) (by omega) (by omega) (by omega) (by omega) (by omega)).trans (hK.1 j (by unfold kkS kbS kpS; omega))
  have hv20 : na ≤ 20 := Rr.v.2.1
  refine ⟨?_, ?_, ?_, ?_, ?_, ⟨rfl, rfl⟩, ?_, ?_, ?_, ?_⟩
  · obtain ⟨⟨m7, m18, m19, m4, m5⟩, hkp, r0, r1, r2, r3, r4, hKn, hP⟩ := hG
    exact ⟨⟨by rw [fgN_N, n0 7 (by decide) (by decide) (by decide) (by decide) (by decide) (by decide) (by decide) (by decide) (by decide)]; exact m7, by rw [fgN_N, n0 18 (by decide) (by decide) (by decide) (by decide) (by decide) (by decide) (by decide) (by decide) (by decide)]; exact m18, by rw [fgN_N, n0 19 (by decide) (by decide) (by decide) (by decide) (by decide) (by decide) (by decide) (by decide) (by decide)]; exact m19, Nat.le_refl _, Nat.le_refl _⟩, hkp, r0, r1, r2, r3, r4, hKn, hP⟩
  · obtain ⟨⟨a1, a2, a3, a4⟩, b, c, ⟨d1, d2⟩, e, f⟩ := hE
    have w0 : pkN C9 (nk + nn) (np + 1) na ne 0 = cN C9 0 := n0 0 (by decide) (by decide) (by decide) (by decide) (by decide) (by decide) (by decide) (by decide) (by decide)
    have w1 : pkN C9 (nk + nn) (np + 1) na ne 1 = cN C9 1 := n0 1 (by decide) (by decide) (by decide) (by decide) (by decide) (by decide) (by decide) (by decide) (by decide)
    have hX : ckE ad3 C9 (pkX R fp nk nn np) ab' (nk + nn) := (show ckE ad3 C9 R ab' (nk + nn) from ⟨⟨a1, a2, a3, a4⟩, b, c, ⟨d1, d2⟩, e, f⟩)
    obtain ⟨-, b, c, ⟨d1, d2⟩, e, f⟩ := hX
    have b' : ∀ i, i < nk + nn → kSt ad3 (fgN C9 (pkN C9 (nk + nn) (np + 1) na ne)) (pkX R fp nk nn np) ab' i := fun i hi => by
      obtain ⟨⟨q1, q2, q3, q4, q5, q6, q7, q8⟩, s2⟩ := b i hi
      refine ⟨⟨q1, q2, q3, q4, q5, q6, q7, fun q hq => ?_⟩, s2⟩
      rcases q8 q hq with z | ⟨z1, g, z2, z3⟩
      · exact Or.inl z
      · exact Or.inr ⟨z1, g, by rw [fgN_N, w1]; exact z2, z3⟩
    refine ⟨⟨a1, a2, Nat.le_refl _, Nat.le_refl _⟩, b', fun g hg => ?_, ⟨by rw [fgN_N, w1]; exact d1, d2⟩, e, ?_⟩
    · rw [fgN_N, w1] at hg
      obtain ⟨e1, e2, e3, e4, e5, e6, e7, e8⟩ := c g hg
      exact ⟨e1, hyK g hg, e3, e4, e5, e6, by rw [fgN_N, w0]; exact e7, e8⟩
    · obtain ⟨f1, f2, f3⟩ := f
      refine ⟨by rw [fgN_N, w0]; exact f1, by rw [fgN_N, w0]; exact f2, fun a ha => ?_⟩
      rw [fgN_N, w0] at ha
      have := f3 a ha
      unfold aR at this ⊢
      rw [fgN_N, w0]
      exact this
  · exact ⟨⟨rfl, rfl, rfl, rfl, rfl, rfl, rfl⟩, rfl, rfl⟩
  · obtain ⟨⟨m11, m12, m13⟩, a2, a3, a4, a5, a6, a7', a8⟩ := Rr.o
    have r12 := hw 12 0 (by decide) (by decide) (by decide) (by decide) m12
    have r13 := hw 13 0 (by decide) (by decide) (by decide) (by decide) m13
    refine ⟨⟨by rw [fgN_N, n0 11 (by decide) (by decide) (by decide) (by decide) (by decide) (by decide) (by decide) (by decide) (by decide)]; exact u2, by rw [fgN_N, n0 12 (by decide) (by decide) (by decide) (by decide) (by decide) (by decide) (by decide) (by decide) (by decide)]; exact r12.1, by rw [fgN_N, n0 13 (by decide) (by decide) (by decide) (by decide) (by decide) (by decide) (by decide) (by decide) (by decide)]; exact r13.1⟩, ?_, u3, ?_, ?_, ?_, fun c c1 c4 => ?_, fun i hi => ?_⟩
    · rw [fgN_R, u6, r12.2.1]; exact a2
    · rw [fgN_I, u4, pkX_So (by decide) (by decide) (by decide) (by decide) (by decide) (by decide), h24]
    · rw [fgN_R, u6, a7]; exact a5
    · rw [fgN_R, u6, r13.2.1]; exact a6
    · rw [fgN_I, r13.2.2.1, VX 2 c (by unfold kkV; omega) (by decide) (by decide)]; exact a7' c c1 c4
    · rw [fgN_I, r12.2.2.1, VX 0 i (by unfold kkV; omega) (by decide) (by decide)]; exact a8 i hi
  · exact hT
  · obtain ⟨⟨v11, n16, n9⟩, hn20, v0, v1, s48, hV⟩ := Rr.v
    have r16 := hw 16 0 (by decide) (by decide) (by decide) (by decide) n16
    refine ⟨⟨by rw [fgN_N, n0 11 (by decide) (by decide) (by decide) (by decide) (by decide) (by decide) (by decide) (by decide) (by decide)]; exact u2, by rw [fgN_N, n0 16 (by decide) (by decide) (by decide) (by decide) (by decide) (by decide) (by decide) (by decide) (by decide)]; exact r16.1, Nat.le_refl _⟩, hn20, by rw [fgN_R, u6, r16.2.1]; exact v0, by rw [fgN_I, u5 5 (by decide) (by decide)]; exact v1, (SX 48 (by decide) (by decide)).trans s48, fun i hi => ?_⟩
    obtain ⟨p0, p1, ⟨k, hk, p2, p3⟩, p4, p5, p6⟩ := hV i hi
    have r9 := hw 9 i (by decide) (by decide) (by decide) (by decide) (by omega)
    have r4 := hw 4 k (by decide) (by decide) (by decide) (by decide) (by rw [hcn.1.1]; exact hk)
    rw [fgN_R, fgN_I, fgN_I, fgN_I, fgN_I, fgN_R, r16.2.2.2, r9.2.2.1, r9.2.2.1, r9.2.2.1, r9.2.2.1, r9.2.2.2, r9.2.1, VX 49 i (by unfold kkV; omega) (by decide) (by decide), VX 50 i (by unfold kkV; omega) (by decide) (by decide), VX 51 i (by unfold kkV; omega) (by decide) (by decide), VX 52 i (by unfold kkV; omega) (by decide) (by decide)]
    exact ⟨p0, p1, ⟨k, by omega, p2, by rw [r4.2.1]; exact p3⟩, p4, p5, p6⟩
  · obtain ⟨⟨n17, n3⟩, hn512, z7, z8, s54, hN⟩ := Rr.e
    have r17 := hw 17 0 (by decide) (by decide) (by decide) (by decide) n17
    refine ⟨⟨by rw [fgN_N, n0 17 (by decide) (by decide) (by decide) (by decide) (by decide) (by decide) (by decide) (by decide) (by decide)]; exact r17.1, Nat.le_refl _⟩, hn512, by rw [fgN_R, u6, r17.2.1]; exact z7, by rw [fgN_I, u5 8 (by decide) (by decide)]; exact z8, (SX 54 (by decide) (by decide)).trans s54, fun i hi => ?_⟩
    obtain ⟨p0, p1, ⟨k, hk, p2, p3⟩, p4⟩ := hN i hi
    have r3 := hw 3 i (by decide) (by decide) (by decide) (by decide) (by omega)
    have r9 := hw 9 k (by decide) (by decide) (by decide) (by decide) (by have := hcn.2.1; omega)
    rw [fgN_R, fgN_I, fgN_I, fgN_R, r17.2.2.2, r3.2.2.1, r3.2.2.1, r3.2.2.2, r3.2.1, VX 55 i (by unfold kkV; omega) (by decide) (by decide), VX 56 i (by unfold kkV; omega) (by decide) (by decide), VX 57 i (by unfold kkV; omega) (by decide) (by decide)]
    exact ⟨p0, p1, ⟨k, hk, p2, by rw [r9.2.1]; exact p3⟩, p4⟩
  · obtain ⟨d1, d2, d3⟩ := Rr.d
    refine ⟨fun i hi => by rw [VX 51 i (by unfold kkV; omega) (by decide) (by decide), VX 52 i (by unfold kkV; omega) (by decide) (by decide)]; exact d1 i hi, fun c hc => by rw [WX 53 c (by decide)]; exact d2 c hc, fun e he => ?_⟩
    obtain ⟨a2, b2, k1, k2, k3, k4, ⟨k5, k6, k7, k8⟩, k9, k10, k11, k12, k13⟩ := d3 e he
    have r3 := hw 3 e (by decide) (by decide) (by decide) (by decide) (by have := hcn.2.2; omega)
    have r9 := hw 9 b2 (by decide) (by decide) (by decide) (by decide) (by have := hcn.2.1; omega)
    unfold enH
    rw [fgN_R, fgN_I, fgN_I, fgN_I, fgN_I, r3.2.2.1, r3.2.2.1, r3.2.2.1, r3.2.2.1, r3.2.2.2]
    refine ⟨a2, b2, k1, k2, by rw [VX 56 _ (by unfold kkV; omega) (by decide) (by decide)]; exact k3, by rw [VX 58 _ (by unfold kkV; omega) (by decide) (by decide)]; exact k4, ?_, by rw [k9, r9.2.1], k10, k11, k12, fun c hc => ?_⟩
    · rw [VX 59 _ (by unfold kkV; omega) (by decide) (by decide), VX 59 _ (by unfold kkV; omega) (by decide) (by decide), VX 59 _ (by unfold kkV; omega) (by decide) (by decide), VX 59 _ (by unfold kkV; omega) (by decide) (by decide)]
      exact ⟨k5, k6, k7, k8⟩
    · rw [WX 60 _ (by decide)]; exact k13 c hc
  · obtain ⟨⟨m8, m14, m15⟩, hnn_, t6, ⟨q0, q1, q2, q3⟩, ⟨s68, s72⟩, ⟨r7, r8, r9, r10⟩, hA, hB⟩ := Rr.r
    have w8 := hw 8 0 (by decide) (by decide) (by decide) (by decide) m8
    have w14 : ∀ i, i < 3 → _ := fun i hi => hw 14 i (by decide) (by decide) (by decide) (by decide) (by omega)
    have w15 := hw 15 0 (by decide) (by decide) (by decide) (by decide) m15
    have hm14 : 3 ≤ cN C9 14 := by have := (w14 2 (by decide)).1; omega
    refine ⟨⟨by rw [fgN_N, n0 8 (by decide) (by decide) (by decide) (by decide) (by decide) (by decide) (by decide) (by decide) (by decide)]; exact w8.1, by rw [fgN_N, n0 14 (by decide) (by decide) (by decide) (by decide) (by decide) (by decide) (by decide) (by decide) (by decide)]; exact hm14, by rw [fgN_N, n0 15 (by decide) (by decide) (by decide) (by decide) (by decide) (by decide) (by decide) (by decide) (by decide)]; exact w15.1⟩, hnn_, by rw [fgN_R, u6, w8.2.1]; exact t6, ⟨?_, ?_, ?_, ?_⟩, ⟨(SX 68 (by decide) (by decide)).trans s68, (SX 72 (by decide) (by decide)).trans s72⟩, ⟨?_, ?_, ?_, ?_⟩, fun i hi => ?_, fun i hi => ?_⟩
    · rw [fgN_I, w8.2.2.1, SX 66 (by decide) (by decide)]; exact q0
    · rw [fgN_I, w8.2.2.1, SX 68 (by decide) (by decide)]; exact q1
    · rw [fgN_I, w8.2.2.1, SX 72 (by decide) (by decide)]; exact q2
    · rw [fgN_I, w8.2.2.1, SX 67 (by decide) (by decide)]; exact q3
    · rw [fgN_R, w8.2.2.2, (w14 0 (by decide)).2.1]; exact r7
    · rw [fgN_R, w8.2.2.2, (w14 1 (by decide)).2.1]; exact r8
    · rw [fgN_R, w8.2.2.2, (w14 2 (by decide)).2.1]; exact r9
    · rw [fgN_R, w8.2.2.2, w15.2.1]; exact r10
    · rw [fgN_I, fgN_I, fgN_I, (w14 0 (by decide)).2.2.1, (w14 1 (by decide)).2.2.1, (w14 2 (by decide)).2.2.1, VX 69 i (by unfold kkV; omega) (by decide) (by decide), VX 70 i (by unfold kkV; omega) (by decide) (by decide), VX 71 i (by unfold kkV; omega) (by decide) (by decide)]
      exact hA i hi
    · rw [fgN_I, w15.2.2.1, VX 73 i (by unfold kkV; omega) (by decide) (by decide)]; exact hB i hi
end PKJ
