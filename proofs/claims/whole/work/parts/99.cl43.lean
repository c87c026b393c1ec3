/-! what holds between calls: a pack that was joined -/
section PXJ
variable {M R : mw_S} {ab : Nat → Option Nat} {nk np nn k n t a0 g0 : Nat} {tb : Nat → Nat} {fp : fp_T}
theorem Ae_abN (hT : rm_T M nk ab) (hAe : ∀ K, K < nk → Ae ab K 0) (hT' : rm_T R (nk + nn) (abN R nk ab)) (hno : ∀ i, nk ≤ i → i < nk + nn → ¬ kfi (R.2.2.2.1 100) (R.2.2.2.1 103 i) i = none) : ∀ K, K < nk + nn → Ae (abN R nk ab) K 0 := by
  intro K
  induction K using Nat.strongRecOn with
  | _ K ih =>
    intro hK
    by_cases c : K < nk
    · rcases hAe K c with z | z
      · exact Or.inl z
      · exact Or.inr ((An_congr hT.1 (fun i hi => if_pos hi) c).mpr z)
    · cases e : kfi (R.2.2.2.1 100) (R.2.2.2.1 103 K) K with
      | none => exact absurd e (hno K (by omega) hK)
      | some j =>
        have ej : abN R nk ab K = some j := (if_neg c).trans e
        have hj := hT'.1 K j hK ej
        exact Ae.trans (Or.inr (An.one ej)) (ih j hj (by omega))
theorem PX.join (h : PX M ab nk np k) (hk : k < 600) (hT : rm_T M nk ab) (hK : kk nk a0 g0 M R) (h13 : M.1 13 = nI a0) (ha : a0 ≤ 4000) (h111 : M.1 111 = nI g0) (hs1 : M.1 1 = nI n) (hn : n ≤ 700) (hnk : nk + nn ≤ 40) (hnp : np < 12)
    (hRI : RI tb n nk np a0 g0 (nk + nn) (nk + nn) R t) (hI : pI tb n a0 R t) (hg : gI tb n g0 R t) (hT' : rm_T R (nk + nn) (abN R nk ab)) (hF : ∀ p f, ¬ FF R (abN R nk ab) nk np g0 a0 (nk + nn) p f) (h19 : R.1 19 = nI np) {y v : Nat} (h23 : R.1 23 = nI y) (hv : v ≤ y) (h34 : R.1 34 = nI v) (hy : y ≤ np + 1) : PX (pkX R fp nk nn np) (abN R nk ab) (nk + nn) (np + 1) (k + 1) := by
  have V := hK.2.2.2.2
  obtain ⟨na, ne, ⟨a1, a2⟩, b, ⟨⟨oK, oQ, hA⟩, hcv, hH, h0, hAe⟩, ⟨⟨tb', htp⟩, ⟨n', a', q1, q2, q3, q4⟩, g1, g2, g3⟩, ⟨⟨y', y1, y2, y3, y4⟩, hP⟩, hV⟩ := h
  have ek0 : ka M = a0 := by unfold ka; rw [h13, nI_clamp (by omega)]
  rw [ek0] at hA hcv
  have ea : a' = a0 := (nI_eq (by omega) (by omega)).mp (q3.symm.trans h13)
  subst ea
  have en : n' = n := (nI_eq (by omega) (by omega)).mp (q1.symm.trans hs1)
  subst en
  have eg : g1 = g0 := (nI_eq (by omega) (by have := hg.1; omega)).mp (g2.symm.trans h111)
  subst eg
  have ey : y' = y := by
    have e := (hK.1 23 (by unfold kkS kbS kpS; omega)).trans y1
    exact (nI_eq (by omega) (by omega)).mp (e.symm.trans h23)
  subst ey
  have hka := hI.kA_
  have qn := qs_le (tb := tb) (n := n') t
  obtain ⟨ra, ra1, ra2, ra3⟩ := hI.2.2.2.1
  have eka : ka R = ra := by unfold ka; rw [ra1, nI_clamp (by omega)]
  obtain ⟨rg, rg1, rg2, rg3⟩ := hg.2
  have ekX : ka (pkX R fp nk nn np) = ka R := by unfold ka; rw [pkX_So (by decide) (by decide) (by decide) (by decide) (by decide) (by decide)]
  have nX : nM gA_ (pkX R fp nk nn np) = nM gA_ R := nM_eq (fun j hj => by
    obtain ⟨j1, j2⟩ := Bool.and_eq_true_iff.mp hj
    have j1 := Nat.le_of_ble_eq_true j1
    have j2 := Nat.le_of_ble_eq_true j2
    exact ⟨pkX_So (by omega) (by omega) (by omega) (by omega) (by omega) (by omega), pkX_Vo (by omega) (by omega), funext fun i => by rw [pkX_W, if_neg (by omega)]⟩)
  have ab0 : ∀ i, i < nk → abN R nk ab i = ab i := fun i hi => if_pos hi
  have hno : ∀ i, nk ≤ i → i < nk + nn → ¬ kfi (R.2.2.2.1 100) (R.2.2.2.1 103 i) i = none := fun i i1 i2 z => by
    refine hF (zU R i) 2 (Or.inl ?_)
    have hz := (hRI.1 i i1 i2).2.1.2
    unfold PP
    exact ⟨by omega, Or.inr (Or.inr (Or.inl ⟨rfl, i, i1, i2, z, rfl⟩))⟩
  have hAe' := Ae_abN hT hAe hT' hno
  have hcA : ∀ x, a' ≤ x → x < ka R → cA R (abN R nk ab) (aK R x) (aQn R x) x = 0 := fun x x1 x2 => by
    by_cases z : cA R (abN R nk ab) (aK R x) (aQn R x) x = 0
    · exact z
    · exact absurd (Or.inr (Or.inr ⟨x, x1, x2, rfl, rfl, z⟩)) (hF (uP R x) (cA R (abN R nk ab) (aK R x) (aQn R x) x))
  have old := rm_A.old (ab' := abN R nk ab) (nk' := nk + nn) (na' := ka R) (oK' := fun x => if x < a' then oK x else aK R x) (oQ' := fun x => if x < a' then oQ x else aQn R x) hA hT hK ab0 (by omega) (by omega) (fun z hz => ⟨if_pos hz, if_pos hz⟩)
  -- a new body's row
  have bodyLk : ∀ g, g1 ≤ g → g < kg R → ∀ x : Int32, (x = -1 ∨ ∃ z, yS R g ≤ z ∧ z < yE R g ∧ x = nI z) → rm_lk (ka R) (fun x => if x < a' then oK x else aK R x) (fun x => if x < a' then oQ x else aQn R x) (yK R g) (yQ R g) x := fun g gg1 gg2 x hx => by
    rcases hx with hx | ⟨z, z1, z2, z3⟩
    · exact Or.inl hx
    · obtain ⟨-, ⟨b1, b2, b3, b4, b5⟩, ⟨s1, s2, s3⟩, cv, -⟩ := hRI.2.1 g gg1 gg2
      have ok := cv.act z z1 z2
      refine Or.inr ⟨z, by omega, z3, ?_, ?_⟩
      · show (if z < a' then oK z else aK R z) = _
        rw [if_neg (by omega)]; unfold aK; rw [ok.2.2.2.1, nI_clamp (by omega)]
      · show (if z < a' then oQ z else aQn R z) = _
        rw [if_neg (by omega)]; unfold aQn; rw [ok.2.2.2.2, nI_clamp (by omega)]
  have hAR : rm_A R (nk + nn) (ka R) (abN R nk ab) (fun x => if x < a' then oK x else aK R x) (fun x => if x < a' then oQ x else aQn R x) := by
    refine ⟨by omega, fun x hx => ?_, fun k q hk hq hh => ?_⟩
    · by_cases c : x < a'
      · exact old.1 x c
      · obtain ⟨g, gg1, gg2, s1, s2, k1, k2, ok⟩ := hRI.actOf (Nat.le_of_not_lt c) hx
        obtain ⟨-, ⟨b1, b2, b3, b4, b5⟩, -, cv, -, hh, -⟩ := hRI.2.1 g gg1 gg2
        have eK : aK R x = yK R g := by unfold aK; rw [ok.2.2.2.1, nI_clamp (by omega)]
        have eQ : aQn R x = yQ R g := by unfold aQn; rw [ok.2.2.2.2, nI_clamp (by omega)]
        have c0 := hcA x (Nat.le_of_not_lt c) hx
        rw [eK, eQ] at c0
        show ((if x < a' then oK x else aK R x) < nk + nn ∧ (if x < a' then oQ x else aQn R x) < 6 ∧ rm_has R (if x < a' then oQ x else aQn R x) (if x < a' then oK x else aK R x) = true) ∧ _
        rw [if_neg c, if_neg c, eK, eQ]
        have lk := (CV.lks cv).2 x s1 s2
        refine ⟨⟨k1, k2, hh⟩, ok.1, ok.2.1, ?_, ?_, ?_, fun z => ?_, fun z => ?_⟩
        · show rm_lk _ _ _ (if x < a' then oK x else aK R x) (if x < a' then oQ x else aQn R x) _
          rw [if_neg c, if_neg c, eK, eQ]; exact bodyLk g gg1 gg2 _ (lk 16 (by decide) (by decide))
        · show rm_lk _ _ _ (if x < a' then oK x else aK R x) (if x < a' then oQ x else aQn R x) _
          rw [if_neg c, if_neg c, eK, eQ]; exact bodyLk g gg1 gg2 _ (lk 17 (by decide) (by decide))
        · show rm_lk _ _ _ (if x < a' then oK x else aK R x) (if x < a' then oQ x else aQn R x) _
          rw [if_neg c, if_neg c, eK, eQ]; exact bodyLk g gg1 gg2 _ (lk 18 (by decide) (by decide))
        · show ∃ j, rn_fnd R (abN R nk ab) (if x < a' then oK x else aK R x) (if x < a' then oQ x else aQn R x) (abN R nk ab (if x < a' then oK x else aK R x)) = some j
          rw [if_neg c, if_neg c, eK, eQ]
          unfold cA at c0
          rw [if_pos z] at c0
          cases e : rn_fnd R (abN R nk ab) (yK R g) (yQ R g) (abN R nk ab (yK R g)) with
          | none => rw [e] at c0; exact absurd c0 (by decide)
          | some j => exact ⟨j, rfl⟩
        · obtain ⟨cc, c1, c2⟩ := ok.2.2.1 z
          refine ⟨cc, c1, c2, ?_⟩
          show ∃ j, rn_fnd R (abN R nk ab) (if x < a' then oK x else aK R x) cc (some (if x < a' then oK x else aK R x)) = some j
          rw [if_neg c, eK]
          unfold cA at c0
          rw [if_neg (by rw [z]; decide), if_pos z, c2, nI_clamp (by omega)] at c0
          cases e : rn_fnd R (abN R nk ab) (yK R g) cc (some (yK R g)) with
          | none => rw [e] at c0; exact absurd c0 (by decide)
          | some j => exact ⟨j, rfl⟩
    · by_cases c : k < nk
      · exact old.2 k q c hq hh
      · obtain ⟨g, w1, w2, w3, w4, w5, w6⟩ := hRI.2.2.1 k q (Nat.le_of_not_lt c) hk hq hh
        obtain ⟨-, ⟨b1, b2, b3, b4, b5⟩, -, cv, -, -, rx, -⟩ := hRI.2.1 g w2 w3
        rw [w4, w5] at rx cv
        rcases rx with rx | ⟨rx, -⟩
        · rw [rx.2.2.2.2.1]
          have := bodyLk g w2 w3 _ (CV.lks cv).1
          rw [w4, w5] at this
          exact this
        · rw [w6] at rx; exact absurd rx (by decide)
  have hcR : cvA_ R (nk + nn) (ka R) := fun k q hk hq hh => by
    by_cases c : k < nk
    · exact (hcv.kk hK (by omega)) k q c hq hh
    · obtain ⟨g, w1, w2, w3, w4, w5, w6⟩ := hRI.2.2.1 k q (Nat.le_of_not_lt c) hk hq hh
      obtain ⟨-, -, ⟨s1, s2, s3⟩, cv, -, -, rx, -⟩ := hRI.2.1 g w2 w3
      rw [w4, w5] at rx cv
      rcases rx with rx | ⟨rx, -⟩
      · exact ⟨_, _, s3, by rw [rx.2.2.2.2.1]; exact cv⟩
      · rw [w6] at rx; exact absurd rx (by decide)
  have hpA : pjA R (abN R nk ab) (nk + nn) := ⟨⟨_, _, hAR⟩, hcR, fun q hq => by unfold rm_has; rw [V 8 _ (by unfold kkV; omega)]; exact hH q hq, by omega, hAe'⟩
  have nB : nM gB_ (pkX R fp nk nn np) = nM gB_ M := nM_eq (fun j hj => by
    obtain ⟨j1, j2⟩ := Bool.and_eq_true_iff.mp hj
    have j1 := Nat.le_of_ble_eq_true j1
    have j2 := Nat.le_of_ble_eq_true j2
    exact ⟨(pkX_So (by omega) (by omega) (by omega) (by omega) (by omega) (by omega)).trans (hK.1 j (by unfold kkS kbS kpS; omega)), funext fun i => (congrFun (pkX_Vo (by omega) (by omega)) i).trans (V j i (by unfold kkV; omega)), funext fun i => by rw [pkX_W, if_neg (by omega)]; exact hK.2.2.2.1 j i (by omega) (by omega) (by omega)⟩)
  refine ⟨na, ne, ⟨((pkX_So (by decide) (by decide) (by decide) (by decide) (by decide) (by decide)).trans (hK.1 48 (by unfold kkS kbS kpS; omega))).trans a1, a2⟩, ((pkX_So (by decide) (by decide) (by decide) (by decide) (by decide) (by decide)).trans (hK.1 54 (by unfold kkS kbS kpS; omega))).trans b, hpA.nf nX (pkX_So (by decide) (by decide) (by decide) (by decide) (by decide) (by decide)) (fun j h1 h2 => pkX_Vo (by omega) (by omega)), ⟨⟨tb', fun i => ⟨(htp i).1, ?_⟩⟩, ⟨0, ra, rfl, Nat.zero_le _, ?_, by omega⟩, rg, ?_, by omega⟩, ⟨?_, fun i hi => ?_⟩, ?_⟩
  · rw [pkX_Vo (by decide) (by decide), V 0 i (by unfold kkV; omega)]; exact (htp i).2
  · rw [pkX_So (by decide) (by decide) (by decide) (by decide) (by decide) (by decide)]; exact ra1
  · rw [pkX_So (by decide) (by decide) (by decide) (by decide) (by decide) (by decide)]; exact rg1
  · have s23 : (pkX R fp nk nn np).1 23 = R.1 23 + (if R.1 34 = R.1 23 then 1 else 0) := by rw [pkX_S, mw_u_ne _ _ (by decide), mw_u_eq]
    have v21 : ∀ p, p < np → ∃ v, v < y' ∧ (pkX R fp nk nn np).2.2.1 21 p = nI v := fun p hp => by
      rw [pkX_V, if_neg (fun z => absurd z.1 (by decide)), if_neg (by omega), V 21 p (by unfold kkV; omega)]
      exact y4 p hp
    have v21n : (pkX R fp nk nn np).2.2.1 21 np = nI v := by rw [pkX_V, if_neg (fun z => absurd z.1 (by decide)), if_pos ⟨rfl, rfl⟩]; exact h34
    by_cases z : v = y'
    · refine ⟨y' + 1, by rw [s23, h34, h23, z, if_pos rfl]; exact nI_p1, by omega, by omega, fun p hp => ?_⟩
      by_cases e : p = np
      · subst e; exact ⟨v, by omega, v21n⟩
      · obtain ⟨w, w1, w2⟩ := v21 p (by omega)
        exact ⟨w, by omega, w2⟩
    · refine ⟨y', by rw [s23, h34, h23, if_neg (nI_ne z (by omega) (by omega)), Int32.add_zero], y2, by omega, fun p hp => ?_⟩
      by_cases e : p = np
      · subst e; exact ⟨v, by omega, v21n⟩
      · obtain ⟨w, w1, w2⟩ := v21 p (by omega)
        exact ⟨w, by omega, w2⟩
  · rw [pkX_Vo (by decide) (by decide)]
    by_cases c : i < nk
    · rw [V 7 i (by unfold kkV; omega)]
      rcases hP i c with z | ⟨p, p1, p2⟩
      · exact Or.inl z
      · exact Or.inr ⟨p, by omega, p2⟩
    · exact Or.inr ⟨np, by omega, (hRI.1 i (Nat.le_of_not_lt c) hi).2.2.2.2.2.trans h19⟩
  · obtain ⟨hv1, hv2, hv3⟩ := hV
    have hv1' := hv1.nf nB
    exact ⟨fun app hap => by
      obtain ⟨K, p1, p2, p3, p4⟩ := hv1' app hap
      exact ⟨K, p1, by omega, hAe' K (by omega), p4⟩, hv2.nf nB, by omega⟩
end PXJ
