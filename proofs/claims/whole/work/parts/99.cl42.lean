/-! what holds between calls: pack -/
section KFC
variable {ab ab' : Nat → Option Nat} {nk n : Nat} {P P' : Nat → Bool} {M M' R : mw_S} {oK oQ : Nat → Nat} {a0 g0 k q np kk_ : Nat}
theorem kfind_cg2 (hab : kf_ok ab n) (hn : n ≤ 63) (h : ∀ i, i < n → ab' i = ab i) (hP : ∀ x, x < n → P' x = P x) : ∀ (f : Nat) (c : Option Nat), kf_lt f c → kf_lt n c → kfind ab' P' c = kfind ab P c := by
  have hab' : kf_ok ab' n := fun i j hi z => hab i j hi ((h i hi).symm.trans z)
  intro f
  induction f with
  | zero =>
    intro c hf hc
    cases c with
    | none => rfl
    | some x => exact absurd hf (Nat.not_lt_zero x)
  | succ f ih =>
    intro c hf hc
    cases c with
    | none => rfl
    | some x =>
      have hx : x < n := hc
      rw [kfind_some hab' hn hx, kfind_some hab hn hx, hP x hx, h x hx]
      have hl : kf_lt f (ab x) := by
        cases z : ab x with
        | none => trivial
        | some y => have := hab x y hx z; have hf : x < f + 1 := hf; show y < f; omega
      rw [ih (ab x) hl (kf_ab hab hx)]
theorem fnd_kk (hab : kf_ok ab nk) (hn : nk ≤ 50) (h : ∀ i, i < nk → ab' i = ab i) (hK : kk nk a0 g0 M R) (hk : k < nk) (hq : q < 6) {c : Option Nat} (hc : kf_lt nk c) : rn_fnd R ab' k q c = rn_fnd M ab k q c := by
  have V := hK.2.2.2.2
  unfold rn_fnd
  refine kfind_cg2 hab (by omega) h (fun x hx => ?_) nk c hc hc
  have e1 : rm_has R q x = rm_has M q x := by unfold rm_has; rw [V 8 _ (by unfold kkV; omega)]
  have e2 : rm_sees R q k x = rm_sees M q k x := by unfold rm_sees; rw [V 9 _ (by unfold kkV; omega), V 5 k (by unfold kkV; omega), V 5 x (by unfold kkV; omega)]
  rw [e1, e2]
theorem rm_lk.up {na na' : Nat} {oK' oQ' : Nat → Nat} {v : Int32} (h : rm_lk na oK oQ k q v) (hn : na ≤ na') (ho : ∀ y, y < na → oK' y = oK y ∧ oQ' y = oQ y) : rm_lk na' oK' oQ' k q v := by
  rcases h with h | ⟨y, y1, y2, y3, y4⟩
  · exact Or.inl h
  · exact Or.inr ⟨y, by omega, y2, (ho y y1).1.trans y3, (ho y y1).2.trans y4⟩
/-- an old action, over a pack that was read -/
theorem rm_A.old (hA : rm_A M nk a0 ab oK oQ) (hT : rm_T M nk ab) (hK : kk nk a0 g0 M R) (h : ∀ i, i < nk → ab' i = ab i) {nk' na' : Nat} {oK' oQ' : Nat → Nat} (hnk : nk ≤ nk') (hna : a0 ≤ na') (ho : ∀ y, y < a0 → oK' y = oK y ∧ oQ' y = oQ y) : (∀ x, x < a0 → (oK' x < nk' ∧ oQ' x < 6 ∧ rm_has R (oQ' x) (oK' x) = true) ∧ (∃ w, 1 ≤ w ∧ w ≤ 10 ∧ R.2.2.1 14 x = nI w) ∧ (R.2.2.1 15 x = -1 ∨ ∃ v, v ≤ 999 ∧ R.2.2.1 15 x = nI v) ∧ rm_lk na' oK' oQ' (oK' x) (oQ' x) (R.2.2.1 16 x) ∧ rm_lk na' oK' oQ' (oK' x) (oQ' x) (R.2.2.1 17 x) ∧ rm_lk na' oK' oQ' (oK' x) (oQ' x) (R.2.2.1 18 x) ∧ (R.2.2.1 14 x = 1 → ∃ j, rn_fnd R ab' (oK' x) (oQ' x) (ab' (oK' x)) = some j) ∧ (R.2.2.1 14 x = 2 → ∃ c, c < 6 ∧ R.2.2.1 15 x = nI c ∧ ∃ j, rn_fnd R ab' (oK' x) c (some (oK' x)) = some j)) ∧ ∀ k q, k < nk → q < 6 → rm_has R q k = true → rm_lk na' oK' oQ' k q (R.2.2.1 11 (6 * k + q)) := by
  have V := hK.2.2.2.2
  obtain ⟨-, h2, h3⟩ := hA
  have eh : ∀ q k, k < nk → q < 6 → rm_has R q k = rm_has M q k := fun q k hk hq => by unfold rm_has; rw [V 8 _ (by unfold kkV; omega)]
  refine ⟨fun x hx => ?_, fun k q hk hq hh => ?_⟩
  · obtain ⟨⟨a1, a2, a3⟩, b, c, d1, d2, d3, e1, e2⟩ := h2 x hx
    rw [(ho x hx).1, (ho x hx).2, V 14 x (by unfold kkV; omega), V 15 x (by unfold kkV; omega), V 16 x (by unfold kkV; omega), V 17 x (by unfold kkV; omega), V 18 x (by unfold kkV; omega)]
    refine ⟨⟨by omega, a2, by rw [eh _ _ a1 a2]; exact a3⟩, b, c, d1.up hna ho, d2.up hna ho, d3.up hna ho, fun z => ?_, fun z => ?_⟩
    · rw [h _ a1, fnd_kk hT.1 hT.2.1 h hK a1 a2 (kf_ab hT.1 a1)]; exact e1 z
    · obtain ⟨c, c1, c2, c3⟩ := e2 z
      exact ⟨c, c1, c2, by rw [fnd_kk (c := some (oK x)) hT.1 hT.2.1 h hK a1 c1 a1]; exact c3⟩
  · rw [V 11 _ (by unfold kkV; omega)]
    rw [eh q k hk hq] at hh
    exact (h3 k q hk hq hh).up hna ho
theorem cvA_.kk {na' nk : Nat} {M R : mw_S} {a0 g0 : Nat} (h : cvA_ M nk a0) (hK : kk nk a0 g0 M R) (hna : a0 ≤ na') : cvA_ R nk na' := by
  have V := hK.2.2.2.2
  intro k q hk hq hh
  have e8 : rm_has R q k = rm_has M q k := by unfold rm_has; rw [V 8 _ (by unfold kkV; omega)]
  rw [e8] at hh
  obtain ⟨s, e, he, hc⟩ := h k q hk hq hh
  refine ⟨s, e, by omega, ?_⟩
  rw [V 11 _ (by unfold kkV; omega)]
  exact hc.same (fun j i _ _ c => V j i (by unfold kkV; omega))
end KFC
section PXF
variable {M M' R : mw_S} {ab : Nat → Option Nat} {nk np k a0 g0 : Nat} {x : Int32}
theorem PX.fin (h : PX M ab nk np k) (hT : rm_T M nk ab) (hK : kk nk a0 g0 M M') (h13 : M.1 13 = nI a0) (ha : a0 ≤ 4000) (hk : k < 600) : PX (ghM M (mw_setS (mw_setS (mw_setS M' 1 0) 13 (nI a0)) 24 x)) ab nk np (k + 1) := by
  have hKF := kk_fin (x := x) (y := nI a0) (z := x) hK
  have V : ∀ j i, kkV nk a0 g0 j i → (ghM M (mw_setS (mw_setS (mw_setS M' 1 0) 13 (nI a0)) 24 x)).2.2.1 j i = M.2.2.1 j i := fun j i hv => hKF.2.2.2.2 j i hv
  have S : ∀ j, kkS j → ¬ j = 1 → (ghM M (mw_setS (mw_setS (mw_setS M' 1 0) 13 (nI a0)) 24 x)).1 j = M.1 j := fun j hj j1 => by
    have e : (ghM M (mw_setS (mw_setS (mw_setS M' 1 0) 13 (nI a0)) 24 x)).1 j = (mw_setS (mw_setS M 1 0) 24 x).1 j := hKF.1 j hj
    rw [e]
    show mw_u (mw_u M.1 1 0) 24 x j = M.1 j
    rw [mw_u_ne _ _ (by unfold kkS kbS kpS at hj; omega), mw_u_ne _ _ j1]
  have ek : ka (ghM M (mw_setS (mw_setS (mw_setS M' 1 0) 13 (nI a0)) 24 x)) = a0 := nI_clamp (show a0 < 2 ^ 31 by omega)
  have ek0 : ka M = a0 := by unfold ka; rw [h13, nI_clamp (by omega)]
  obtain ⟨na, ne, ⟨a1, a2⟩, b, ⟨⟨oK, oQ, hA⟩, hcv, hH, h0, hAe⟩, ⟨⟨tb, htp⟩, ⟨n', a', q1, q2, q3, q4⟩, g1, g2, g3⟩, ⟨⟨y, y1, y2, y3, y4⟩, hP⟩, hV⟩ := h
  rw [ek0] at hA hcv
  have ea : a' = a0 := (nI_eq (by omega) (by omega)).mp (q3.symm.trans h13)
  subst ea
  have hA2 := rm_A.old (M := mw_setS (mw_setS M 1 0) 24 x) (ab' := ab) hA hT hKF (fun _ _ => rfl) (Nat.le_refl nk) (Nat.le_refl a') (fun _ _ => ⟨rfl, rfl⟩)
  have hcv2 : cvA_ (mUN M.2.2.2.2 M.2.1 (ghM M (mw_setS (mw_setS (mw_setS M' 1 0) 13 (nI a')) 24 x))) nk a' := (hcv.of2 (M1 := mw_setS (mw_setS M 1 0) 24 x) (fun _ _ _ => rfl)).kk hKF (Nat.le_refl _)
  have nB : nM gB_ (ghM M (mw_setS (mw_setS (mw_setS M' 1 0) 13 (nI a')) 24 x)) = nM gB_ M := nM_eq (fun j hj => by
    obtain ⟨j1, j2⟩ := Bool.and_eq_true_iff.mp hj
    have j1 := Nat.le_of_ble_eq_true j1
    have j2 := Nat.le_of_ble_eq_true j2
    exact ⟨S j (by unfold kkS kbS kpS; omega) (by omega), funext fun i => V j i (by unfold kkV; omega), funext fun i => hKF.2.2.2.1 j i (by omega) (by omega) (by omega)⟩)
  refine ⟨na, ne, ⟨(S 48 (by unfold kkS kbS kpS; omega) (by decide)).trans a1, a2⟩, (S 54 (by unfold kkS kbS kpS; omega) (by decide)).trans b, ⟨⟨oK, oQ, by rw [ek]; exact ⟨hA.1, hA2⟩⟩, by rw [ek]; exact hcv2.of2 (fun _ _ _ => rfl), fun q hq => ?_, h0, hAe⟩, ⟨⟨tb, fun i => ⟨(htp i).1, (V 0 i (by unfold kkV; omega)).trans (htp i).2⟩⟩, ⟨0, a', rfl, Nat.zero_le _, rfl, by omega⟩, g1, g2, g3⟩, ⟨⟨y, (S 23 (by unfold kkS kbS kpS; omega) (by decide)).trans y1, y2, y3, fun p hp => ?_⟩, fun i hi => ?_⟩, hV.nf nB⟩
  · unfold rm_has; rw [V 8 _ (by unfold kkV; omega)]; exact hH q hq
  · rw [V 21 p (by unfold kkV; omega)]; exact y4 p hp
  · rw [V 7 i (by unfold kkV; omega)]; exact hP i hi
end PXF
/-- where the links of a row of actions lead -/
theorem COV.lks {M : mw_S} {k q : Nat} : ∀ (f deep : Nat) (v : Int32) (s e : Nat), COV M k q f deep v s e → s ≤ e ∧ (v = -1 ∨ ∃ y, s ≤ y ∧ y < e ∧ v = nI y) ∧ ∀ x, s ≤ x → x < e → ∀ j, 16 ≤ j → j ≤ 18 → M.2.2.1 j x = -1 ∨ ∃ y, s ≤ y ∧ y < e ∧ M.2.2.1 j x = nI y := by
  intro f
  induction f with
  | zero => intro deep v s e h; exact h.elim
  | succ f ih =>
    intro deep v s e h
    rcases h with ⟨h1, h2⟩ | ⟨h1, h2, h3, h4, m1, m2, p1, p2, p3, c1, c2, c3⟩
    · exact ⟨by omega, Or.inl h1, fun x a b => by omega⟩
    · obtain ⟨i1, i2, i3⟩ := ih _ _ _ _ c1
      obtain ⟨j1, j2, j3⟩ := ih _ _ _ _ c2
      obtain ⟨k1, k2, k3⟩ := ih _ _ _ _ c3
      have up : ∀ {s' e' : Nat} {v : Int32}, s ≤ s' → e' ≤ e → (v = -1 ∨ ∃ y, s' ≤ y ∧ y < e' ∧ v = nI y) → (v = -1 ∨ ∃ y, s ≤ y ∧ y < e ∧ v = nI y) := fun a b z => by
        rcases z with z | ⟨y, y1, y2, y3⟩
        · exact Or.inl z
        · exact Or.inr ⟨y, by omega, by omega, y3⟩
      refine ⟨by omega, Or.inr ⟨s, Nat.le_refl _, h2, h1⟩, fun x a b j j16 j18 => ?_⟩
      by_cases e1 : x = s
      · subst e1
        have : j = 16 ∨ j = 17 ∨ j = 18 := by omega
        rcases this with rfl | rfl | rfl
        · exact up (by omega) (by omega) i2
        · exact up (by omega) (by omega) j2
        · exact up (by omega) (by omega) k2
      · by_cases e2 : x < m1
        · exact up (by omega) (by omega) (i3 x (by omega) e2 j j16 j18)
        · by_cases e3 : x < m2
          · exact up (by omega) (by omega) (j3 x (by omega) e3 j j16 j18)
          · exact up (by omega) (by omega) (k3 x (by omega) b j j16 j18)
theorem CV.lks {M : mw_S} {k q deep s e : Nat} {v : Int32} (h : CV M k q deep v s e) : (v = -1 ∨ ∃ y, s ≤ y ∧ y < e ∧ v = nI y) ∧ ∀ x, s ≤ x → x < e → ∀ j, 16 ≤ j → j ≤ 18 → M.2.2.1 j x = -1 ∨ ∃ y, s ≤ y ∧ y < e ∧ M.2.2.1 j x = nI y := by
  obtain ⟨f, h⟩ := h
  exact (COV.lks f _ _ _ _ h).2
