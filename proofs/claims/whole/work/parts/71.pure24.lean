/-! the reference's constructor: its object while the first J fields stand -/
def ip_n (J : Nat) : Nat := ((List.range J).filter (fun i => Nat.ble 100 (mw_k i))).length
def ip_s (J : Nat) : Nat := ((List.range J).map (fun i => if Nat.ble 100 (mw_k i) then mw_n i else 0)).sum
def ip_M : mw_S := (fun j => if j = 23 then 1 else if j = 24 then -1 else 0, none, fun _ _ => 0, fun _ _ => 0, fun _ _ => none)
def ip_d (j : Nat) : Value := if mw_k j = 0 ∨ mw_k j = 2 then .int 0 else .null
def ip_f (b J j : Nat) : Value := if j < J then mw_f (fun i => b + ip_n i) ip_M j else ip_d j
def ip_W (m b : Nat) (h0 : mm_H) (J : Nat) (h : mm_H) : Prop :=
  h.1 m = some (12, (List.range 74).map (ip_f b J)) ∧ (∀ j, j < J → 100 ≤ mw_k j → h.1 (b + ip_n j) = some (mw_k j, mw_c ip_M j)) ∧
  (∀ a, ¬ a = m → a < b → h.1 a = h0.1 a) ∧ h.2.1 = b + ip_n J ∧ h.2.2 = h0.2.2 + ip_s J ∧ m < b ∧ h0.2.1 = b
theorem ip_n_s {J : Nat} : ip_n (J + 1) = ip_n J + (if Nat.ble 100 (mw_k J) then 1 else 0) := by
  unfold ip_n
  rw [List.range_succ, List.filter_append, List.length_append]
  by_cases e : Nat.ble 100 (mw_k J) = true
  · simp [e]
  · simp [e]
theorem ip_s_s {J : Nat} : ip_s (J + 1) = ip_s J + (if Nat.ble 100 (mw_k J) then mw_n J else 0) := by
  unfold ip_s
  rw [List.range_succ, List.map_append, List.sum_append]
  simp
theorem ip_n_m {i j : Nat} (h : i ≤ j) : ip_n i ≤ ip_n j := by
  induction h with
  | refl => exact Nat.le_refl _
  | step _ ih => rw [ip_n_s]; omega
theorem ip_n_lt {i j : Nat} (h : i < j) (hk : 100 ≤ mw_k i) : ip_n i < ip_n j := by
  have a := ip_n_m (i := i + 1) (j := j) h
  rw [ip_n_s, if_pos (Nat.ble_eq.mpr hk)] at a
  omega
theorem ip_fs {b J : Nat} {v : Value} (hv : v = mw_f (fun i => b + ip_n i) ip_M J) : ((List.range 74).map (ip_f b J)).set J v = (List.range 74).map (ip_f b (J + 1)) := by
  rw [mw_rangeS]
  congr 1
  funext i
  unfold mw_u ip_f
  by_cases e : i = J
  · rw [if_pos e, if_pos (by omega), e, hv]
  · rw [if_neg e]
    by_cases l : i < J
    · rw [if_pos l, if_pos (by omega)]
    · rw [if_neg l, if_neg (by omega)]
theorem ip_skip {m b J : Nat} {h0 h : mm_H} (g : ip_W m b h0 J h) (hk : Nat.ble 100 (mw_k J) = false) (hd : ip_d J = mw_f (fun i => b + ip_n i) ip_M J) : ip_W m b h0 (J + 1) h := by
  obtain ⟨g1, g2, g3, g4, g5, g6, g7⟩ := g
  refine ⟨?_, ?_, g3, ?_, ?_, g6, g7⟩
  · rw [g1]
    congr 3
    funext i
    unfold ip_f
    by_cases e : i = J
    · rw [if_neg (by omega), if_pos (by omega), e, hd]
    · by_cases l : i < J
      · rw [if_pos l, if_pos (by omega)]
      · rw [if_neg l, if_neg (by omega)]
  · intro j hj hkj
    by_cases e : j = J
    · rw [e] at hkj
      rw [Nat.ble_eq.mpr hkj] at hk
      cases hk
    · exact g2 j (by omega) hkj
  · rw [ip_n_s, hk]; exact g4
  · rw [ip_s_s, hk]; exact g5
theorem ip_sc {m b J : Nat} {h0 h : mm_H} {v : Value} (g : ip_W m b h0 J h) (hk : Nat.ble 100 (mw_k J) = false) (hv : v = mw_f (fun i => b + ip_n i) ip_M J) : ip_W m b h0 (J + 1) (mm_set h m (12, ((List.range 74).map (ip_f b J)).set J v)) := by
  obtain ⟨g1, g2, g3, g4, g5, g6, g7⟩ := g
  refine ⟨?_, ?_, ?_, ?_, ?_, g6, g7⟩
  · rw [ip_fs hv]; exact if_pos rfl
  · intro j hj hkj
    by_cases e : j = J
    · rw [e] at hkj
      rw [Nat.ble_eq.mpr hkj] at hk
      cases hk
    · refine Eq.trans (if_neg (by omega)) (g2 j (by omega) hkj)
  · intro a n l; exact Eq.trans (if_neg n) (g3 a n l)
  · rw [ip_n_s, hk]; exact g4
  · rw [ip_s_s, hk]; exact g5
theorem ip_arr {m b J : Nat} {h0 h : mm_H} (g : ip_W m b h0 J h) (hk : Nat.ble 100 (mw_k J) = true) (hl : (mw_c ip_M J).length = mw_n J) (hv : .ref (b + ip_n J) = mw_f (fun i => b + ip_n i) ip_M J) : ip_W m b h0 (J + 1) (mm_set (mm_push h (mw_k J, mw_c ip_M J)) m (12, ((List.range 74).map (ip_f b J)).set J (.ref h.2.1))) := by
  obtain ⟨g1, g2, g3, g4, g5, g6, g7⟩ := g
  refine ⟨?_, ?_, ?_, ?_, ?_, g6, g7⟩
  · rw [g4, ip_fs hv]; exact if_pos rfl
  · intro j hj hkj
    refine Eq.trans (if_neg (by omega)) ?_
    by_cases e : j = J
    · rw [e]; exact if_pos g4.symm
    · have q := ip_n_lt (i := j) (j := J) (by omega) hkj
      exact Eq.trans (if_neg (by rw [g4]; omega)) (g2 j (by omega) hkj)
  · intro a n l; exact Eq.trans (if_neg n) (Eq.trans (if_neg (by rw [g4]; omega)) (g3 a n l))
  · rw [ip_n_s, hk]; show h.2.1 + 1 = _; rw [g4]; simp; omega
  · rw [ip_s_s, hk]; show h.2.2 + (mw_c ip_M J).length = _; rw [g5, hl]; simp; omega
theorem ip_end {m b : Nat} {h0 h : mm_H} (g : ip_W m b h0 74 h) : mw_W m (fun i => b + ip_n i) h ip_M h := by
  obtain ⟨g1, g2, g3, g4, g5, g6, g7⟩ := g
  refine ⟨?_, fun j hj hk => g2 j hj hk, ?_, ?_, fun a _ _ _ => rfl, Nat.le_refl _, Nat.le_refl _, by omega, ?_, ?_⟩
  · rw [g1]
    congr 2
  · intro i j hi hj ki kj e
    have e : b + ip_n i = b + ip_n j := e
    rcases Nat.lt_trichotomy i j with q | q | q
    · have := ip_n_lt q ki; omega
    · exact q
    · have := ip_n_lt q kj; omega
  · intro j _ _ e
    have e : b + ip_n j = m := e
    omega
  · intro j hj hk
    have := ip_n_lt hj hk
    show b + ip_n j < h.2.1
    omega
  · refine ⟨fun j i _ => Or.inl rfl, fun j hk => ?_⟩
    show (if j = 23 then (1 : Int32) else if j = 24 then -1 else 0) = 0 ∨ (if j = 23 then (1 : Int32) else if j = 24 then -1 else 0) = 1
    by_cases e : j = 23
    · exact Or.inr (if_pos e)
    · by_cases e2 : j = 24
      · rw [e2] at hk; exact absurd hk (by decide)
      · exact Or.inl (by rw [if_neg e, if_neg e2])

