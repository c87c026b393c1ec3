/-! public methods of the class: what they answer -/
def cAns (C : cw_C) (c : Nat) : cw_C := if c = 0 then C else cw_sI C 13 0 c (cI C 13 0 c + 1)
def gP (ad : Nat → Nat → Nat) (h0 : mm_H) (C : cw_C) (h : mm_H) (s : Int32 × Nat) (r : Option Value) (h1 : mm_H) : Prop := r = some (.int s.1) ∧ cw ad h0 (cAns C s.2) h1 ∧ h1.2 = h.2
/-- what the methods that only look need -/
def rlG (ad : Nat → Nat → Nat) (C : cw_C) (M : mw_S) (ab : Nat → Option Nat) (nk np : Nat) : Prop := rgR ad C M nk np ∧ ckE ad C M ab nk ∧ (0 < cN C 11 ∧ 0 < cN C 13) ∧ cR C 11 0 3 = some (ad 7 0) ∧ cR C 11 0 9 = some (ad 13 0) ∧ M.1 3 = nI nk ∧ M.1 19 = nI np
theorem gP_ok {ad : Nat → Nat → Nat} {h0 h : mm_H} {C : cw_C} {s : Int32 × Nat} {v : Int32} (hC : cw ad h0 C h) (e : s = (v, 0)) : gP ad h0 C h s (some (.int v)) h := by
  rw [e]; exact ⟨rfl, hC, rfl⟩
theorem gP_no {ad : Nat → Nat → Nat} {h0 h h1 : mm_H} {C : cw_C} {s : Int32 × Nat} {v : Int32} {c : Nat} (hC : cw ad h0 (cw_sI C 13 0 c (cI C 13 0 c + 1)) h1) (eh : h1.2 = h.2) (e : s = (v, c)) (hc : ¬ c = 0) : gP ad h0 C h s (some (.int v)) h1 := by
  rw [e]; exact ⟨rfl, by unfold cAns; rw [if_neg hc]; exact hC, eh⟩

theorem ka_in {G : mm_G} {L : Nat × Nat} {d : Nat} {h : mm_H} {h0 : mm_H} {ad : Nat → Nat → Nat} {C : cw_C} {M : mw_S} {nk np k : Nat} (hR : rgR ad C M nk np) (hk : k < nk) (hC : cw ad h0 C h) : mm_Ok G mX7_kindAt L (d) [.ref (ad 7 0), .int (nI k)] h (fun r h1 => h1 = h ∧ r = some (.ref (ad 4 k))) := by
  refine mm_Ok.of [(0, .ref (ad 7 0)), (1, .int (nI k))] rfl kX7_kindAt.2.2.2.2.2 rfl (fun A => ?_)
  obtain ⟨⟨n7, n18, n19, h4, h5⟩, ⟨hk40, hp12⟩, r0, r1, r2, r3, r4, hK, hP⟩ := hR
  refine mm_iload_n (pc := 0) dX7_kindAt_0 rfl ?_
  refine mm_if_lt (pc := 1) (tgt := 30) dX7_kindAt_1 (by decide) (fun c1 => absurd c1 (nI_pos (by omega))) (fun c1 => ?_)
  refine mm_iload_n (pc := 4) dX7_kindAt_4 rfl ?_
  refine mm_aload_n (pc := 5) dX7_kindAt_5 rfl (by first | trivial | assumption | exact mm_isr_rf _) ?_
  refine cw_gi (pc := 6) 7 _ 1 hC (rfl) rfl (n7) dX7_kindAt_6 fl_X7_17 rfl rfl rfl ?_
  refine mm_topi _ r1 ?_
  refine mm_icmp_ge (pc := 9) (tgt := 30) dX7_kindAt_9 (by decide) (fun c9 => absurd c9 (nI_ge hk (by omega))) (fun c9 => ?_)
  refine mm_iload_n (pc := 12) dX7_kindAt_12 rfl ?_
  refine mm_aload_n (pc := 13) dX7_kindAt_13 rfl (by first | trivial | assumption | exact mm_isr_rf _) ?_
  refine cw_grS (pc := 14) 7 _ 0 hC (rfl) rfl (n7) dX7_kindAt_14 fl_X7_11 rfl rfl rfl (r0) ?_
  refine cw_alen (pc := 17) 18 _ hC (rfl) rfl (n18) dX7_kindAt_17 rfl rfl ?_
  refine mm_icmp_ge (pc := 18) (tgt := 30) dX7_kindAt_18 (by decide) (fun c18 => absurd c18 (nI_ge (b := (40 : Nat)) (by omega) (by decide))) (fun c18 => ?_)
  refine mm_aload_n (pc := 21) dX7_kindAt_21 rfl (by first | trivial | assumption | exact mm_isr_rf _) ?_
  refine cw_grS (pc := 22) 7 _ 0 hC (rfl) rfl (n7) dX7_kindAt_22 fl_X7_11 rfl rfl rfl (r0) ?_
  refine mm_iload_n (pc := 25) dX7_kindAt_25 rfl ?_
  refine cw_aald (pc := 26) (v := (.ref (ad 4 k))) 18 0 k hC (rfl) rfl (n18) dX7_kindAt_26 rfl rfl rfl (by first | with_reducible rfl | assumption | rfl) (by show k < 40; omega) (by omega) rfl (by rw [(hK k hk).1]; rfl) ?_
  refine mm_goto (pc := 27) (tgt := 31) dX7_kindAt_27 (by decide) ?_
  refine mm_aret (pc := 31) dX7_kindAt_31 rfl (Or.inl ⟨_, rfl⟩) (by first | trivial | assumption | exact mm_isr_rf _) ?_
  exact ⟨rfl, rfl⟩

theorem ka_no {G : mm_G} {L : Nat × Nat} {d : Nat} {h : mm_H} {h0 : mm_H} {ad : Nat → Nat → Nat} {C : cw_C} {M : mw_S} {nk np : Nat} {i : Int32} (hR : rgR ad C M nk np) (hi : sp_in i (nI nk) = 0) (hC : cw ad h0 C h) : mm_Ok G mX7_kindAt L (d) [.ref (ad 7 0), .int i] h (fun r h1 => h1 = h ∧ r = some .null) := by
  refine mm_Ok.of [(0, .ref (ad 7 0)), (1, .int i)] rfl kX7_kindAt.2.2.2.2.2 rfl (fun A => ?_)
  obtain ⟨⟨n7, n18, n19, h4, h5⟩, ⟨hk40, hp12⟩, r0, r1, r2, r3, r4, hK, hP⟩ := hR
  refine mm_iload_n (pc := 0) dX7_kindAt_0 rfl ?_
  refine mm_if_lt (pc := 1) (tgt := 30) dX7_kindAt_1 (by decide) (fun c1 => ?_) (fun c1 => ?_)
  · refine mm_null (pc := 30) dX7_kindAt_30 ?_
    refine mm_aret (pc := 31) dX7_kindAt_31 rfl (Or.inl ⟨_, rfl⟩) (by first | trivial | assumption | exact mm_isr_rf _) ?_
    exact ⟨rfl, rfl⟩
  · refine mm_iload_n (pc := 4) dX7_kindAt_4 rfl ?_
    refine mm_aload_n (pc := 5) dX7_kindAt_5 rfl (by first | trivial | assumption | exact mm_isr_rf _) ?_
    refine cw_gi (pc := 6) 7 _ 1 hC (rfl) rfl (n7) dX7_kindAt_6 fl_X7_17 rfl rfl rfl ?_
    refine mm_topi _ r1 ?_
    refine mm_icmp_ge (pc := 9) (tgt := 30) dX7_kindAt_9 (by decide) (fun c9 => ?_) (fun c9 => absurd (by unfold sp_in at hi; rw [if_neg c1] at hi; by_cases z : nI nk ≤ i; exact z; rw [if_neg z] at hi; exact absurd hi (by decide)) c9)
    refine mm_null (pc := 30) dX7_kindAt_30 ?_
    refine mm_aret (pc := 31) dX7_kindAt_31 rfl (Or.inl ⟨_, rfl⟩) (by first | trivial | assumption | exact mm_isr_rf _) ?_
    exact ⟨rfl, rfl⟩

theorem pl_ok {G : mm_G} {L : Nat × Nat} {d : Nat} {h : mm_H} {h0 : mm_H} {ad : Nat → Nat → Nat} {C : cw_C} {M : mw_S} (n11 : 0 < cN C 11) (h2 : cI C 11 0 2 = M.1 24) (hC : cw ad h0 C h) : mm_Ok G mX11_place L (d) [.ref (ad 11 0)] h (fun r h1 => h1 = h ∧ r = some (.int (M.1 24))) := by
  refine mm_Ok.of [(0, .ref (ad 11 0))] rfl kX11_place.2.2.2.2.2 rfl (fun A => ?_)
  refine mm_aload_n (pc := 0) dX11_place_0 rfl (by first | trivial | assumption | exact mm_isr_rf _) ?_
  refine cw_gi (pc := 1) 11 _ 2 hC (rfl) rfl (n11) dX11_place_1 fl_X11_17 rfl rfl rfl ?_
  refine mm_iret (pc := 4) dX11_place_4 rfl ?_
  exact ⟨rfl, by rw [h2]⟩

