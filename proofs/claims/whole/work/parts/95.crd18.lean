theorem pIn.oK {N : Nat → Nat} {ad adS ad1 : Nat → Nat → Nat} {C CS C1 : cw_C} {k : Nat} (h : oK N adS CS ad C) (y : pIn C ad1 C1 k) (ha : ∀ f i, i < cN C f → ad1 f i = ad f i) (h4 : N 5 ≤ k) : oK N adS CS ad1 C1 := fun f => by
  obtain ⟨y1, y2, y3, y4, -⟩ := y
  have hle := (h f).1
  by_cases e4 : f = 5
  · subst e4
    refine ⟨by omega, fun i hi => ?_⟩
    obtain ⟨a1, a2, a3, a4⟩ := (h 5).2 i hi
    exact ⟨(ha 5 i (by omega)).trans a1, (funext (fun j => (y4 i j (by omega)).1)).trans a2, fun z => (funext (fun j => (y4 i j (by omega)).2.1)).trans (a3 z), (funext (fun j => (y4 i j (by omega)).2.2)).trans a4⟩
  · by_cases e21 : f = 20
    · subst e21
      refine ⟨?_, fun i hi => ?_⟩
      · unfold cN; rw [y3]; show N 20 ≤ cN (cw_ext C 20 _ _ _) 20; rw [cN_ext]; omega
      · obtain ⟨a1, a2, a3, a4⟩ := (h 20).2 i hi
        rw [y3]
        unfold cw_new
        rw [cw_ext_f]
        exact ⟨(ha 20 i (by omega)).trans a1, (cu_ne (by omega)).trans a2, fun z => (cu_ne (by omega)).trans (a3 z), (cu_ne (by omega)).trans a4⟩
    · rw [show cN C1 f = cN C f by unfold cN; rw [y1 f e4 e21], y1 f e4 e21]
      refine ⟨hle, fun i hi => ?_⟩
      obtain ⟨a1, a2⟩ := (h f).2 i hi
      exact ⟨(ha f i (by omega)).trans a1, a2⟩
def pQL (N : Nat → Nat) (h0 : mm_H) (ad : Nat → Nat → Nat) (C : cw_C) (np : Nat) (h : mm_H) (r : Option Value) (h1 : mm_H) : Prop := ∃ ad1 C1, r = some (.ref (ad1 5 np)) ∧ cw ad1 h0 C1 h1 ∧ oK N ad C ad1 C1 ∧ ad1 6 0 = ad 6 0 ∧ 0 < cN C1 6 ∧ h1.2 = (h.2.1 + 2, h.2.2 + 18) ∧ cI C1 6 0 0 = 700
theorem oK.ten {N : Nat → Nat} {ad adS ad1 : Nat → Nat → Nat} {C CS C1 : cw_C} (h : oK N adS CS ad C) (ha : ∀ g i, ¬ g = 10 → ad1 g i = ad g i) (hc : ∀ g, ¬ g = 10 → C1 g = C g) (h10 : N 10 = 0) : oK N adS CS ad1 C1 := fun f => by
  by_cases e : f = 10
  · subst e; exact ⟨by omega, fun i hi => by omega⟩
  · rw [show cN C1 f = cN C f by unfold cN; rw [hc f e], hc f e]
    refine ⟨(h f).1, fun i hi => ?_⟩
    obtain ⟨a1, a2⟩ := (h f).2 i hi
    exact ⟨(ha f i e).trans a1, a2⟩

theorem rp_long {G : mm_G} {L : Nat × Nat} {d : Nat} {h : mm_H} {h0 : mm_H} {n np : Nat} {ad : Nat → Nat → Nat} {C : cw_C} {N : Nat → Nat} (n12 : 0 < cN C 12) (hn7 : 700 < n) (hn8 : n ≤ 800) (h6n : cN C 6 = 1) (h5 : cN C 5 = np) (h20 : cN C 20 = np) (hN : ∀ f, N f ≤ cN C f) (hN6 : N 6 = 0) (hL1 : h.2.1 + 2 ≤ L.1) (hL2 : h.2.2 + 18 ≤ L.2) (hC : cw ad h0 C h) : mm_Ok G mX6_readPack L (d + 2) [.ref (ad 6 0), .ref (ad 12 0), .int (nI n)] h (fun r h1 => pQL N h0 ad C np h r h1) := by
  refine mm_Ok.of [(0, .ref (ad 6 0)), (1, .ref (ad 12 0)), (2, .int (nI n))] rfl kX6_readPack.2.2.2.2.2 rfl (fun A => ?_)
  refine mm_new (pc := 0) dX6_readPack_0 nl_X6_24 (by omega) (by show h.2.2 + 8 ≤ L.2; omega) ?_
  have hC := hC.new 5 (by decide) rfl rfl
  have en : cw_ad ad C 5 h.2.1 5 np = h.2.1 := by rw [← h5]; exact cw_ad_n
  have e6 : cw_ad ad C 5 h.2.1 6 0 = ad 6 0 := cw_ad_o (by omega)
  have e12 : cw_ad ad C 5 h.2.1 12 0 = ad 12 0 := cw_ad_o n12
  rw [← en, ← e6, ← e12]
  have hokA : oK N ad C (cw_ad ad C 5 h.2.1) (cw_new C 5) := (oK.refl hN).ext
  have hA1 : ∀ f i, i < cN C f → cw_ad ad C 5 h.2.1 f i = ad f i := fun f i hi => cw_ad_o hi
  have n5 : np < cN (cw_new C 5) 5 := by rw [show cN (cw_new C 5) 5 = cN C 5 + 1 from cN_ext]; omega
  have hC5 : ∀ f, ¬ f = 5 → cw_new C 5 f = C f := fun f hf => cw_ext_o hf
  refine mm_dup (pc := 3) dX6_readPack_3 rfl ?_
  refine mm_callIN (pc := 4) (As := []) dX6_readPack_4 inl_X6_26 (x5_init n5 (show h.2.1 + 1 + 1 ≤ L.1 by omega) (show h.2.2 + 8 + 10 ≤ L.2 by omega) hC) rfl rfl (Nat.le_of_ble_eq_true rfl) ?_
  rintro _ h4 ⟨ad1, C1, hC, ha1, hpi, s4, rfl⟩
  have hokB := pIn.oK hokA hpi ha1 (by have := hN 5; omega)
  have c1 : ∀ f, ¬ f = 5 → ¬ f = 20 → C1 f = C f := fun f a b => (hpi.1 f a b).trans (hC5 f a)
  have m5 : np < cN C1 5 := by rw [hpi.2.1]; exact n5
  have m20 : np < cN C1 20 := by unfold cN; rw [hpi.2.2.1]; show np < cN (cw_ext (cw_new C 5) 20 _ _ _) 20; rw [cN_ext, cN_o (hC5 20 (by decide)), h20]; omega
  have hA2 : ∀ f i, i < cN C f → ad1 f i = ad f i := fun f i hi => (ha1 f i (Nat.lt_of_lt_of_le hi (by
    by_cases e : f = 5
    · subst e; rw [show cN (cw_new C 5) 5 = cN C 5 + 1 from cN_ext]; omega
    · rw [cN_o (hC5 f e)]; exact Nat.le_refl _))).trans (hA1 f i hi)
  have r6 : cR C1 5 np 6 = some (ad1 20 np) := by rw [hpi.2.2.2.2.2.2.1, cN_o (hC5 20 (by decide)), h20]
  rw [← ha1 5 np n5, ← ha1 6 0 (by rw [cN_o (hC5 6 (by decide))]; omega), ← ha1 12 0 (by rw [cN_o (hC5 12 (by decide))]; exact n12)]
  have s4 : h4.2 = (h.2.1 + 2, h.2.2 + 18) := by rw [s4]; rfl
  have n12 : 0 < cN C1 12 := by rw [cN_o (c1 12 (by decide) (by decide))]; exact n12
  have n6 : 0 < cN C1 6 := by rw [cN_o (c1 6 (by decide) (by decide))]; omega
  refine mm_astore_n (pc := 7) dX6_readPack_7 (by first | trivial | assumption | exact mm_isr_rf _) rfl (Nat.le_of_ble_eq_true rfl) ?_
  refine mm_iload_n (pc := 8) dX6_readPack_8 rfl ?_
  refine mm_sipush (pc := 9) (v := 700) dX6_readPack_9 (by decide) ?_
  refine mm_icmp_gt (pc := 12) (tgt := 21) dX6_readPack_12 (by decide) (fun c12 => ?_) (fun c12 => absurd ((nI_ltI (a := 700) (by decide) (by omega)).mpr hn7) c12)
  refine mm_aload_n (pc := 21) dX6_readPack_21 rfl (by first | trivial | assumption | exact mm_isr_rf _) ?_
  refine mm_sipush (pc := 22) (v := 700) dX6_readPack_22 (by decide) ?_
  refine cw_pi (pc := 25) 6 _ 0 hC (rfl) rfl (n6) dX6_readPack_25 (pl_X6_9 _) rfl rfl (rfl) (rfl) (fun h25 hC e25 => ?_)
  refine mm_aload_n (pc := 28) dX6_readPack_28 rfl (by first | trivial | assumption | exact mm_isr_rf _) ?_
  refine mm_aret (pc := 29) dX6_readPack_29 rfl (Or.inl ⟨_, rfl⟩) (by first | trivial | assumption | exact mm_isr_rf _) ?_
  refine ⟨ad1, _, rfl, hC, hokB.sI (by omega), hA2 6 0 (by omega), by rw [cw_sI_N]; exact n6, ?_, cI_sI_e⟩
  rw [e25, s4]

