/-! the chain of words -/
def wR (C : cw_C) (tb : Nat → Nat) (n s : Nat) : Prop := cI C 10 s 0 = nI (cd tb n s) ∧ cI C 10 s 1 = nI (qs tb n s) ∧ (cd tb n s = 2 → cL C 10 s 3 = spL (wo tb n s)) ∧ (cd tb n s = 3 → cL C 10 s 3 = Int64.ofNat (nu tb n s))
/-- t words stand -/
def wI (ad : Nat → Nat → Nat) (C : cw_C) (tb : Nat → Nat) (n t : Nat) : Prop := cN C 10 = t ∧ (∀ s, s < t → wR C tb n s) ∧ (∀ s, s + 1 < t → cR C 10 s 4 = some (ad 10 (s + 1)) ∧ 2 ≤ cd tb n s) ∧ ∀ s, s + 1 = t → cR C 10 s 4 = none
def tpC (C : cw_C) (tb : Nat → Nat) : Prop := (∀ i, tb i < 256) ∧ 0 < cN C 12 ∧ ∀ i, i < 800 → cI C 12 0 i = bt (tb i)
theorem tpC.t {ad : Nat → Nat → Nat} {h0 h : mm_H} {C : cw_C} {tb : Nat → Nat} (hT : tpC C tb) (hC : cw ad h0 C h) : tpc h (ad 12 0) tb := by
  refine ⟨hT.1, ?_⟩
  rw [cw_cell hC rfl rfl hT.2.1]
  refine congrArg (fun l => some ((101 : Nat), l)) (mw_mapc (fun i hi => ?_))
  show Value.int (cI C 12 0 i) = _
  rw [hT.2.2 i hi]
theorem qs_ge {tb : Nat → Nat} {n : Nat} : ∀ t, (∀ s, s < t → 2 ≤ cd tb n s) → t ≤ qs tb n t := by
  intro t
  induction t with
  | zero => intro _; exact Nat.zero_le _
  | succ t ih =>
    intro h
    have a := ih (fun s hs => h s (by omega))
    have b := (qs_lt (h t (by omega))).2.1
    omega
theorem tkA_lt : ∀ e ∈ tkA, e.2 < 33 := by decide +kernel
theorem cd_lt (tb : Nat → Nat) (n t : Nat) : cd tb n t < 33 := by
  unfold cd tkC
  by_cases c : tkK tb n (qs tb n t) = 2 ∨ tkK tb n (qs tb n t) = 4
  · rw [if_pos c]
    rcases wlook_mem (l := tkA) (ws := wn tb (qs tb n t) (tkT tb n (qs tb n t))) with z | z
    · omega
    · exact tkA_lt _ z
  · rw [if_neg c]
    have := tkK_lt tb n (qs tb n t)
    omega
/-- a word more -/
def wN (C : cw_C) (w p s : Nat) (v : Int64) : cw_C := cw_ext C 10 (fun j => [nI w, nI p, nI s].getD j 0) (fun _ => v) (fun _ => none)
theorem wN_add {ad : Nat → Nat → Nat} {h0 h h1 : mm_H} {C : cw_C} {w p s : Nat} {v : Int64} (hC : cw ad h0 C h) (e : h1 = mm_set (mm_push h wd0) h.2.1 (10, [.int (nI w), .int (nI p), .int (nI s), .long v, .null])) : cw (cw_ad ad C 10 h.2.1) h0 (wN C w p s v) h1 ∧ h1.2 = (h.2.1 + 1, h.2.2 + 5) := by
  subst e
  refine ⟨cw_add hC 10 (by decide) ?_ ?_ ?_ ?_, rfl⟩
  · exact mm_set_eq
  · intro z hz
    exact mm_set_ne hz (mm_push_ne hz rfl)
  · exact Nat.lt_succ_self _
  · exact Nat.le_add_right _ _
theorem wN_N {C : cw_C} {w p s : Nat} {v : Int64} : cN (wN C w p s v) 10 = cN C 10 + 1 := by unfold wN cN; rw [cw_ext_f]
theorem wN_o {C : cw_C} {w p s g : Nat} {v : Int64} (h : ¬ g = 10) : wN C w p s v g = C g := cw_ext_o h
theorem wN_new {C : cw_C} {w p s : Nat} {v : Int64} : cI (wN C w p s v) 10 (cN C 10) 0 = nI w ∧ cI (wN C w p s v) 10 (cN C 10) 1 = nI p ∧ cI (wN C w p s v) 10 (cN C 10) 2 = nI s ∧ cL (wN C w p s v) 10 (cN C 10) 3 = v ∧ cR (wN C w p s v) 10 (cN C 10) 4 = none := by
  unfold wN cI cL cR
  rw [cw_ext_f]
  dsimp only
  rw [cu_eq, cu_eq, cu_eq]
  exact ⟨rfl, rfl, rfl, rfl, rfl⟩
theorem wN_old {C : cw_C} {w p s i j : Nat} {v : Int64} (h : i < cN C 10) : cI (wN C w p s v) 10 i j = cI C 10 i j ∧ cL (wN C w p s v) 10 i j = cL C 10 i j ∧ cR (wN C w p s v) 10 i j = cR C 10 i j := by
  unfold wN cI cL cR
  rw [cw_ext_f]
  dsimp only
  rw [cu_ne (Nat.ne_of_lt h), cu_ne (Nat.ne_of_lt h), cu_ne (Nat.ne_of_lt h)]
  exact ⟨rfl, rfl, rfl⟩
/-- the word t joins, and the one before it points at it -/
theorem wI_0 {ad : Nat → Nat → Nat} {C : cw_C} {tb : Nat → Nat} {n s a : Nat} {v : Int64} (hI : wI ad C tb n 0) (c2 : cd tb n 0 = 2 → v = spL (wo tb n 0)) (c3 : cd tb n 0 = 3 → v = Int64.ofNat (nu tb n 0)) : wI (cw_ad ad C 10 a) (wN C (cd tb n 0) (qs tb n 0) s v) tb n 1 := by
  have n0 := hI.1
  refine ⟨by rw [wN_N, n0], fun i hi => ?_, fun i hi => by omega, fun i hi => ?_⟩
  · obtain rfl : i = 0 := by omega
    have q := wN_new (C := C) (w := cd tb n 0) (p := qs tb n 0) (s := s) (v := v)
    rw [n0] at q
    exact ⟨q.1, q.2.1, fun z => q.2.2.2.1.trans (c2 z), fun z => q.2.2.2.1.trans (c3 z)⟩
  · obtain rfl : i = 0 := by omega
    have q := wN_new (C := C) (w := cd tb n 0) (p := qs tb n 0) (s := s) (v := v)
    rw [n0] at q
    exact q.2.2.2.2
theorem wI_s {ad : Nat → Nat → Nat} {C : cw_C} {tb : Nat → Nat} {n s a t : Nat} {v : Int64} (hI : wI ad C tb n (t + 1)) (ht : 2 ≤ cd tb n t) (c2 : cd tb n (t + 1) = 2 → v = spL (wo tb n (t + 1))) (c3 : cd tb n (t + 1) = 3 → v = Int64.ofNat (nu tb n (t + 1))) : wI (cw_ad ad C 10 a) (cw_sR (wN C (cd tb n (t + 1)) (qs tb n (t + 1)) s v) 10 t 4 (some a)) tb n (t + 1 + 1) := by
  obtain ⟨n0, h1, h2, h3⟩ := hI
  have q := wN_new (C := C) (w := cd tb n (t + 1)) (p := qs tb n (t + 1)) (s := s) (v := v)
  rw [n0] at q
  have o := fun i j (h : i < t + 1) => wN_old (C := C) (w := cd tb n (t + 1)) (p := qs tb n (t + 1)) (s := s) (v := v) (i := i) (j := j) (by rw [n0]; exact h)
  have eI : ∀ i j, cI (cw_sR (wN C (cd tb n (t + 1)) (qs tb n (t + 1)) s v) 10 t 4 (some a)) 10 i j = cI (wN C (cd tb n (t + 1)) (qs tb n (t + 1)) s v) 10 i j := by
    intro i j; unfold cI; rw [cw_sR_f]
  have eL : ∀ i j, cL (cw_sR (wN C (cd tb n (t + 1)) (qs tb n (t + 1)) s v) 10 t 4 (some a)) 10 i j = cL (wN C (cd tb n (t + 1)) (qs tb n (t + 1)) s v) 10 i j := by
    intro i j; unfold cL; rw [cw_sR_f]
  have eR : ∀ i, ¬ i = t → cR (cw_sR (wN C (cd tb n (t + 1)) (qs tb n (t + 1)) s v) 10 t 4 (some a)) 10 i 4 = cR (wN C (cd tb n (t + 1)) (qs tb n (t + 1)) s v) 10 i 4 := by
    intro i hi; unfold cR; rw [cw_sR_f]; exact cu2_ne (fun z => hi z.1)
  refine ⟨by rw [cw_sR_N, wN_N, n0], fun i hi => ?_, fun i hi => ?_, fun i hi => ?_⟩
  · unfold wR
    rw [eI, eI, eL]
    by_cases e : i = t + 1
    · subst e
      exact ⟨q.1, q.2.1, fun z => q.2.2.2.1.trans (c2 z), fun z => q.2.2.2.1.trans (c3 z)⟩
    · rw [(o i 0 (by omega)).1, (o i 1 (by omega)).1, (o i 3 (by omega)).2.1]
      exact h1 i (by omega)
  · by_cases e : i = t
    · subst e
      refine ⟨?_, ht⟩
      unfold cR
      rw [cw_sR_f]
      have e2 : cw_ad ad C 10 a 10 (i + 1) = a := by rw [← n0]; exact cw_ad_n
      rw [e2]
      exact cu2_eq
    · rw [eR i e, (o i 4 (by omega)).2.2, cw_ad_o (by rw [n0]; omega)]
      exact h2 i (by omega)
  · obtain rfl : i = t + 1 := by omega
    rw [eR _ (by omega)]
    exact q.2.2.2.2
/-- a word that can be come to stands -/
theorem wI.at {ad : Nat → Nat → Nat} {C : cw_C} {tb : Nat → Nat} {n T : Nat} (hI : wI ad C tb n T) (hT : 0 < T) (he : cd tb n (T - 1) < 2) {t : Nat} (ht : ∀ s, s < t → 2 ≤ cd tb n s) : t < T ∧ wR C tb n t ∧ (2 ≤ cd tb n t → cR C 10 t 4 = some (ad 10 (t + 1))) ∧ (cd tb n t < 2 → cR C 10 t 4 = none) := by
  have h1 : t < T := by
    rcases Nat.lt_or_ge t T with z | z
    · exact z
    · have := ht (T - 1) (by omega)
      omega
  refine ⟨h1, hI.2.1 t h1, fun h => ?_, fun h => ?_⟩
  · rcases Nat.lt_or_ge (t + 1) T with z | z
    · exact (hI.2.2.1 t z).1
    · have e : T - 1 = t := by omega
      rw [e] at he
      omega
  · rcases Nat.lt_or_ge (t + 1) T with z | z
    · have := (hI.2.2.1 t z).2
      omega
    · exact hI.2.2.2 t (by omega)

theorem ok_X10_chainOf {G : mm_G} {L : Nat × Nat} {d : Nat} {h : mm_H} {h0 : mm_H} {ad : Nat → Nat → Nat} {C : cw_C} {n : Nat} {tb : Nat → Nat} (hTp : tpC C tb) (hlt : lt_ G h0) (hn : n ≤ 700) (h10 : cN C 10 = 0) (hL1 : h.2.1 + n + 1 ≤ L.1) (hL2 : h.2.2 + 5 * (n + 1) ≤ L.2) (hC : cw ad h0 C h) : mm_Ok G mX10_chainOf L (d + 9) [.ref (ad 12 0), .int (nI n)] h (fun r h1 => ∃ ad1 C1 T, cw ad1 h0 C1 h1 ∧ (∀ g i, ¬ g = 10 → ad1 g i = ad g i) ∧ (∀ g, ¬ g = 10 → C1 g = C g) ∧ wI ad1 C1 tb n T ∧ 0 < T ∧ cd tb n (T - 1) < 2 ∧ T ≤ n + 1 ∧ h1.2.1 = h.2.1 + T ∧ h1.2.2 = h.2.2 + 5 * T ∧ r = some (.ref (ad1 10 0))) := by
  refine mm_Ok.of [(0, .ref (ad 12 0)), (1, .int (nI n))] rfl kX10_chainOf.2.2.2.2.2 rfl (fun A => ?_)
  have fin_ : ∀ (ad1 : Nat → Nat → Nat) (C1 : cw_C) (h1 : mm_H) (T : Nat) (p4 p6 : Int32) (v3 : Value), cw ad1 h0 C1 h1 → (∀ g i, ¬ g = 10 → ad1 g i = ad g i) → (∀ g, ¬ g = 10 → C1 g = C g) → wI ad1 C1 tb n T → 0 < T → cd tb n (T - 1) < 2 → T ≤ n + 1 → h1.2.1 = h.2.1 + T → h1.2.2 = h.2.2 + 5 * T → mm_Run G mX10_chainOf A L (d + 9) 13 [(5, .int 0), (6, .int p6), (2, .ref (ad1 10 0)), (0, .ref (ad 12 0)), (1, .int (nI n))] [] h1 (fun r h1 => ∃ ad1 C1 T, cw ad1 h0 C1 h1 ∧ (∀ g i, ¬ g = 10 → ad1 g i = ad g i) ∧ (∀ g, ¬ g = 10 → C1 g = C g) ∧ wI ad1 C1 tb n T ∧ 0 < T ∧ cd tb n (T - 1) < 2 ∧ T ≤ n + 1 ∧ h1.2.1 = h.2.1 + T ∧ h1.2.2 = h.2.2 + 5 * T ∧ r = some (.ref (ad1 10 0))) := by
    intro ad1 C1 h1 T p4 p6 v3 hC g1 g2 hI hT0 he hTn s1 s2
    refine mm_iload (pc := 13) dX10_chainOf_13 rfl ?_
    refine mm_iload_n (pc := 15) dX10_chainOf_15 rfl ?_
    refine mm_icmp_gt (pc := 16) (tgt := 100) dX10_chainOf_16 (by decide) (fun c16 => ?_) (fun c16 => ?_)
    · refine mm_aload_n (pc := 100) dX10_chainOf_100 rfl (by first | trivial | assumption | exact mm_isr_rf _) ?_
      refine mm_aret (pc := 101) dX10_chainOf_101 rfl (Or.inl ⟨_, rfl⟩) (by first | trivial | assumption | exact mm_isr_rf _) ?_
      exact ⟨ad1, C1, T, hC, g1, g2, hI, hT0, he, hTn, s1, s2, rfl⟩
    · refine mm_iload (pc := 19) dX10_chainOf_19 rfl ?_
      refine mm_if_eq (pc := 21) (tgt := 100) dX10_chainOf_21 (by decide) (fun c21 => ?_) (fun c21 => absurd rfl c21)
      refine mm_aload_n (pc := 100) dX10_chainOf_100 rfl (by first | trivial | assumption | exact mm_isr_rf _) ?_
      refine mm_aret (pc := 101) dX10_chainOf_101 rfl (Or.inl ⟨_, rfl⟩) (by first | trivial | assumption | exact mm_isr_rf _) ?_
      exact ⟨ad1, C1, T, hC, g1, g2, hI, hT0, he, hTn, s1, s2, rfl⟩
  have lp_ : ∀ (q t : Nat), t + q = n + 1 → ∀ (ad1 : Nat → Nat → Nat) (C1 : cw_C) (h1 : mm_H) (p0 : Nat), cw ad1 h0 C1 h1 → (∀ g i, ¬ g = 10 → ad1 g i = ad g i) → (∀ g, ¬ g = 10 → C1 g = C g) → wI ad1 C1 tb n t → (∀ s, s < t → 2 ≤ cd tb n s) → p0 ≤ n → tkF tb n p0 = qs tb n t → h1.2.1 = h.2.1 + t → h1.2.2 = h.2.2 + 5 * t →  mm_Run G mX10_chainOf A L (d + 9) 13 [(4, .int (nI p0)), (5, .int 1), (6, .int (nI t)), (2, if t = 0 then .null else .ref (ad1 10 0)), (3, if t = 0 then .null else .ref (ad1 10 (t - 1))), (0, .ref (ad 12 0)), (1, .int (nI n))] [] h1 (fun r h1 => ∃ ad1 C1 T, cw ad1 h0 C1 h1 ∧ (∀ g i, ¬ g = 10 → ad1 g i = ad g i) ∧ (∀ g, ¬ g = 10 → C1 g = C g) ∧ wI ad1 C1 tb n T ∧ 0 < T ∧ cd tb n (T - 1) < 2 ∧ T ≤ n + 1 ∧ h1.2.1 = h.2.1 + T ∧ h1.2.2 = h.2.2 + 5 * T ∧ r = some (.ref (ad1 10 0))) := by
    intro q
    induction q with
    | zero =>
      intro t ht ad1 C1 h1 p0 hC g1 g2 hI hcd hp0 hq s1 s2
      have := qs_ge t hcd
      have := qs_le (tb := tb) (n := n) t
      omega
    | succ q ih =>
      intro t ht ad1 C1 h1 p0 hC g1 g2 hI hcd hp0 hq s1 s2
      have hTp1 : tpC C1 tb := by
        unfold tpC cI cN
        rw [g2 12 (by decide)]
        exact hTp
      have ea := g1 12 0 (by decide)
      rw [← ea]
      refine mm_iload (pc := 13) dX10_chainOf_13 rfl ?_
      refine mm_iload_n (pc := 15) dX10_chainOf_15 rfl ?_
      refine mm_icmp_gt (pc := 16) (tgt := 100) dX10_chainOf_16 (by decide) (fun c16 => absurd c16 (nI_le (by omega) (by omega) |> Int32.not_lt.mpr)) (fun c16 => ?_)
      refine mm_iload (pc := 19) dX10_chainOf_19 rfl ?_
      refine mm_if_eq (pc := 21) (tgt := 100) dX10_chainOf_21 (by decide) (fun c21 => absurd c21 (by decide)) (fun c21 => ?_)
      refine mm_aload_n (pc := 24) dX10_chainOf_24 rfl (by first | trivial | assumption | exact mm_isr_rf _) ?_
      refine mm_iload_n (pc := 25) dX10_chainOf_25 rfl ?_
      refine mm_aload_n (pc := 26) dX10_chainOf_26 rfl (by first | trivial | assumption | exact mm_isr_rf _) ?_
      refine mm_iload_n (pc := 27) dX10_chainOf_27 rfl ?_
      refine mm_iload (pc := 28) dX10_chainOf_28 rfl ?_
      refine mm_callS (pc := 30) (As := [_, _, _]) dX10_chainOf_30 sl_X10_29 (ok_X10_behindBlanks (hTp1.t hC) (by omega) hp0) rfl rfl (Nat.le_of_ble_eq_true rfl) ?_
      rintro _ h30 ⟨e30, rfl⟩
      subst h30
      rw [hq]
      refine mm_callS (pc := 33) (As := [_, _, _]) dX10_chainOf_33 sl_X10_33 (ok_X10_wordAt (p := qs tb n t) (hTp1.t hC) (hlt.of hC) (by omega) (qs_le t) (by omega) (by omega)) rfl rfl (Nat.le_of_ble_eq_true rfl) ?_
      rintro _ h33 ⟨s33, v33, ⟨rfl, eh33⟩, a33, b33, c33, d33⟩
      refine mm_astore (pc := 36) dX10_chainOf_36 (by first | trivial | assumption | exact mm_isr_rf _) rfl (Nat.le_of_ble_eq_true rfl) ?_
      cases t with
      | zero =>
        obtain ⟨hC, e33⟩ := wN_add hC eh33
        have g1n : ∀ g i, ¬ g = 10 → cw_ad ad1 C1 10 h1.2.1 g i = ad g i := fun g i hg => (cu2_ne (fun z => hg z.1)).trans (g1 g i hg)
        have hN1 := hI.1
        have hnew : cw_ad ad1 C1 10 h1.2.1 10 0 = h1.2.1 := by rw [← hN1]; exact cw_ad_n
        have hn0 : cw_ad ad1 C1 10 h1.2.1 10 0 = h1.2.1 := hnew
        have g2n : ∀ g, ¬ g = 10 → wN C1 (cd tb n 0) (qs tb n 0) s33 v33 g = C g := fun g hg => (wN_o hg).trans (g2 g hg)
        have hIn := wI_0 (s := s33) (a := h1.2.1) hI c33 d33
        have hlt2 : 0 < cN (wN C1 (cd tb n 0) (qs tb n 0) s33 v33) 10 := by rw [wN_N]; omega
        have qn := wN_new (C := C1) (w := cd tb n 0) (p := qs tb n 0) (s := s33) (v := v33)
        rw [hN1] at qn
        have f0 := qn.1
        have f1 := qn.2.1
        have f2 := qn.2.2.1
        refine mm_aload_n (pc := 38) dX10_chainOf_38 rfl (by first | trivial | assumption | exact mm_isr_rf _) ?_
        skip
        refine mm_ifnonnull (pc := 39) (tgt := 48) dX10_chainOf_39 (by decide) (by first | trivial | assumption | exact mm_isr_rf _) (fun a39 c39 => by cases c39) (fun c39 => ?_)
        refine mm_aload (pc := 42) dX10_chainOf_42 rfl (by first | trivial | assumption | exact mm_isr_rf _) ?_
        refine mm_astore_n (pc := 44) dX10_chainOf_44 (by first | trivial | assumption | exact mm_isr_rf _) rfl (Nat.le_of_ble_eq_true rfl) ?_
        refine mm_goto (pc := 45) (tgt := 54) dX10_chainOf_45 (by decide) ?_
        refine mm_aload (pc := 54) dX10_chainOf_54 rfl (by first | trivial | assumption | exact mm_isr_rf _) ?_
        refine mm_astore_n (pc := 56) dX10_chainOf_56 (by first | trivial | assumption | exact mm_isr_rf _) rfl (Nat.le_of_ble_eq_true rfl) ?_
        refine mm_aload (pc := 57) dX10_chainOf_57 rfl (by first | trivial | assumption | exact mm_isr_rf _) ?_
        refine cw_gi (pc := 59) 10 0 1 hC (hnew) rfl (hlt2) dX10_chainOf_59 fl_X10_19 rfl rfl rfl ?_
        refine mm_topi _ f1 ?_
        refine mm_aload (pc := 62) dX10_chainOf_62 rfl (by first | trivial | assumption | exact mm_isr_rf _) ?_
        refine cw_gi (pc := 64) 10 0 2 hC (hnew) rfl (hlt2) dX10_chainOf_64 fl_X10_22 rfl rfl rfl ?_
        refine mm_topi _ f2 ?_
        refine mm_iadd (pc := 67) dX10_chainOf_67 ?_
        refine mm_istore (pc := 68) dX10_chainOf_68 rfl (Nat.le_of_ble_eq_true rfl) ?_
        refine mm_aload (pc := 70) dX10_chainOf_70 rfl (by first | trivial | assumption | exact mm_isr_rf _) ?_
        refine cw_gi (pc := 72) 10 0 0 hC (hnew) rfl (hlt2) dX10_chainOf_72 fl_X10_15 rfl rfl rfl ?_
        refine mm_topi _ f0 ?_
        refine mm_if_eq (pc := 75) (tgt := 91) dX10_chainOf_75 (by decide) (fun c75 => ?_) (fun c75 => ?_)
        · refine mm_iconst (pc := 91) (v := 0) dX10_chainOf_91 (by decide) ?_
          refine mm_istore (pc := 92) dX10_chainOf_92 rfl (Nat.le_of_ble_eq_true rfl) ?_
          refine mm_iinc (pc := 94) dX10_chainOf_94 rfl rfl rfl (Nat.le_of_ble_eq_true rfl) ?_
          refine mm_goto (pc := 97) (tgt := 13) dX10_chainOf_97 (by decide) ?_
          have q_ : cd tb n (0) = 0 := (nI_eq (by have := cd_lt tb n (0); omega) (by decide)).mp c75
          exact mm_weakK (fin_ (cw_ad ad1 C1 10 h1.2.1) _ h33 (0 + 1) 0 _ .null hC g1n g2n hIn (by omega) (by rw [show 0 + 1 - 1 = 0 by omega]; omega) (by omega) (by rw [e33]; show h1.2.1 + 1 = _; omega) (by rw [e33]; show h1.2.2 + 5 = _; omega)) (And.intro rfl (And.intro rfl (And.intro (by rw [hn0]; rfl) (And.intro (by rw [← ea]; rfl) (And.intro rfl trivial)))))
        · refine mm_aload (pc := 78) dX10_chainOf_78 rfl (by first | trivial | assumption | exact mm_isr_rf _) ?_
          refine cw_gi (pc := 80) 10 0 0 hC (hnew) rfl (hlt2) dX10_chainOf_80 fl_X10_15 rfl rfl rfl ?_
          refine mm_topi _ f0 ?_
          refine mm_iconst (pc := 83) (v := 1) dX10_chainOf_83 (by decide) ?_
          refine mm_icmp_eq (pc := 84) (tgt := 91) dX10_chainOf_84 (by decide) (fun c84 => ?_) (fun c84 => ?_)
          · refine mm_iconst (pc := 91) (v := 0) dX10_chainOf_91 (by decide) ?_
            refine mm_istore (pc := 92) dX10_chainOf_92 rfl (Nat.le_of_ble_eq_true rfl) ?_
            refine mm_iinc (pc := 94) dX10_chainOf_94 rfl rfl rfl (Nat.le_of_ble_eq_true rfl) ?_
            refine mm_goto (pc := 97) (tgt := 13) dX10_chainOf_97 (by decide) ?_
            have q_ : cd tb n (0) = 1 := (nI_eq (by have := cd_lt tb n (0); omega) (by decide)).mp c84
            exact mm_weakK (fin_ (cw_ad ad1 C1 10 h1.2.1) _ h33 (0 + 1) 0 _ .null hC g1n g2n hIn (by omega) (by rw [show 0 + 1 - 1 = 0 by omega]; omega) (by omega) (by rw [e33]; show h1.2.1 + 1 = _; omega) (by rw [e33]; show h1.2.2 + 5 = _; omega)) (And.intro rfl (And.intro rfl (And.intro (by rw [hn0]; rfl) (And.intro (by rw [← ea]; rfl) (And.intro rfl trivial)))))
          · refine mm_iconst (pc := 87) (v := 1) dX10_chainOf_87 (by decide) ?_
            refine mm_goto (pc := 88) (tgt := 92) dX10_chainOf_88 (by decide) ?_
            refine mm_istore (pc := 92) dX10_chainOf_92 rfl (Nat.le_of_ble_eq_true rfl) ?_
            refine mm_iinc (pc := 94) dX10_chainOf_94 rfl rfl rfl (Nat.le_of_ble_eq_true rfl) ?_
            refine mm_goto (pc := 97) (tgt := 13) dX10_chainOf_97 (by decide) ?_
            have c84_ : 2 ≤ cd tb n (0) := by
              rcases Nat.lt_or_ge (cd tb n (0)) 2 with z | z
              · exfalso
                rcases Nat.lt_or_ge (cd tb n (0)) 1 with z2 | z2
                · exact c75 (by rw [show cd tb n (0) = 0 by omega]; rfl)
                · exact c84 (by rw [show cd tb n (0) = 1 by omega]; rfl)
              · exact z
            exact mm_weakK (ih (0 + 1) (by omega) (cw_ad ad1 C1 10 h1.2.1) _ h33 (qs tb n (0) + s33) hC g1n g2n hIn (fun s hs => by
              by_cases e : s = 0
              · subst e; exact c84_
              · exact hcd s (by omega)) (by rw [b33 c84_]; exact (qe_b (0)).2) (by rw [b33 c84_]; rfl) (by rw [e33]; show h1.2.1 + 1 = _; omega) (by rw [e33]; show h1.2.2 + 5 = _; omega)) (And.intro (congrArg (fun z => some (Value.int z)) (nI_add (qs tb n (0)) s33)) (And.intro rfl (And.intro (congrArg (fun z => some (Value.int z)) (nI_add (0) 1)) (And.intro (by rw [hn0]; rfl) (And.intro (by rw [show 0 + 1 - 1 = 0 by omega, hnew]; rfl) (And.intro (by rw [← ea]; rfl) (And.intro rfl trivial)))))))
      | succ t =>
        obtain ⟨hC, e33⟩ := wN_add hC eh33
        have g1n : ∀ g i, ¬ g = 10 → cw_ad ad1 C1 10 h1.2.1 g i = ad g i := fun g i hg => (cu2_ne (fun z => hg z.1)).trans (g1 g i hg)
        have hN1 := hI.1
        have hnew : cw_ad ad1 C1 10 h1.2.1 10 (t + 1) = h1.2.1 := by rw [← hN1]; exact cw_ad_n
        have hold : cw_ad ad1 C1 10 h1.2.1 10 t = ad1 10 t := cw_ad_o (by omega)
        have hn0 : cw_ad ad1 C1 10 h1.2.1 10 0 = ad1 10 0 := cw_ad_o (by omega)
        have g2n : ∀ g, ¬ g = 10 → cw_sR (wN C1 (cd tb n (t + 1)) (qs tb n (t + 1)) s33 v33) 10 t 4 (some h1.2.1) g = C g := fun g hg => (cw_sR_o hg).trans ((wN_o hg).trans (g2 g hg))
        have hIn := wI_s (s := s33) (a := h1.2.1) hI (hcd t (by omega)) c33 d33
        have hlt3 : t < cN (wN C1 (cd tb n (t + 1)) (qs tb n (t + 1)) s33 v33) 10 := by rw [wN_N]; omega
        have hlt2 : t + 1 < cN (cw_sR (wN C1 (cd tb n (t + 1)) (qs tb n (t + 1)) s33 v33) 10 t 4 (some h1.2.1)) 10 := by rw [cw_sR_N, wN_N]; omega
        have qn := wN_new (C := C1) (w := cd tb n (t + 1)) (p := qs tb n (t + 1)) (s := s33) (v := v33)
        rw [hN1] at qn
        have f0 : cI (cw_sR (wN C1 (cd tb n (t + 1)) (qs tb n (t + 1)) s33 v33) 10 t 4 (some h1.2.1)) 10 (t + 1) 0 = nI (cd tb n (t + 1)) := by unfold cI; rw [cw_sR_f]; exact qn.1
        have f1 : cI (cw_sR (wN C1 (cd tb n (t + 1)) (qs tb n (t + 1)) s33 v33) 10 t 4 (some h1.2.1)) 10 (t + 1) 1 = nI (qs tb n (t + 1)) := by unfold cI; rw [cw_sR_f]; exact qn.2.1
        have f2 : cI (cw_sR (wN C1 (cd tb n (t + 1)) (qs tb n (t + 1)) s33 v33) 10 t 4 (some h1.2.1)) 10 (t + 1) 2 = nI s33 := by unfold cI; rw [cw_sR_f]; exact qn.2.2.1
        refine mm_aload_n (pc := 38) dX10_chainOf_38 rfl (by first | trivial | assumption | exact mm_isr_rf _) ?_
        skip
        refine mm_ifnonnull (pc := 39) (tgt := 48) dX10_chainOf_39 (by decide) (by first | trivial | assumption | exact mm_isr_rf _) (fun a39 c39 => ?_) (fun c39 => by cases c39)
        refine mm_aload_n (pc := 48) dX10_chainOf_48 rfl (by first | trivial | assumption | exact mm_isr_rf _) ?_
        refine mm_aload (pc := 49) dX10_chainOf_49 rfl (by first | trivial | assumption | exact mm_isr_rf _) ?_
        refine cw_prS (pc := 51) 10 t 4 hC (hold) rfl (hlt3) dX10_chainOf_51 (pl_X10_9 _) rfl rfl (fun h51 hC e51 => ?_)
        refine mm_aload (pc := 54) dX10_chainOf_54 rfl (by first | trivial | assumption | exact mm_isr_rf _) ?_
        refine mm_astore_n (pc := 56) dX10_chainOf_56 (by first | trivial | assumption | exact mm_isr_rf _) rfl (Nat.le_of_ble_eq_true rfl) ?_
        refine mm_aload (pc := 57) dX10_chainOf_57 rfl (by first | trivial | assumption | exact mm_isr_rf _) ?_
        refine cw_gi (pc := 59) 10 (t + 1) 1 hC (hnew) rfl (hlt2) dX10_chainOf_59 fl_X10_19 rfl rfl rfl ?_
        refine mm_topi _ f1 ?_
        refine mm_aload (pc := 62) dX10_chainOf_62 rfl (by first | trivial | assumption | exact mm_isr_rf _) ?_
        refine cw_gi (pc := 64) 10 (t + 1) 2 hC (hnew) rfl (hlt2) dX10_chainOf_64 fl_X10_22 rfl rfl rfl ?_
        refine mm_topi _ f2 ?_
        refine mm_iadd (pc := 67) dX10_chainOf_67 ?_
        refine mm_istore (pc := 68) dX10_chainOf_68 rfl (Nat.le_of_ble_eq_true rfl) ?_
        refine mm_aload (pc := 70) dX10_chainOf_70 rfl (by first | trivial | assumption | exact mm_isr_rf _) ?_
        refine cw_gi (pc := 72) 10 (t + 1) 0 hC (hnew) rfl (hlt2) dX10_chainOf_72 fl_X10_15 rfl rfl rfl ?_
        refine mm_topi _ f0 ?_
        refine mm_if_eq (pc := 75) (tgt := 91) dX10_chainOf_75 (by decide) (fun c75 => ?_) (fun c75 => ?_)
        · refine mm_iconst (pc := 91) (v := 0) dX10_chainOf_91 (by decide) ?_
          refine mm_istore (pc := 92) dX10_chainOf_92 rfl (Nat.le_of_ble_eq_true rfl) ?_
          refine mm_iinc (pc := 94) dX10_chainOf_94 rfl rfl rfl (Nat.le_of_ble_eq_true rfl) ?_
          refine mm_goto (pc := 97) (tgt := 13) dX10_chainOf_97 (by decide) ?_
          have q_ : cd tb n (t + 1) = 0 := (nI_eq (by have := cd_lt tb n (t + 1); omega) (by decide)).mp c75
          exact mm_weakK (fin_ (cw_ad ad1 C1 10 h1.2.1) _ h51 (t + 1 + 1) 0 _ .null hC g1n g2n hIn (by omega) (by rw [show t + 1 + 1 - 1 = t + 1 by omega]; omega) (by omega) (by rw [e51, e33]; show h1.2.1 + 1 = _; omega) (by rw [e51, e33]; show h1.2.2 + 5 = _; omega)) (And.intro rfl (And.intro rfl (And.intro (by rw [hn0]; rfl) (And.intro (by rw [← ea]; rfl) (And.intro rfl trivial)))))
        · refine mm_aload (pc := 78) dX10_chainOf_78 rfl (by first | trivial | assumption | exact mm_isr_rf _) ?_
          refine cw_gi (pc := 80) 10 (t + 1) 0 hC (hnew) rfl (hlt2) dX10_chainOf_80 fl_X10_15 rfl rfl rfl ?_
          refine mm_topi _ f0 ?_
          refine mm_iconst (pc := 83) (v := 1) dX10_chainOf_83 (by decide) ?_
          refine mm_icmp_eq (pc := 84) (tgt := 91) dX10_chainOf_84 (by decide) (fun c84 => ?_) (fun c84 => ?_)
          · refine mm_iconst (pc := 91) (v := 0) dX10_chainOf_91 (by decide) ?_
            refine mm_istore (pc := 92) dX10_chainOf_92 rfl (Nat.le_of_ble_eq_true rfl) ?_
            refine mm_iinc (pc := 94) dX10_chainOf_94 rfl rfl rfl (Nat.le_of_ble_eq_true rfl) ?_
            refine mm_goto (pc := 97) (tgt := 13) dX10_chainOf_97 (by decide) ?_
            have q_ : cd tb n (t + 1) = 1 := (nI_eq (by have := cd_lt tb n (t + 1); omega) (by decide)).mp c84
            exact mm_weakK (fin_ (cw_ad ad1 C1 10 h1.2.1) _ h51 (t + 1 + 1) 0 _ .null hC g1n g2n hIn (by omega) (by rw [show t + 1 + 1 - 1 = t + 1 by omega]; omega) (by omega) (by rw [e51, e33]; show h1.2.1 + 1 = _; omega) (by rw [e51, e33]; show h1.2.2 + 5 = _; omega)) (And.intro rfl (And.intro rfl (And.intro (by rw [hn0]; rfl) (And.intro (by rw [← ea]; rfl) (And.intro rfl trivial)))))
          · refine mm_iconst (pc := 87) (v := 1) dX10_chainOf_87 (by decide) ?_
            refine mm_goto (pc := 88) (tgt := 92) dX10_chainOf_88 (by decide) ?_
            refine mm_istore (pc := 92) dX10_chainOf_92 rfl (Nat.le_of_ble_eq_true rfl) ?_
            refine mm_iinc (pc := 94) dX10_chainOf_94 rfl rfl rfl (Nat.le_of_ble_eq_true rfl) ?_
            refine mm_goto (pc := 97) (tgt := 13) dX10_chainOf_97 (by decide) ?_
            have c84_ : 2 ≤ cd tb n (t + 1) := by
              rcases Nat.lt_or_ge (cd tb n (t + 1)) 2 with z | z
              · exfalso
                rcases Nat.lt_or_ge (cd tb n (t + 1)) 1 with z2 | z2
                · exact c75 (by rw [show cd tb n (t + 1) = 0 by omega]; rfl)
                · exact c84 (by rw [show cd tb n (t + 1) = 1 by omega]; rfl)
              · exact z
            exact mm_weakK (ih (t + 1 + 1) (by omega) (cw_ad ad1 C1 10 h1.2.1) _ h51 (qs tb n (t + 1) + s33) hC g1n g2n hIn (fun s hs => by
              by_cases e : s = t + 1
              · subst e; exact c84_
              · exact hcd s (by omega)) (by rw [b33 c84_]; exact (qe_b (t + 1)).2) (by rw [b33 c84_]; rfl) (by rw [e51, e33]; show h1.2.1 + 1 = _; omega) (by rw [e51, e33]; show h1.2.2 + 5 = _; omega)) (And.intro (congrArg (fun z => some (Value.int z)) (nI_add (qs tb n (t + 1)) s33)) (And.intro rfl (And.intro (congrArg (fun z => some (Value.int z)) (nI_add (t + 1) 1)) (And.intro (by rw [if_neg (by omega), hn0]; rfl) (And.intro (by rw [if_neg (by omega), show t + 1 + 1 - 1 = t + 1 by omega, hnew]; rfl) (And.intro (by rw [← ea]; rfl) (And.intro rfl trivial)))))))
  refine mm_null (pc := 0) dX10_chainOf_0 ?_
  refine mm_astore_n (pc := 1) dX10_chainOf_1 (by first | trivial | assumption | exact mm_isr_rf _) rfl (Nat.le_of_ble_eq_true rfl) ?_
  refine mm_null (pc := 2) dX10_chainOf_2 ?_
  refine mm_astore_n (pc := 3) dX10_chainOf_3 (by first | trivial | assumption | exact mm_isr_rf _) rfl (Nat.le_of_ble_eq_true rfl) ?_
  refine mm_iconst (pc := 4) (v := 0) dX10_chainOf_4 (by decide) ?_
  refine mm_istore (pc := 5) dX10_chainOf_5 rfl (Nat.le_of_ble_eq_true rfl) ?_
  refine mm_iconst (pc := 7) (v := 1) dX10_chainOf_7 (by decide) ?_
  refine mm_istore (pc := 8) dX10_chainOf_8 rfl (Nat.le_of_ble_eq_true rfl) ?_
  refine mm_iconst (pc := 10) (v := 0) dX10_chainOf_10 (by decide) ?_
  refine mm_istore (pc := 11) dX10_chainOf_11 rfl (Nat.le_of_ble_eq_true rfl) ?_
  exact mm_weakK (lp_ (n + 1) 0 (by omega) ad C h 0 hC (fun _ _ _ => rfl) (fun _ _ => rfl) ⟨h10, fun s hs => by omega, fun s hs => by omega, fun s hs => by omega⟩ (fun s hs => by omega) (by omega) rfl rfl rfl) (And.intro rfl (And.intro rfl (And.intro rfl (And.intro rfl (And.intro rfl (And.intro rfl (And.intro rfl trivial)))))))

