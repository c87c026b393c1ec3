/-! kinds one behind the other -/
section RIK
variable {tb : Nat → Nat} {n nk np a0 g0 kf kc t k : Nat} {M : mw_S}
theorem RI.w_ (h_ : RI tb n nk np a0 g0 kf kc M t) : RI tb n nk np a0 g0 kf kc (pw tb n M t) (t + 1) := by
  have q_ := qs_le_of (tb := tb) (n := n) (show t ≤ t + 1 by omega)
  obtain ⟨riK_, riB_, riH_, riO_, riE_, riL_, riF_, riU_, riD_⟩ := h_
  refine ⟨fun i a b => ?_, fun g a b => ?_, riH_, riO_, riE_, riL_, riF_, riU_.w, riD_⟩
  · obtain ⟨x1_, ⟨x2_, x3_⟩, x4_⟩ := riK_ i a b
    exact ⟨x1_, ⟨x2_, Nat.lt_of_lt_of_le x3_ q_⟩, x4_⟩
  · obtain ⟨x1_, ⟨x2_, x3_, x4_, x5_, x6_⟩, x7_, x8_, x9_⟩ := riB_ g a b
    exact ⟨x1_, ⟨x2_, x3_, x4_, x5_, Nat.lt_of_lt_of_le x6_ q_⟩, x7_, x8_.same (fun _ _ _ _ _ => rfl), x9_⟩
theorem RI.endk (h_ : RI tb n nk np a0 g0 k (k + 1) M t) (hnk_ : nk ≤ k) (hI_ : pI tb n a0 M t) (hg_ : gI tb n g0 M t) : RI tb n nk np a0 g0 (k + 1) (k + 1) (mw_setV (pw tb n M t) 106 k (M.1 111)) (t + 1) := by
  obtain ⟨gc1_, gc2_, gc3_, gc4_⟩ := hg_.c hI_.n7
  obtain ⟨riK_, riB_, riH_, riO_, riE_, riL_, riF_, riU_, riD_⟩ := h_.w_
  have v_ : ∀ j i, ¬ j = 106 → (mw_setV (pw tb n M t) 106 k (M.1 111)).2.2.1 j i = (pw tb n M t).2.2.1 j i := fun j i hj => setV_ne (by omega)
  have zE_ : ∀ i, ¬ i = k → zE (mw_setV (pw tb n M t) 106 k (M.1 111)) i = zE (pw tb n M t) i := fun i hi => by unfold zE; rw [setV_ne (by omega)]
  have e106_ : ∀ i, ¬ i = k → (mw_setV (pw tb n M t) 106 k (M.1 111)).2.2.1 106 i = (pw tb n M t).2.2.1 106 i := fun i hi => setV_ne (by omega)
  have n106_ : (mw_setV (pw tb n M t) 106 k (M.1 111)).2.2.1 106 k = nI (kg M) := by rw [setV_eq]; exact gc1_
  have zEn_ : zE (mw_setV (pw tb n M t) 106 k (M.1 111)) k = kg M := by unfold zE; rw [n106_, nI_clamp (by omega)]
  have k1_ : ka (mw_setV (pw tb n M t) 106 k (M.1 111)) = ka (pw tb n M t) := rfl
  have k2_ : kg (mw_setV (pw tb n M t) 106 k (M.1 111)) = kg (pw tb n M t) := rfl
  have k3_ : ku (mw_setV (pw tb n M t) 106 k (M.1 111)) = ku (pw tb n M t) := rfl
  have k4_ : kd_ (mw_setV (pw tb n M t) 106 k (M.1 111)) = kd_ (pw tb n M t) := rfl
  have kM_ : kg (pw tb n M t) = kg M := rfl
  have s_ : (mw_setV (pw tb n M t) 106 k (M.1 111)).1 = (pw tb n M t).1 := rfl
  have w_ : (mw_setV (pw tb n M t) 106 k (M.1 111)).2.2.2 = (pw tb n M t).2.2.2 := rfl
  generalize mw_setV (pw tb n M t) 106 k (M.1 111) = Mh_ at v_ zE_ e106_ n106_ zEn_ k1_ k2_ k3_ k4_ s_ w_ ⊢
  generalize pw tb n M t = Mp_ at riK_ riB_ riH_ riO_ riE_ riL_ riF_ riU_ riD_ v_ zE_ e106_ k1_ k2_ k3_ k4_ kM_ s_ w_ ⊢
  have zN_ : ∀ i, zN Mh_ i = zN Mp_ i := fun i => by unfold zN; rw [v_ 90 i (by decide)]
  have zU_ : ∀ i, zU Mh_ i = zU Mp_ i := fun i => by unfold zU; rw [v_ 91 i (by decide)]
  have zG_ : ∀ i, zG Mh_ i = zG Mp_ i := fun i => by unfold zG; rw [v_ 105 i (by decide)]
  have zA_ : ∀ i, zA Mh_ i = zA Mp_ i := fun i => by unfold zA; rw [v_ 116 i (by decide)]
  have yK_ : ∀ g, yK Mh_ g = yK Mp_ g := fun g => by unfold yK; rw [v_ 98 g (by decide)]
  have yQ_ : ∀ g, yQ Mh_ g = yQ Mp_ g := fun g => by unfold yQ; rw [v_ 99 g (by decide)]
  have yP_ : ∀ g, yP Mh_ g = yP Mp_ g := fun g => by unfold yP; rw [v_ 107 g (by decide)]
  have yS_ : ∀ g, yS Mh_ g = yS Mp_ g := fun g => by unfold yS; rw [v_ 114 g (by decide)]
  have yE_ : ∀ g, yE Mh_ g = yE Mp_ g := fun g => by unfold yE; rw [v_ 115 g (by decide)]
  have uP_ : ∀ y, uP Mh_ y = uP Mp_ y := fun y => by unfold uP; rw [v_ 83 y (by decide)]
  have has_ : ∀ q' k', rm_has Mh_ q' k' = rm_has Mp_ q' k' := fun q' k' => by unfold rm_has; rw [v_ 8 _ (by decide)]
  refine ⟨?_, ?_, ?_, ?_, ?_, fun z => absurd z (Nat.lt_irrefl _), ?_, ?_, by rw [k2_, k4_]; exact riD_⟩
  · intro i a b
    rw [zN_, zU_, zG_, zA_, v_ 90 i (by decide), v_ 91 i (by decide), v_ 105 i (by decide), v_ 6 i (by decide), v_ 5 i (by decide), v_ 7 i (by decide), k1_, k2_, s_, w_]
    exact riK_ i a b
  · intro g a b
    rw [k2_] at b
    obtain ⟨x1_, x2_, x3_, x4_, x5_, x6_, x7_, x8_⟩ := riB_ g a b
    rw [yK_, yQ_, yP_, yS_, yE_, zG_, has_, k1_, v_ 98 g (by decide), v_ 99 g (by decide), v_ 107 g (by decide), v_ 114 g (by decide), v_ 115 g (by decide), v_ 108 g (by decide), v_ 112 g (by decide), v_ 113 g (by decide), v_ 38 _ (by decide), v_ 39 _ (by decide), v_ 40 _ (by decide)]
    refine ⟨x1_, x2_, x3_, x4_.same (fun j i _ _ e3 => v_ j i (by omega)), x5_, x6_, ?_, x8_⟩
    unfold riX
    rw [v_ 96 g (by decide), v_ 97 _ (by decide), v_ 9 _ (by decide), v_ 10 _ (by decide), v_ 11 _ (by decide), v_ 12 _ (by decide), v_ 112 g (by decide), v_ 113 g (by decide), v_ 108 g (by decide), v_ 109 g (by decide)]
    exact x7_
  · intro k' q' a b c d
    rw [has_] at d
    obtain ⟨g, g1_, g2_, g3_, g4_, g5_, g6_⟩ := riH_ k' q' a b c d
    exact ⟨g, by rw [v_ 97 _ (by decide)]; exact g1_, g2_, by rw [k2_]; exact g3_, by rw [yK_]; exact g4_, by rw [yQ_]; exact g5_, by rw [v_ 96 _ (by decide)]; exact g6_⟩
  · unfold riO at riO_ ⊢
    rw [k1_, k2_]
    obtain ⟨o1_, o2_, o3_, o4_, o5_, o6_⟩ := riO_
    refine ⟨fun i i' a b c => ?_, fun g g' a b c => ?_, fun i g a b c d => ?_, fun g y a b c d => ?_, fun i y a b c d => ?_, fun y a b => ?_⟩
    · rw [zU_, zN_, zG_, zG_, zA_, zA_]; exact o1_ i i' a b c
    · rw [yP_, yP_, yE_, yS_]; exact o2_ g g' a b c
    · rw [zG_, zU_, zN_, zA_, yP_, yS_, yE_]; exact o3_ i g a b c d
    · rw [yS_, yP_, uP_]; exact o4_ g y a b c d
    · rw [zA_, zU_, zN_, uP_]; exact o5_ i y a b c d
    · obtain ⟨g, g1_, g2_, g3_, g4_⟩ := o6_ y a b
      exact ⟨g, g1_, g2_, by rw [yS_]; exact g3_, by rw [yE_]; exact g4_⟩
  · intro i a b
    rw [zG_, k2_]
    by_cases e_ : i = k
    · subst e_
      have z_ := riK_ i hnk_ (by omega)
      rw [zEn_]
      refine ⟨n106_, by have := z_.2.2.1.2.1; omega, by omega, fun g c d => ?_⟩
      rw [yK_]
      exact ⟨fun z => ⟨(riL_ (by omega) g c d).mp z, by omega⟩, fun z => (riL_ (by omega) g c d).mpr z.1⟩
    · obtain ⟨x1_, x2_, x3_, x4_⟩ := riE_ i a (by omega)
      rw [zE_ i e_, e106_ i e_]
      exact ⟨x1_, x2_, x3_, fun g c d => by rw [yK_]; exact x4_ g c d⟩
  · have efp_ : fpOf Mh_ = fpOf Mp_ := by unfold fpOf; rw [s_]
    rw [efp_]
    refine riF_.ext (fun p f => ?_)
    unfold PP
    rw [s_, w_, k2_]
    have hz_ : ∀ (P : Nat → Prop) (p : Nat), (∃ i, nk ≤ i ∧ i < k + 1 ∧ P i ∧ zN Mp_ i = p) ↔ (∃ i, nk ≤ i ∧ i < k + 1 ∧ P i ∧ zN Mh_ i = p) := fun P p => ⟨fun ⟨i, a, b, c, d⟩ => ⟨i, a, b, c, by rw [zN_]; exact d⟩, fun ⟨i, a, b, c, d⟩ => ⟨i, a, b, c, by rw [zN_] at d; exact d⟩⟩
    have hu_ : ∀ (P : Nat → Prop) (p : Nat), (∃ i, nk ≤ i ∧ i < k + 1 ∧ P i ∧ zU Mp_ i = p) ↔ (∃ i, nk ≤ i ∧ i < k + 1 ∧ P i ∧ zU Mh_ i = p) := fun P p => ⟨fun ⟨i, a, b, c, d⟩ => ⟨i, a, b, c, by rw [zU_]; exact d⟩, fun ⟨i, a, b, c, d⟩ => ⟨i, a, b, c, by rw [zU_] at d; exact d⟩⟩
    have hy_ : (∃ g, g0 ≤ g ∧ g < kg Mp_ ∧ Mp_.2.2.1 96 g = 1 ∧ yP Mp_ g = p) ↔ (∃ g, g0 ≤ g ∧ g < kg Mp_ ∧ Mh_.2.2.1 96 g = 1 ∧ yP Mh_ g = p) := ⟨fun ⟨g, a, b, c, d⟩ => ⟨g, a, b, by rw [v_ 96 g (by decide)]; exact c, by rw [yP_]; exact d⟩, fun ⟨g, a, b, c, d⟩ => ⟨g, a, b, by rw [v_ 96 g (by decide)] at c; exact c, by rw [yP_] at d; exact d⟩⟩
    rw [hz_, hu_, hy_]
  · exact riU_.same k1_ k3_ (fun j i hj => v_ j i (by omega)) (fun i _ => v_ 15 i (by decide)) (Nat.le_refl _)
theorem RI.bods (hnk_ : nk ≤ k) (hk50_ : k < 50) : ∀ (f : Nat) (M : mw_S) (t : Nat), RI tb n nk np a0 g0 k (k + 1) M t → pI tb n a0 M t → gI tb n g0 M t → n - qs tb n t < f → ¬ (pBs tb n k f M t).1 = 0 → RI tb n nk np a0 g0 (k + 1) (k + 1) (pBs tb n k f M t).2.1 (pBs tb n k f M t).2.2 := by
  intro f
  induction f with
  | zero => intro M t _ _ _ hf_; omega
  | succ f ih_ =>
    intro M t h_ hI_ hg_ hf_ hr_
    have ee_ : pBs tb n k (f + 1) M t = (if cd tb n t = 5 then (1, mw_setV (pw tb n M t) 106 k (M.1 111), t + 1) else if (pBody tb n k M t).1 = 0 then pBody tb n k M t else pBs tb n k f (pBody tb n k M t).2.1 (pBody tb n k M t).2.2) := rfl
    rw [ee_] at hr_ ⊢
    by_cases c_ : cd tb n t = 5
    · rw [if_pos c_]; exact h_.endk hnk_ hI_ hg_
    · rw [if_neg c_] at hr_ ⊢
      by_cases z_ : (pBody tb n k M t).1 = 0
      · rw [if_pos z_] at hr_; exact absurd z_ hr_
      · rw [if_neg z_] at hr_ ⊢
        obtain ⟨-, ⟨g1_, g2_⟩, g3_⟩ := (pBody_post (k := k) hI_).resolve_left z_
        have q1_ := (qs_lt g3_).2.1
        have q2_ := qs_le_of (tb := tb) (n := n) g2_
        have q3_ := qs_le (tb := tb) (n := n) (pBody tb n k M t).2.2
        obtain ⟨th_, q_, r_, l_, fx_, ui_, lb_⟩ := pBody_all (k := k) hI_ hg_ h_.2.2.2.2.2.2.2.1 z_
        exact ih_ _ _ (h_.body rfl rfl hnk_ hk50_ hI_ g1_ hg_ fx_ ui_ lb_) g1_ (hg_.body hI_ z_) (by omega) hr_
theorem RI.kind (h_ : RI tb n nk np a0 g0 k k M t) (hnk_ : nk ≤ k) (hk50_ : k < 50) (hk_ : (M.1 3 + M.1 35).toNatClampNeg = k) (hI_ : pI tb n a0 M t) (hg_ : gI tb n g0 M t) (hr_ : ¬ (pKind tb n M t).1 = 0) : RI tb n nk np a0 g0 (k + 1) (k + 1) (pKind tb n M t).2.1 (pKind tb n M t).2.2 := by
  have hh_ := (pKind_post hI_ hr_).1
  rw [pKind_ok hk_ hh_] at hr_ ⊢
  have q_ := qs_le (tb := tb) (n := n) (t + 1 + 1 + 1 + 1 + 1)
  exact RI.bods hnk_ hk50_ (n + 1) _ _ (h_.head hnk_ hk50_ hI_ hg_ hh_) hI_.k6 (hg_.k6 (k := k)) (by omega) hr_
theorem RI.kinds (hnk_ : nk ≤ 40) : ∀ (f : Nat) (M : mw_S) (t nn : Nat), RI tb n nk np a0 g0 (nk + nn) (nk + nn) M t → pI tb n a0 M t → gI tb n g0 M t → M.1 3 = nI nk → M.1 35 = nI nn → nn ≤ 10 → n - qs tb n t < f → ¬ (pKs tb n f M t).1 = 0 → ∃ nn2, 1 ≤ nn2 ∧ nn2 ≤ 10 ∧ (pKs tb n f M t).2.1.1 35 = nI nn2 ∧ RI tb n nk np a0 g0 (nk + nn2) (nk + nn2) (pKs tb n f M t).2.1 (pKs tb n f M t).2.2 ∧ pI tb n a0 (pKs tb n f M t).2.1 (pKs tb n f M t).2.2 ∧ gI tb n g0 (pKs tb n f M t).2.1 (pKs tb n f M t).2.2 := by
  intro f
  induction f with
  | zero => intro M t nn _ _ _ _ _ _ hf_; omega
  | succ f ih_ =>
    intro M t nn h_ hI_ hg_ h3_ h35_ hnn_ hf_ hr_
    have ee_ : pKs tb n (f + 1) M t = (if (pKind tb n M t).1 = 0 then pKind tb n M t else if cd tb n (pKind tb n M t).2.2 = 5 then pEnd tb n (pw tb n (pKind tb n M t).2.1 (pKind tb n M t).2.2) ((pKind tb n M t).2.2 + 1) else pKs tb n f (pKind tb n M t).2.1 (pKind tb n M t).2.2) := rfl
    rw [ee_] at hr_ ⊢
    by_cases z_ : (pKind tb n M t).1 = 0
    · rw [if_pos z_] at hr_; exact absurd z_ hr_
    · rw [if_neg z_] at hr_ ⊢
      obtain ⟨hh_, hr1_, ⟨g1_, g2_⟩, hlt_⟩ := pKind_post hI_ z_
      obtain ⟨k35_, kn10_, kgI_, kW_, kS_, -⟩ := pKind_cnt hI_ hg_ h3_ h35_ hnk_ hnn_ z_
      have hk_ : (M.1 3 + M.1 35).toNatClampNeg = nk + nn := by rw [h3_, h35_, nI_add, nI_clamp (by omega)]
      have R_ := h_.kind (by omega) (by omega) hk_ hI_ hg_ z_
      have q2_ := qs_le_of (tb := tb) (n := n) g2_
      have q3_ := qs_le (tb := tb) (n := n) (pKind tb n M t).2.2
      by_cases c_ : cd tb n (pKind tb n M t).2.2 = 5
      · rw [if_pos c_] at hr_ ⊢
        unfold pEnd at hr_ ⊢
        by_cases e_ : cd tb n ((pKind tb n M t).2.2 + 1) = 0
        · rw [if_pos e_]
          exact ⟨nn + 1, by omega, by omega, k35_, R_.w_, g1_.w, kgI_.w⟩
        · rw [if_neg e_] at hr_; exact absurd rfl hr_
      · rw [if_neg c_] at hr_ ⊢
        exact ih_ _ _ (nn + 1) R_ g1_ kgI_ ((kS_ 3 (by unfold kbS kpS; omega) (by decide)).trans h3_) k35_ (by omega) (by omega) hr_
end RIK
