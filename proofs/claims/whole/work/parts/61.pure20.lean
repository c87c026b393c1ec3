/-! a kind's head -/
theorem kfA_congr {f f' : Nat → Int64} {w : Int64} : ∀ (v i : Nat), (∀ x, i ≤ x → x < i + v → f x = f' x) → kfA f w v i = kfA f' w v i := by
  intro v
  induction v with
  | zero => intro i _; rfl
  | succ v ih =>
    intro i h
    show (if f i = w then some i else kfA f w v (i + 1)) = (if f' i = w then some i else kfA f' w v (i + 1))
    rw [h i (by omega) (by omega), ih (i + 1) (fun x a b => h x (by omega) (by omega))]
theorem kfi_congr {f f' : Nat → Int64} {w : Int64} {n : Nat} (h : ∀ x, x < n → f x = f' x) : kfi f w n = kfi f' w n := kfA_congr n 0 (fun x _ b => h x (by omega))
section KHD
variable {tb : Nat → Nat} {n nk np a0 g0 t k : Nat} {M : mw_S}
theorem rm_knm_V {w : Int64} {p j i : Nat} (h_ : ¬ (j = 90 ∧ i = k)) : (rm_knm M k w p).2.2.1 j i = M.2.2.1 j i := by
  unfold rm_knm
  by_cases c : kfi (M.2.2.2.1 100) w k = none
  · rw [if_pos c]; exact setV_ne h_
  · rw [if_neg c, rm_faulty_2]; exact setV_ne h_
theorem rm_knm_90 {w : Int64} {p : Nat} : (rm_knm M k w p).2.2.1 90 k = nI p := by
  unfold rm_knm
  by_cases c : kfi (M.2.2.2.1 100) w k = none
  · rw [if_pos c]; exact setV_eq
  · rw [if_neg c, rm_faulty_2]; exact setV_eq
theorem rm_knm_fp {w : Int64} {p : Nat} : fpOf (rm_knm M k w p) = (if kfi (M.2.2.2.1 100) w k = none then fpOf M else flt (fpOf M) 2 (M.1 27)) := by
  unfold rm_knm
  by_cases c : kfi (M.2.2.2.1 100) w k = none
  · rw [if_pos c, if_pos c]; rfl
  · rw [if_neg c, if_neg c, rm_faulty_flt]; rfl
theorem rm_kin_V {ab : Option Nat} {w : Int64} {p j i : Nat} (h1_ : ¬ ((j = 91 ∨ j = 105 ∨ j = 116 ∨ j = 5 ∨ j = 6 ∨ j = 7) ∧ i = k)) (h2_ : ¬ (j = 8 ∧ 6 * k ≤ i ∧ i < 6 * k + 6)) : (rm_kin M k ab w p).2.2.1 j i = M.2.2.1 j i := by
  have e_ : (if ab = none then rm_faulty (mw_setV M 6 k (oI ab)) 2 (M.1 27) else mw_setV M 6 k (oI ab)).2 = (mw_setV M 6 k (oI ab)).2 := by
    by_cases c : ab = none
    · rw [if_pos c, rm_faulty_2]
    · rw [if_neg c]
  unfold rm_kin
  generalize (if ab = none then rm_faulty (mw_setV M 6 k (oI ab)) 2 (M.1 27) else mw_setV M 6 k (oI ab)) = Mq_ at e_ ⊢
  show (if j = 8 ∧ 6 * k ≤ i ∧ i < 6 * k + 6 then 0 else (mw_setV (mw_setV (mw_setV (mw_setV (mw_setV (mw_setW Mq_ 103 k w) 91 k (nI p)) 105 k (M.1 111)) 116 k (M.1 13)) 5 k (M.1 34)) 7 k (M.1 19)).2.2.1 j i) = _
  rw [if_neg h2_, setV_ne (by omega), setV_ne (by omega), setV_ne (by omega), setV_ne (by omega), setV_ne (by omega)]
  show Mq_.2.2.1 j i = _
  rw [e_]
  exact setV_ne (by omega)
theorem rm_kin_N {ab : Option Nat} {w : Int64} {p : Nat} : (rm_kin M k ab w p).2.2.1 91 k = nI p ∧ (rm_kin M k ab w p).2.2.1 105 k = M.1 111 ∧ (rm_kin M k ab w p).2.2.1 116 k = M.1 13 ∧ (rm_kin M k ab w p).2.2.1 5 k = M.1 34 ∧ (rm_kin M k ab w p).2.2.1 6 k = oI ab ∧ (rm_kin M k ab w p).2.2.1 7 k = M.1 19 ∧ ∀ q, q < 6 → (rm_kin M k ab w p).2.2.1 8 (6 * k + q) = 0 := by
  have e_ : (if ab = none then rm_faulty (mw_setV M 6 k (oI ab)) 2 (M.1 27) else mw_setV M 6 k (oI ab)).2 = (mw_setV M 6 k (oI ab)).2 := by
    by_cases c : ab = none
    · rw [if_pos c, rm_faulty_2]
    · rw [if_neg c]
  unfold rm_kin
  generalize (if ab = none then rm_faulty (mw_setV M 6 k (oI ab)) 2 (M.1 27) else mw_setV M 6 k (oI ab)) = Mq_ at e_ ⊢
  have c_ : ∀ j i, ¬ j = 8 → (mw_setS (rm_clr (mw_setV (mw_setV (mw_setV (mw_setV (mw_setV (mw_setW Mq_ 103 k w) 91 k (nI p)) 105 k (M.1 111)) 116 k (M.1 13)) 5 k (M.1 34)) 7 k (M.1 19)) k 6) 35 (M.1 35 + 1)).2.2.1 j i = (mw_setV (mw_setV (mw_setV (mw_setV (mw_setV (mw_setW Mq_ 103 k w) 91 k (nI p)) 105 k (M.1 111)) 116 k (M.1 13)) 5 k (M.1 34)) 7 k (M.1 19)).2.2.1 j i := fun j i hj => if_neg (fun z => hj z.1)
  rw [c_ 91 _ (by decide), c_ 105 _ (by decide), c_ 116 _ (by decide), c_ 5 _ (by decide), c_ 6 _ (by decide), c_ 7 _ (by decide)]
  refine ⟨?_, ?_, ?_, ?_, ?_, setV_eq, fun q hq => if_pos ⟨rfl, by omega, by omega⟩⟩
  · rw [setV_ne (by omega), setV_ne (by omega), setV_ne (by omega), setV_ne (by omega), setV_eq]
  · rw [setV_ne (by omega), setV_ne (by omega), setV_ne (by omega), setV_eq]
  · rw [setV_ne (by omega), setV_ne (by omega), setV_eq]
  · rw [setV_ne (by omega), setV_eq]
  · rw [setV_ne (by omega), setV_ne (by omega), setV_ne (by omega), setV_ne (by omega), setV_ne (by omega)]
    show Mq_.2.2.1 6 k = _
    rw [e_]
    exact setV_eq
theorem rm_kin_fp {ab : Option Nat} {w : Int64} {p : Nat} : fpOf (rm_kin M k ab w p) = (if ab = none then flt (fpOf M) 2 (M.1 27) else fpOf M) := by
  unfold rm_kin
  show fpOf (if ab = none then rm_faulty (mw_setV M 6 k (oI ab)) 2 (M.1 27) else mw_setV M 6 k (oI ab)) = _
  by_cases c : ab = none
  · rw [if_pos c, if_pos c, rm_faulty_flt]; rfl
  · rw [if_neg c, if_neg c]; rfl
/-- the memory where a kind's bodies begin -/
theorem kM6_V {j i : Nat} (h1_ : ¬ ((j = 90 ∨ j = 91 ∨ j = 105 ∨ j = 116 ∨ j = 5 ∨ j = 6 ∨ j = 7) ∧ i = k)) (h2_ : ¬ (j = 8 ∧ 6 * k ≤ i ∧ i < 6 * k + 6)) : (kM6 tb n k M t).2.2.1 j i = M.2.2.1 j i := by
  show (kM5 tb n k M t).2.2.1 j i = _
  unfold kM5
  rw [rm_kin_V (by omega) h2_]
  show (kM2 tb n k M t).2.2.1 j i = _
  unfold kM2
  rw [rm_knm_V (by omega)]
  rfl
theorem kM4_27 : (kM4 tb n k M t).1 27 = nI (qs tb n (t + 1 + 1 + 1)) := rfl
theorem kM6_N (h13_ : M.1 13 = nI (ka M)) (h111_ : M.1 111 = nI (kg M)) : (kM6 tb n k M t).2.2.1 90 k = nI (qs tb n (t + 1)) ∧ (kM6 tb n k M t).2.2.1 91 k = nI (qs tb n (t + 1 + 1 + 1)) ∧ (kM6 tb n k M t).2.2.1 105 k = nI (kg M) ∧ (kM6 tb n k M t).2.2.1 116 k = nI (ka M) ∧ (kM6 tb n k M t).2.2.1 5 k = M.1 34 ∧ (kM6 tb n k M t).2.2.1 6 k = oI (kfi ((kM6 tb n k M t).2.2.2.1 100) ((kM6 tb n k M t).2.2.2.1 103 k) k) ∧ (kM6 tb n k M t).2.2.1 7 k = M.1 19 ∧ ∀ q, q < 6 → (kM6 tb n k M t).2.2.1 8 (6 * k + q) = 0 := by
  have s_ : ∀ j, ¬ j = 31 → ¬ j = 32 → ¬ (26 ≤ j ∧ j ≤ 29) → (kM4 tb n k M t).1 j = M.1 j := by
    intro j h1 h2 h3
    unfold kM4
    rw [pw_1 h3, pw_1 h3]
    unfold kM2
    rw [rm_knm_S h1 h2, pw_1 h3]
  obtain ⟨a1_, a2_, a3_, a4_, a5_, a6_, a7_⟩ := rm_kin_N (M := kM4 tb n k M t) (k := k) (ab := kfi ((kM4 tb n k M t).2.2.2.1 100) (spL (wo tb n (t + 1 + 1 + 1))) k) (w := spL (wo tb n (t + 1 + 1 + 1))) (p := qs tb n (t + 1 + 1 + 1))
  have e90_ : (kM6 tb n k M t).2.2.1 90 k = nI (qs tb n (t + 1)) := by
    show (kM5 tb n k M t).2.2.1 90 k = _
    unfold kM5
    rw [rm_kin_V (by omega) (by omega)]
    exact rm_knm_90
  have eW_ := kM6_W (tb := tb) (n := n) (k := k) (M := M) (t := t)
  have w103_ : (kM6 tb n k M t).2.2.2.1 103 k = spL (wo tb n (t + 1 + 1 + 1)) := by
    rw [eW_]
    exact mw_u2_eq _ _ _ _
  have w100_ : kfi ((kM6 tb n k M t).2.2.2.1 100) (spL (wo tb n (t + 1 + 1 + 1))) k = kfi ((kM4 tb n k M t).2.2.2.1 100) (spL (wo tb n (t + 1 + 1 + 1))) k := by
    refine kfi_congr (fun x hx => ?_)
    show (kM5 tb n k M t).2.2.2.1 100 x = _
    unfold kM5
    rw [rm_kin_W]
    exact mw_setW_ne (by omega)
  refine ⟨e90_, a1_, a2_.trans ((s_ 111 (by decide) (by decide) (by omega)).trans h111_), a3_.trans ((s_ 13 (by decide) (by decide) (by omega)).trans h13_), a4_.trans (s_ 34 (by decide) (by decide) (by omega)), ?_, a6_.trans (s_ 19 (by decide) (by decide) (by omega)), a7_⟩
  rw [w103_, w100_]
  exact a5_
theorem kM6_fp : fpOf (kM6 tb n k M t) = (if kfi (M.2.2.2.1 100) (spL (wo tb n (t + 1 + 1 + 1))) k = none then flt (if kfi (M.2.2.2.1 100) (spL (wo tb n (t + 1))) k = none then fpOf M else flt (fpOf M) 2 (nI (qs tb n (t + 1)))) 2 (nI (qs tb n (t + 1 + 1 + 1))) else (if kfi (M.2.2.2.1 100) (spL (wo tb n (t + 1))) k = none then fpOf M else flt (fpOf M) 2 (nI (qs tb n (t + 1))))) := by
  show fpOf (kM5 tb n k M t) = _
  unfold kM5
  rw [rm_kin_fp, kM4_27]
  have e1_ : fpOf (kM4 tb n k M t) = (if kfi (M.2.2.2.1 100) (spL (wo tb n (t + 1))) k = none then fpOf M else flt (fpOf M) 2 (nI (qs tb n (t + 1)))) := by
    show fpOf (kM2 tb n k M t) = _
    unfold kM2
    rw [rm_knm_fp]
    rfl
  have e2_ : kfi ((kM4 tb n k M t).2.2.2.1 100) (spL (wo tb n (t + 1 + 1 + 1))) k = kfi (M.2.2.2.1 100) (spL (wo tb n (t + 1 + 1 + 1))) k := by
    refine kfi_congr (fun x hx => ?_)
    show (kM2 tb n k M t).2.2.2.1 100 x = _
    unfold kM2
    rw [rm_knm_W]
    exact mw_u2_ne _ _ (by omega)
  rw [e1_, e2_]
theorem RI.head (h_ : RI tb n nk np a0 g0 k k M t) (hnk_ : nk ≤ k) (hk50_ : k < 50) (hI_ : pI tb n a0 M t) (hg_ : gI tb n g0 M t) (hh_ : kHd tb n M t) : RI tb n nk np a0 g0 k (k + 1) (kM6 tb n k M t) (t + 1 + 1 + 1 + 1 + 1) := by
  obtain ⟨riK_, riB_, riH_, riO_, riE_, riL_, riF_, riU_, riD_⟩ := h_
  obtain ⟨hd1_, hd2_, hd3_, hd4_, hd5_, hd6_⟩ := hh_
  have q0_ := (qs_lt (tb := tb) (n := n) (t := t) (by omega)).2.1
  have q1_ := (qs_lt (tb := tb) (n := n) (t := t + 1) (by omega)).2.1
  have q2_ := (qs_lt (tb := tb) (n := n) (t := t + 1 + 1) (by omega)).2.1
  have q3_ := (qs_lt (tb := tb) (n := n) (t := t + 1 + 1 + 1) (by omega)).2.1
  have q4_ := (qs_lt (tb := tb) (n := n) (t := t + 1 + 1 + 1 + 1) (by omega)).2.1
  have q5_ := qs_le (tb := tb) (n := n) (t + 1 + 1 + 1 + 1 + 1)
  have n7_ := hI_.n7
  have hka_ := hI_.kA_
  obtain ⟨gc1_, gc2_, gc3_, gc4_⟩ := hg_.c hI_.n7
  obtain ⟨w90_, w91_, w105_, w116_, w5_, w6_, w7_, w8_⟩ := kM6_N (tb := tb) (n := n) (k := k) (t := t) hka_.1 gc1_
  have v_ := @kM6_V tb n t k M
  have sS_ : ∀ j, (¬ j = 31 ∧ ¬ j = 32 ∧ ¬ j = 35 ∧ ¬ (26 ≤ j ∧ j ≤ 29)) → (kM6 tb n k M t).1 j = M.1 j := fun j hj => kM6_S hj
  have eka_ : ka (kM6 tb n k M t) = ka M := by unfold ka; rw [sS_ 13 (by omega)]
  have eku_ : ku (kM6 tb n k M t) = ku M := by unfold ku; rw [sS_ 41 (by omega)]
  have ekg_ : kg (kM6 tb n k M t) = kg M := by unfold kg; rw [sS_ 111 (by omega)]
  have ekd_ : kd_ (kM6 tb n k M t) = kd_ M := by unfold kd_; rw [sS_ 37 (by omega)]
  have eW_ := kM6_W (tb := tb) (n := n) (k := k) (M := M) (t := t)
  have efp_ := kM6_fp (tb := tb) (n := n) (k := k) (M := M) (t := t)
  have s100_ := sS_ 100 (by omega)
  have s101_ := sS_ 101 (by omega)
  have s34_ := sS_ 34 (by omega)
  have s19_ := sS_ 19 (by omega)
  generalize kM6 tb n k M t = Mh_ at w90_ w91_ w105_ w116_ w5_ w6_ w7_ w8_ v_ sS_ eka_ eku_ ekg_ ekd_ eW_ efp_ s100_ s101_ s34_ s19_ ⊢
  have eWo_ : ∀ j i, ¬ ((j = 100 ∨ j = 103) ∧ i = k) → Mh_.2.2.2.1 j i = M.2.2.2.1 j i := by
    intro j i hj
    rw [eW_]
    show mw_u2 (mw_u2 M.2.2.2.1 100 k (spL (wo tb n (t + 1)))) 103 k (spL (wo tb n (t + 1 + 1 + 1))) j i = _
    rw [mw_u2_ne _ _ (by omega), mw_u2_ne _ _ (by omega)]
  have eW1_ : Mh_.2.2.2.1 100 k = spL (wo tb n (t + 1)) := by
    rw [eW_]
    show mw_u2 (mw_u2 M.2.2.2.1 100 k (spL (wo tb n (t + 1)))) 103 k (spL (wo tb n (t + 1 + 1 + 1))) 100 k = _
    rw [mw_u2_ne _ _ (by omega), mw_u2_eq]
  have eW3_ : Mh_.2.2.2.1 103 k = spL (wo tb n (t + 1 + 1 + 1)) := by
    rw [eW_]
    exact mw_u2_eq _ _ _ _
  have kf_ : ∀ w i, i ≤ k → kfi (Mh_.2.2.2.1 100) w i = kfi (M.2.2.2.1 100) w i := fun w i hi => kfi_congr (fun x hx => eWo_ 100 x (by omega))
  have zN_ : ∀ i, ¬ i = k → zN Mh_ i = zN M i := fun i hi => by unfold zN; rw [v_ (by omega) (by omega)]
  have zU_ : ∀ i, ¬ i = k → zU Mh_ i = zU M i := fun i hi => by unfold zU; rw [v_ (by omega) (by omega)]
  have zG_ : ∀ i, ¬ i = k → zG Mh_ i = zG M i := fun i hi => by unfold zG; rw [v_ (by omega) (by omega)]
  have zA_ : ∀ i, ¬ i = k → zA Mh_ i = zA M i := fun i hi => by unfold zA; rw [v_ (by omega) (by omega)]
  have zE_ : ∀ i, zE Mh_ i = zE M i := fun i => by unfold zE; rw [v_ (by omega) (by omega)]
  have yK_ : ∀ g, yK Mh_ g = yK M g := fun g => by unfold yK; rw [v_ (by omega) (by omega)]
  have yQ_ : ∀ g, yQ Mh_ g = yQ M g := fun g => by unfold yQ; rw [v_ (by omega) (by omega)]
  have yP_ : ∀ g, yP Mh_ g = yP M g := fun g => by unfold yP; rw [v_ (by omega) (by omega)]
  have yS_ : ∀ g, yS Mh_ g = yS M g := fun g => by unfold yS; rw [v_ (by omega) (by omega)]
  have yE_ : ∀ g, yE Mh_ g = yE M g := fun g => by unfold yE; rw [v_ (by omega) (by omega)]
  have uP_ : ∀ y, uP Mh_ y = uP M y := fun y => by unfold uP; rw [v_ (by omega) (by omega)]
  have zNn_ : zN Mh_ k = qs tb n (t + 1) := by unfold zN; rw [w90_, nI_clamp (by omega)]
  have zUn_ : zU Mh_ k = qs tb n (t + 1 + 1 + 1) := by unfold zU; rw [w91_, nI_clamp (by omega)]
  have zGn_ : zG Mh_ k = kg M := by unfold zG; rw [w105_, nI_clamp (by omega)]
  have zAn_ : zA Mh_ k = ka M := by unfold zA; rw [w116_, nI_clamp (by omega)]
  have uB_ : ∀ y, a0 ≤ y → y < ka M → uP M y < qs tb n t := by
    intro y h1_ h2_
    obtain ⟨p_, p1_, p2_⟩ := riU_.2.1 y h1_ h2_
    unfold uP
    rw [p1_, nI_clamp (by omega)]
    exact p2_
  have has_ : ∀ q' k', q' < 6 → ¬ k' = k → rm_has Mh_ q' k' = rm_has M q' k' := by
    intro q' k' h1_ h2_
    unfold rm_has
    rw [v_ (by omega) (by omega)]
  refine ⟨?_, ?_, ?_, ?_, ?_, ?_, ?_, ?_, by rw [ekg_, ekd_]; exact riD_⟩
  · intro i h1_ h2_
    rw [eka_, ekg_]
    by_cases e_ : i = k
    · subst e_
      rw [zNn_, zUn_, zGn_, zAn_, s34_, s19_]
      exact ⟨⟨w90_, w91_, w105_⟩, ⟨by omega, by omega⟩, ⟨gc2_, Nat.le_refl _, hka_.2.1, Nat.le_refl _⟩, w6_, w5_, w7_⟩
    · obtain ⟨⟨a1_, a2_, a3_⟩, ⟨b1_, b2_⟩, c_, d1_, d2_, d3_⟩ := riK_ i h1_ (by omega)
      rw [zN_ i e_, zU_ i e_, zG_ i e_, zA_ i e_, s34_, s19_, v_ (j := 90) (by omega) (by omega), v_ (j := 91) (by omega) (by omega), v_ (j := 105) (by omega) (by omega), v_ (j := 6) (by omega) (by omega), v_ (j := 5) (by omega) (by omega), v_ (j := 7) (by omega) (by omega), eWo_ 103 i (by omega), kf_ _ i (by omega)]
      exact ⟨⟨a1_, a2_, a3_⟩, ⟨b1_, by omega⟩, c_, d1_, d2_, d3_⟩
  · intro g h1_ h2_
    rw [ekg_] at h2_
    obtain ⟨a_, ⟨b1_, b2_, b3_, b4_, b5_⟩, c_, d_, f_, hh_, x_, r_, l_⟩ := riB_ g h1_ h2_
    have hne_ : ¬ yK M g = k := by omega
    rw [yK_, yQ_, yP_, yS_, yE_, zG_ _ hne_, eka_, has_ _ _ b4_ hne_]
    rw [v_ (j := 98) (by omega) (by omega), v_ (j := 99) (by omega) (by omega), v_ (j := 107) (by omega) (by omega), v_ (j := 114) (by omega) (by omega), v_ (j := 115) (by omega) (by omega), v_ (j := 108) (by omega) (by omega), v_ (j := 112) (by omega) (by omega), v_ (j := 113) (by omega) (by omega), v_ (j := 38) (by omega) (by omega), v_ (j := 39) (by omega) (by omega), v_ (j := 40) (by omega) (by omega)]
    refine ⟨a_, ⟨b1_, by omega, b3_, b4_, by omega⟩, c_, d_.same (fun j i e1 e2 e3 => v_ (by omega) (by omega)), f_, hh_, ?_, r_, l_⟩
    unfold riX
    rw [v_ (j := 96) (by omega) (by omega), v_ (j := 97) (by omega) (by omega), v_ (j := 9) (by omega) (by omega), v_ (j := 10) (by omega) (by omega), v_ (j := 11) (by omega) (by omega), v_ (j := 12) (by omega) (by omega), v_ (j := 112) (by omega) (by omega), v_ (j := 113) (by omega) (by omega), v_ (j := 108) (by omega) (by omega), v_ (j := 109) (by omega) (by omega)]
    exact x_
  · intro k' q' h1_ h2_ h3_ h4_
    by_cases e_ : k' = k
    · subst e_
      unfold rm_has at h4_
      rw [w8_ q' h3_] at h4_
      exact absurd h4_ (by decide)
    · rw [has_ q' k' h3_ e_] at h4_
      obtain ⟨g, c1_, c2_, c3_, c4_, c5_, c6_⟩ := riH_ k' q' h1_ (by omega) h3_ h4_
      exact ⟨g, by rw [v_ (by omega) (by omega)]; exact c1_, c2_, by rw [ekg_]; exact c3_, by rw [yK_]; exact c4_, by rw [yQ_]; exact c5_, by rw [v_ (by omega) (by omega)]; exact c6_⟩
  · obtain ⟨o1_, o2_, o3_, o4_, o5_, o6_⟩ := riO_
    unfold riO
    rw [eka_, ekg_]
    refine ⟨?_, ?_, ?_, ?_, ?_, ?_⟩
    · intro i i' h1_ h2_ h3_
      rw [zU_ i (by omega), zG_ i (by omega), zA_ i (by omega)]
      by_cases e_ : i' = k
      · subst e_
        obtain ⟨-, z2_, z3_, -⟩ := riK_ i h1_ h2_
        rw [zNn_, zGn_, zAn_]
        exact ⟨by omega, z3_.2.1, z3_.2.2.2⟩
      · rw [zN_ i' e_, zG_ i' e_, zA_ i' e_]; exact o1_ i i' h1_ h2_ (by omega)
    · intro g g' h1_ h2_ h3_
      rw [yP_, yP_, yE_, yS_]; exact o2_ g g' h1_ h2_ h3_
    · intro i g h1_ h2_ h3_ h4_
      rw [yP_, yS_, yE_]
      by_cases e_ : i = k
      · subst e_
        obtain ⟨-, z2_, z3_, -⟩ := riB_ g h3_ h4_
        rw [zGn_, zNn_, zUn_, zAn_]
        exact ⟨fun y => by omega, fun _ => ⟨by omega, z3_.2.2⟩⟩
      · rw [zG_ i e_, zU_ i e_, zN_ i e_, zA_ i e_]; exact o3_ i g h1_ (by omega) h3_ h4_
    · intro g y h1_ h2_ h3_ h4_
      rw [yS_, yP_, uP_]; exact o4_ g y h1_ h2_ h3_ h4_
    · intro i y h1_ h2_ h3_ h4_
      rw [uP_]
      by_cases e_ : i = k
      · subst e_
        rw [zAn_, zUn_, zNn_]
        exact ⟨fun z_ => by omega, fun _ => by have := uB_ y h3_ h4_; omega⟩
      · rw [zA_ i e_, zU_ i e_, zN_ i e_]; exact o5_ i y h1_ (by omega) h3_ h4_
    · intro y h1_ h2_
      obtain ⟨g, g1_, g2_, g3_, g4_⟩ := o6_ y h1_ h2_
      exact ⟨g, g1_, g2_, by rw [yS_]; exact g3_, by rw [yE_]; exact g4_⟩
  · intro i h1_ h2_
    obtain ⟨a1_, a2_, a3_, a4_⟩ := riE_ i h1_ h2_
    rw [zE_, zG_ i (by omega), ekg_, v_ (by omega) (by omega)]
    exact ⟨a1_, a2_, a3_, fun g g1_ g2_ => by rw [yK_]; exact a4_ g g1_ g2_⟩
  · intro _ g g1_ g2_
    rw [ekg_] at g2_
    have z_ := (riB_ g g1_ g2_).2.1
    rw [zGn_, yK_]
    exact ⟨fun y => by omega, fun y => by omega⟩
  · have base_ : ∀ p f, PP nk np g0 (k + 1) Mh_ p f ↔ (PP nk np g0 k M p f ∨ (¬ kfi (M.2.2.2.1 100) (spL (wo tb n (t + 1))) k = none ∧ p = qs tb n (t + 1) ∧ f = 2)) ∨ (kfi (M.2.2.2.1 100) (spL (wo tb n (t + 1 + 1 + 1))) k = none ∧ p = qs tb n (t + 1 + 1 + 1) ∧ f = 2) := by
      intro p f
      unfold PP
      rw [s100_, s101_, ekg_, eWo_ 104 0 (by omega), show Mh_.2.2.2.1 101 = M.2.2.2.1 101 from funext fun i => eWo_ 101 i (by omega)]
      constructor
      · rintro ⟨hp_, h | h | h | h⟩
        · exact Or.inl (Or.inl ⟨hp_, Or.inl h⟩)
        · obtain ⟨h0_, i, i1_, i2_, i3_, i4_⟩ := h
          by_cases e_ : i = k
          · subst e_
            rw [eW1_, kf_ _ _ (Nat.le_refl _)] at i3_
            rw [zNn_] at i4_
            exact Or.inl (Or.inr ⟨i3_, i4_.symm, h0_⟩)
          · rw [eWo_ 100 i (by omega), kf_ _ _ (by omega)] at i3_
            rw [zN_ i e_] at i4_
            exact Or.inl (Or.inl ⟨hp_, Or.inr (Or.inl ⟨h0_, i, i1_, by omega, i3_, i4_⟩)⟩)
        · obtain ⟨h0_, i, i1_, i2_, i3_, i4_⟩ := h
          by_cases e_ : i = k
          · subst e_
            rw [eW3_, kf_ _ _ (Nat.le_refl _)] at i3_
            rw [zUn_] at i4_
            exact Or.inr ⟨i3_, i4_.symm, h0_⟩
          · rw [eWo_ 103 i (by omega), kf_ _ _ (by omega)] at i3_
            rw [zU_ i e_] at i4_
            exact Or.inl (Or.inl ⟨hp_, Or.inr (Or.inr (Or.inl ⟨h0_, i, i1_, by omega, i3_, i4_⟩))⟩)
        · obtain ⟨h0_, g, g1_, g2_, g3_, g4_⟩ := h
          rw [v_ (by omega) (by omega)] at g3_
          rw [yP_] at g4_
          exact Or.inl (Or.inl ⟨hp_, Or.inr (Or.inr (Or.inr ⟨h0_, g, g1_, g2_, g3_, g4_⟩))⟩)
      · rintro ((⟨hp_, h | h | h | h⟩ | ⟨i3_, rfl, rfl⟩) | ⟨i3_, rfl, rfl⟩)
        · exact ⟨hp_, Or.inl h⟩
        · obtain ⟨h0_, i, i1_, i2_, i3_, i4_⟩ := h
          exact ⟨hp_, Or.inr (Or.inl ⟨h0_, i, i1_, by omega, by rw [eWo_ 100 i (by omega), kf_ _ _ (by omega)]; exact i3_, by rw [zN_ i (by omega)]; exact i4_⟩)⟩
        · obtain ⟨h0_, i, i1_, i2_, i3_, i4_⟩ := h
          exact ⟨hp_, Or.inr (Or.inr (Or.inl ⟨h0_, i, i1_, by omega, by rw [eWo_ 103 i (by omega), kf_ _ _ (by omega)]; exact i3_, by rw [zU_ i (by omega)]; exact i4_⟩))⟩
        · obtain ⟨h0_, g, g1_, g2_, g3_, g4_⟩ := h
          exact ⟨hp_, Or.inr (Or.inr (Or.inr ⟨h0_, g, g1_, g2_, by rw [v_ (by omega) (by omega)]; exact g3_, by rw [yP_]; exact g4_⟩))⟩
        · exact ⟨by omega, Or.inr (Or.inl ⟨rfl, k, hnk_, by omega, by rw [eW1_, kf_ _ _ (Nat.le_refl _)]; exact i3_, zNn_⟩)⟩
        · exact ⟨by omega, Or.inr (Or.inr (Or.inl ⟨rfl, k, hnk_, by omega, by rw [eW3_, kf_ _ _ (Nat.le_refl _)]; exact i3_, zUn_⟩))⟩
    rw [efp_]
    have f1_ : MinF (fun p f => PP nk np g0 k M p f ∨ (¬ kfi (M.2.2.2.1 100) (spL (wo tb n (t + 1))) k = none ∧ p = qs tb n (t + 1) ∧ f = 2)) (if kfi (M.2.2.2.1 100) (spL (wo tb n (t + 1))) k = none then fpOf M else flt (fpOf M) 2 (nI (qs tb n (t + 1)))) := by
      by_cases c_ : kfi (M.2.2.2.1 100) (spL (wo tb n (t + 1))) k = none
      · rw [if_pos c_]
        exact riF_.ext (fun p f => ⟨Or.inl, fun z => z.resolve_right (fun w => w.1 c_)⟩)
      · rw [if_neg c_]
        exact riF_.add (f := 2) (p := qs tb n (t + 1)) (by omega) (by omega) (fun p f => ⟨fun z => z.imp id (fun w => w.2), fun z => z.imp id (fun w => ⟨c_, w⟩)⟩)
    generalize (if kfi (M.2.2.2.1 100) (spL (wo tb n (t + 1))) k = none then fpOf M else flt (fpOf M) 2 (nI (qs tb n (t + 1)))) = fq_ at f1_ ⊢
    by_cases c_ : kfi (M.2.2.2.1 100) (spL (wo tb n (t + 1 + 1 + 1))) k = none
    · rw [if_pos c_]
      exact f1_.add (f := 2) (p := qs tb n (t + 1 + 1 + 1)) (by omega) (by omega) (fun p f => (base_ p f).trans ⟨fun z => z.imp id (fun w => w.2), fun z => z.imp id (fun w => ⟨c_, w⟩)⟩)
    · rw [if_neg c_]
      exact f1_.ext (fun p f => ⟨fun z => (base_ p f).mpr (Or.inl z), fun z => ((base_ p f).mp z).resolve_right (fun w => c_ w.1)⟩)
  · exact riU_.same eka_ eku_ (fun j i hj => v_ (by omega) (by omega)) (fun i _ => v_ (by omega) (by omega)) (by omega)
end KHD
