/-! a pack that was read -/
theorem mw_setW_eq {M : mw_S} {j i : Nat} {x : Int64} : (mw_setW M j i x).2.2.2.1 j i = x := mw_u2_eq _ _ _ _
theorem COV.act {M : mw_S} {k q : Nat} : ∀ (f deep : Nat) (v : Int32) (s e : Nat), COV M k q f deep v s e → s ≤ e ∧ ∀ y, s ≤ y → y < e → act_ok M k q y := by
  intro f
  induction f with
  | zero => intro deep v s e h; exact h.elim
  | succ f ih_ =>
    intro deep v s e h
    rcases h with ⟨-, h⟩ | ⟨h1, h2, h3, h4, m1, m2, p1, p2, p3, c1, c2, c3⟩
    · exact ⟨by omega, fun y a b => by omega⟩
    · obtain ⟨-, x1_⟩ := ih_ _ _ _ _ c1
      obtain ⟨-, x2_⟩ := ih_ _ _ _ _ c2
      obtain ⟨-, x3_⟩ := ih_ _ _ _ _ c3
      refine ⟨by omega, fun y a b => ?_⟩
      by_cases e1 : y = s
      · rw [e1]; exact h4
      · by_cases e2 : y < m1
        · exact x1_ y (by omega) e2
        · by_cases e3 : y < m2
          · exact x2_ y (by omega) e3
          · exact x3_ y (by omega) b
theorem CV.act {M : mw_S} {k q deep s e : Nat} {v : Int32} (h_ : CV M k q deep v s e) : ∀ y, s ≤ y → y < e → act_ok M k q y := by
  obtain ⟨f, h_⟩ := h_
  exact (COV.act f deep v s e h_).2
section PRD
variable {tb : Nat → Nat} {n nk np a0 g0 kc t : Nat} {M : mw_S}
theorem RI.init (h1_ : ka M = a0) (h2_ : kg M = g0) (h3_ : kd_ M = 0) (h4_ : ku M = 0) (hF_ : MinF (PP nk np g0 nk M) (fpOf M)) : RI tb n nk np a0 g0 nk nk M t := by
  refine ⟨fun i a b => by omega, fun g a b => by omega, fun k q a b => by omega, ⟨fun i i' a b c => by omega, fun g g' a b c => by omega, fun i g a b => by omega, fun g y a b => by omega, fun i y a b => by omega, fun y a b => by omega⟩, fun i a b => by omega, fun z => absurd z (Nat.lt_irrefl _), hF_, ⟨⟨Nat.zero_le _, fun _ _ _ => Nat.zero_le _⟩, fun y a b => by omega, fun y z a b c => by omega, fun j hj => by omega, fun y a b => by omega⟩, by omega⟩
/-- an action's own kind and hook, by its body -/
theorem RI.actOf (h_ : RI tb n nk np a0 g0 kc kc M t) {y : Nat} (h1_ : a0 ≤ y) (h2_ : y < ka M) : ∃ g, g0 ≤ g ∧ g < kg M ∧ yS M g ≤ y ∧ y < yE M g ∧ yK M g < kc ∧ yQ M g < 6 ∧ act_ok M (yK M g) (yQ M g) y := by
  obtain ⟨riK_, riB_, riH_, riO_, riE_, riL_, riF_, riU_, riD_⟩ := h_
  obtain ⟨g, g1_, g2_, g3_, g4_⟩ := riO_.2.2.2.2.2 y h1_ h2_
  obtain ⟨-, ⟨b1_, b2_, b3_, b4_, b5_⟩, -, c_, -⟩ := riB_ g g1_ g2_
  exact ⟨g, g1_, g2_, g3_, g4_, b2_, b4_, c_.act y g3_ g4_⟩
theorem RI.jRows (h_ : RI tb n nk np a0 g0 kc kc M t) (hI_ : pI tb n a0 M t) : jRows M kc (kd_ M) (ku M) := by
  have hu_ := hI_.uB
  obtain ⟨b_, bd1_, bd2_, bd3_⟩ := hI_.bd
  have eb_ : kd_ M = b_ := bd2_
  have q_ := qs_le (tb := tb) (n := n) t
  have n7_ := hI_.n7
  refine ⟨by rw [eb_]; exact bd1_, by omega, hu_.1, hu_.2.2, fun i hi => ?_, fun j hj => ?_⟩
  · have hd_ := h_.2.2.2.2.2.2.2.2
    obtain ⟨⟨a1_, a2_, -⟩, ⟨b1_, b2_, b3_, b4_, b5_⟩, -, -, ⟨f1_, f2_, -⟩, -⟩ := h_.2.1 (g0 + i) (by omega) (by omega)
    rw [show g0 + i - g0 = i by omega] at f1_ f2_
    exact ⟨yK M (g0 + i), yQ M (g0 + i), b2_, b4_, by rw [f1_]; exact a1_, by rw [f2_]; exact a2_⟩
  · obtain ⟨y, y1_, y2_, -, -, u1_, u2_, u3_, u4_, u5_, u6_⟩ := h_.2.2.2.2.2.2.2.1.2.2.2.1 j hj
    obtain ⟨g, g1_, g2_, g3_, g4_, g5_, g6_, ok1_, ok2_, ok3_, ok4_, ok5_⟩ := h_.actOf y1_ y2_
    by_cases c_ : M.2.2.1 14 y = 2
    · obtain ⟨c, c1_, c2_⟩ := ok3_ c_
      exact ⟨yK M g, c, g5_, c1_, by rw [u1_]; exact ok4_, by rw [u5_, if_pos c_]; exact c2_⟩
    · exact ⟨yK M g, yQ M g, g5_, g6_, by rw [u1_]; exact ok4_, by rw [u5_, if_neg c_]; exact ok5_⟩
/-- the kinds above, with the new ones -/
def abN (M : mw_S) (nk : Nat) (ab : Nat → Option Nat) (i : Nat) : Option Nat := if i < nk then ab i else kfi (M.2.2.2.1 100) (M.2.2.2.1 103 i) i
theorem RI.T {M0 : mw_S} {ab : Nat → Option Nat} (h_ : RI tb n nk np a0 g0 kc kc M t) (hT_ : rm_T M0 nk ab) (hk_ : kk nk a0 g0 M0 M) (hkc_ : kc ≤ 50) : rm_T M kc (abN M nk ab) := by
  refine ⟨fun i j hi hj => ?_, hkc_, fun i hi => ?_⟩
  · unfold abN at hj
    by_cases c_ : i < nk
    · rw [if_pos c_] at hj; exact hT_.1 i j c_ hj
    · rw [if_neg c_] at hj
      have := (kfA_s i 0 j hj).2.1
      omega
  · unfold abN
    by_cases c_ : i < nk
    · rw [if_pos c_, hk_.2.2.2.2 6 i (by unfold kkV; omega)]
      exact hT_.2.2 i c_
    · rw [if_neg c_]
      exact (h_.1 i (by omega) hi).2.2.2.1
end PRD
/-- a pack that was read to its end -/
theorem pPack_ri {tb : Nat → Nat} {n nk np a0 g0 : Nat} {M : mw_S} (h3_ : M.1 3 = nI nk) (hnk_ : nk ≤ 40) (h19_ : M.1 19 = nI np) (hnp_ : np ≤ 12) (hI_ : pI tb n a0 (rm_word M tb n (qs tb n 0)) 0) (hg_ : gI tb n g0 (rm_word M tb n (qs tb n 0)) 0) (h35_ : M.1 35 = 0) (h31_ : M.1 31 = 0) (h13_ : M.1 13 = nI a0) (h111_ : M.1 111 = nI g0) (h37_ : M.1 37 = 0) (h41_ : M.1 41 = 0) (hr_ : ¬ (pPack tb n M).1 = 0) :
    (cd tb n 0 = 23 ∧ cd tb n 1 = 2) ∧ ∃ nn, 1 ≤ nn ∧ nn ≤ 10 ∧ (pPack tb n M).2.1.1 35 = nI nn ∧ RI tb n nk np a0 g0 (nk + nn) (nk + nn) (pPack tb n M).2.1 (pPack tb n M).2.2 ∧ pI tb n a0 (pPack tb n M).2.1 (pPack tb n M).2.2 ∧ gI tb n g0 (pPack tb n M).2.1 (pPack tb n M).2.2 := by
  have ha_ := hI_.kA_
  have ea_ : ka M = a0 := by unfold ka; rw [h13_, nI_clamp (by have := ha_.2.1; have := ha_.2.2; omega)]
  have eg_ : kg M = g0 := by unfold kg; rw [h111_, nI_clamp (by have := hg_.1; omega)]
  have ed_ : kd_ M = 0 := by unfold kd_; rw [h37_]; rfl
  have eu_ : ku M = 0 := by unfold ku; rw [h41_]; rfl
  have p4_ : ∀ (Mp_ : mw_S) (t : Nat), pI tb n a0 Mp_ t → gI tb n g0 Mp_ t → Mp_.1 3 = nI nk → Mp_.1 35 = 0 → RI tb n nk np a0 g0 nk nk Mp_ t → ¬ (pP4 tb n (pT tb n Mp_ t 4)).1 = 0 → ∃ nn, 1 ≤ nn ∧ nn ≤ 10 ∧ (pP4 tb n (pT tb n Mp_ t 4)).2.1.1 35 = nI nn ∧ RI tb n nk np a0 g0 (nk + nn) (nk + nn) (pP4 tb n (pT tb n Mp_ t 4)).2.1 (pP4 tb n (pT tb n Mp_ t 4)).2.2 ∧ pI tb n a0 (pP4 tb n (pT tb n Mp_ t 4)).2.1 (pP4 tb n (pT tb n Mp_ t 4)).2.2 ∧ gI tb n g0 (pP4 tb n (pT tb n Mp_ t 4)).2.1 (pP4 tb n (pT tb n Mp_ t 4)).2.2 := by
    intro Mp_ t a2_ a3_ a4_ a5_ a6_ a7_
    by_cases c_ : cd tb n t = 4
    · have e_ : pT tb n Mp_ t 4 = (1, pw tb n Mp_ t, t + 1) := by unfold pT; rw [if_pos c_]
      have e2_ : pP4 tb n (pT tb n Mp_ t 4) = pKs tb n (n + 1) (pw tb n Mp_ t) (t + 1) := by
        rw [e_]
        unfold pP4
        exact if_neg (show ¬ (1 : Int32) = 0 by decide)
      rw [e2_] at a7_ ⊢
      have q_ := qs_le (tb := tb) (n := n) (t + 1)
      exact RI.kinds hnk_ (n + 1) (pw tb n Mp_ t) (t + 1) 0 a6_.w_ a2_.w a3_.w a4_ a5_ (by omega) (by omega) a7_
    · have e_ : pT tb n Mp_ t 4 = (0, pf tb n Mp_ t, t) := by unfold pT; rw [if_neg c_]
      rw [e_] at a7_
      unfold pP4 at a7_
      exact absurd (show (if ((0 : Int32), pf tb n Mp_ t, t).1 = 0 then ((0 : Int32), pf tb n Mp_ t, t) else pKs tb n (n + 1) (pf tb n Mp_ t) t).1 = 0 by rw [if_pos rfl]) a7_
  unfold pPack pP0 at hr_ ⊢
  by_cases c_ : cd tb n 0 = 23
  · have e_ : pT tb n (rm_word M tb n (qs tb n 0)) 0 23 = (1, pM1 tb n M, 1) := by unfold pT; rw [if_pos c_]; rfl
    rw [e_, if_neg (show ¬ (1 : Int32) = 0 by decide)] at hr_ ⊢
    have i1_ : pI tb n a0 (pM1 tb n M) 1 := hI_.w
    change ¬ (pP1 tb n (pM1 tb n M) 1).1 = 0 at hr_
    show (cd tb n 0 = 23 ∧ cd tb n 1 = 2) ∧ ∃ nn, 1 ≤ nn ∧ nn ≤ 10 ∧ (pP1 tb n (pM1 tb n M) 1).2.1.1 35 = nI nn ∧ RI tb n nk np a0 g0 (nk + nn) (nk + nn) (pP1 tb n (pM1 tb n M) 1).2.1 (pP1 tb n (pM1 tb n M) 1).2.2 ∧ pI tb n a0 (pP1 tb n (pM1 tb n M) 1).2.1 (pP1 tb n (pM1 tb n M) 1).2.2 ∧ gI tb n g0 (pP1 tb n (pM1 tb n M) 1).2.1 (pP1 tb n (pM1 tb n M) 1).2.2
    by_cases d_ : cd tb n 1 = 2
    · refine ⟨⟨c_, d_⟩, ?_⟩
      have e2_ : pP1 tb n (pM1 tb n M) 1 = pP2 tb n (pM3 tb n M) 2 := by unfold pP1; rw [if_pos d_]; rfl
      rw [e2_] at hr_ ⊢
      have iw_ : pI tb n a0 (mw_setW (pM1 tb n M) 102 0 (spL (wo tb n 1))) 1 := i1_.same rfl rfl
      have i3_ : pI tb n a0 (pM3 tb n M) 2 := (iw_.w.same2 (M' := mw_setS (pw tb n (mw_setW (pM1 tb n M) 102 0 (spL (wo tb n 1))) 1) 34 ((pM1 tb n M).1 23)) (fun j _ _ _ _ h4 _ _ _ _ _ => mw_u_ne _ _ h4) rfl).sS rfl
      have j3_ : gI tb n g0 (pM3 tb n M) 2 := ⟨hg_.1, g0, h111_, Nat.le_refl _, by omega⟩
      by_cases f_ : cd tb n 2 = 24
      · by_cases g_ : cd tb n 3 = 2
        · have e19_ : ((pw tb n (pM3 tb n M) 2).1 19).toNatClampNeg = np := by rw [show (pw tb n (pM3 tb n M) 2).1 19 = nI np from h19_, nI_clamp (by omega)]
          have e3_ : pP2 tb n (pM3 tb n M) 2 = pP4 tb n (pT tb n (pM5 tb n np M) 4 4) := by
            unfold pP2
            rw [if_pos f_]
            unfold pP3
            rw [if_pos g_, e19_]
            rfl
          rw [e3_] at hr_ ⊢
          have i5_ : pI tb n a0 (pM5 tb n np M) 4 := (i3_.w.with_.wgh).w
          have k13_ : ka (pM5 tb n np M) = a0 := by unfold ka; rw [pM5_1 (by omega)]; exact ea_
          have k111_ : kg (pM5 tb n np M) = g0 := by unfold kg; rw [pM5_1 (by omega)]; exact eg_
          have k37_ : kd_ (pM5 tb n np M) = 0 := by unfold kd_; rw [pM5_1 (by omega)]; exact ed_
          have k41_ : ku (pM5 tb n np M) = 0 := by unfold ku; rw [pM5_1 (by omega)]; exact eu_
          refine p4_ (pM5 tb n np M) 4 i5_ ⟨hg_.1, g0, (pM5_1 (by omega)).trans h111_, Nat.le_refl _, by omega⟩ ((pM5_1 (by omega)).trans h3_) ((pM5_1 (by omega)).trans h35_) (RI.init k13_ k111_ k37_ k41_ ?_) hr_
          -- the fault of a name that no pack has
          have w104_ : (pM5 tb n np M).2.2.2.1 104 0 = spL (wo tb n 3) := by
            show (mw_setW (rm_with (pw tb n (pM3 tb n M) 2) np (spL (wo tb n 3))) 104 0 (spL (wo tb n 3))).2.2.2.1 104 0 = _
            exact mw_setW_eq
          have w101_ : (pM5 tb n np M).2.2.2.1 101 = (pw tb n (pM3 tb n M) 2).2.2.2.1 101 := by
            funext i
            show (mw_setW (rm_with (pw tb n (pM3 tb n M) 2) np (spL (wo tb n 3))) 104 0 (spL (wo tb n 3))).2.2.2.1 101 i = _
            rw [mw_setW_ne (by omega), rm_with_2]
          have s101_ : (pM5 tb n np M).1 101 = 1 := rfl
          have s100_ : (pM5 tb n np M).1 100 = nI (qs tb n 3) := rfl
          have q_ := qs_le (tb := tb) (n := n) 3
          have n7_ := hI_.n7
          have fp_ : fpOf (pM5 tb n np M) = fpOf (rm_with (pw tb n (pM3 tb n M) 2) np (spL (wo tb n 3))) := rfl
          have fp0_ : (fpOf (pw tb n (pM3 tb n M) 2)).1 = 0 := h31_
          have s27_ : (pw tb n (pM3 tb n M) 2).1 27 = nI (qs tb n 3) := rfl
          have base_ : ∀ p f, PP nk np g0 nk (pM5 tb n np M) p f ↔ (f = 2 ∧ ¬ spL (wo tb n 3) = spL [104, 111, 117, 115, 101] ∧ klA ((pw tb n (pM3 tb n M) 2).2.2.2.1 101) (spL (wo tb n 3)) np = none ∧ p = qs tb n 3) := by
            intro p f
            unfold PP
            rw [w104_, w101_, s101_, s100_, k111_]
            constructor
            · rintro ⟨hp_, ⟨x1_, -, x2_, x3_, x4_⟩ | ⟨-, i, i1_, i2_, -⟩ | ⟨-, i, i1_, i2_, -⟩ | ⟨-, g, g1_, g2_, -⟩⟩
              · exact ⟨x1_, x2_, x3_, ((nI_eq (by omega) hp_).mp x4_).symm⟩
              · omega
              · omega
              · omega
            · rintro ⟨x1_, x2_, x3_, rfl⟩
              exact ⟨by omega, Or.inl ⟨x1_, rfl, x2_, x3_, rfl⟩⟩
          rw [fp_]
          unfold rm_with
          by_cases y_ : spL (wo tb n 3) = spL [104, 111, 117, 115, 101]
          · rw [if_pos y_]
            exact Or.inl ⟨fp0_, fun p f z => ((base_ p f).mp z).2.1 y_⟩
          · rw [if_neg y_]
            cases hk_ : klA ((pw tb n (pM3 tb n M) 2).2.2.2.1 101) (spL (wo tb n 3)) np with
            | some x_ => exact Or.inl ⟨fp0_, fun p f z => by have := ((base_ p f).mp z).2.2.1; rw [hk_] at this; cases this⟩
            | none =>
              show MinF _ (fpOf (rm_faulty (pw tb n (pM3 tb n M) 2) 2 ((pw tb n (pM3 tb n M) 2).1 27)))
              rw [rm_faulty_flt, s27_]
              have m0_ : MinF (fun _ _ => False) (fpOf (pw tb n (pM3 tb n M) 2)) := Or.inl ⟨fp0_, fun _ _ z => z⟩
              exact m0_.add (f := 2) (p := qs tb n 3) (by omega) (by omega) (fun p f => ⟨fun z => Or.inr ⟨((base_ p f).mp z).2.2.2, ((base_ p f).mp z).1⟩, fun z => by
                rcases z with z | ⟨z1_, z2_⟩
                · exact z.elim
                · exact (base_ p f).mpr ⟨z2_, y_, hk_, z1_⟩⟩)
        · exfalso
          refine hr_ ?_
          unfold pP2
          rw [if_pos f_]
          unfold pP3
          rw [if_neg g_]
      · have e3_ : pP2 tb n (pM3 tb n M) 2 = pP4 tb n (pT tb n (pM3 tb n M) 2 4) := by unfold pP2; rw [if_neg f_]
        rw [e3_] at hr_ ⊢
        refine p4_ (pM3 tb n M) 2 i3_ j3_ h3_ h35_ (RI.init ea_ eg_ ed_ eu_ (Or.inl ⟨h31_, fun p f z => ?_⟩)) hr_
        obtain ⟨hp_, ⟨-, x1_, -⟩ | ⟨-, i, i1_, i2_, -⟩ | ⟨-, i, i1_, i2_, -⟩ | ⟨-, g, g1_, g2_, -⟩⟩ := z
        · exact absurd (show (0 : Int32) = 1 from x1_) (by decide)
        · omega
        · omega
        · have e4_ : kg (pM3 tb n M) = g0 := eg_
          omega
    · exfalso
      refine hr_ ?_
      unfold pP1
      rw [if_neg d_]
  · have e_ : (pT tb n (rm_word M tb n (qs tb n 0)) 0 23).1 = 0 := by unfold pT; rw [if_neg c_]
    rw [if_pos e_] at hr_
    exact absurd e_ hr_
