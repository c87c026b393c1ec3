/-! what the reading of a whole pack leaves as it is, however it ends -/
def kkS (j : Nat) : Prop := kbS j ∧ ¬ j = 34 ∧ ¬ j = 35 ∧ ¬ j = 100 ∧ ¬ j = 101
def kkV (nk a0 g0 j i : Nat) : Prop :=
  (j < 5 ∨ j = 13 ∨ (18 < j ∧ j < 38) ∨ j = 41 ∨ (46 < j ∧ j < 80) ∨ (84 < j ∧ j < 90) ∨ (91 < j ∧ j < 96) ∨ (99 < j ∧ j < 105) ∨ (109 < j ∧ j < 112) ∨ 116 < j) ∨
  ((5 ≤ j ∧ j ≤ 7 ∨ 90 ≤ j ∧ j ≤ 91 ∨ 105 ≤ j ∧ j ≤ 106 ∨ j = 116) ∧ i < nk) ∨ ((8 ≤ j ∧ j ≤ 12 ∨ j = 97) ∧ i < 6 * nk) ∨ ((14 ≤ j ∧ j ≤ 18 ∨ 80 ≤ j ∧ j ≤ 83) ∧ i < a0) ∨
  ((j = 96 ∨ j = 98 ∨ j = 99 ∨ j = 107 ∨ j = 108 ∨ j = 109 ∨ j = 112 ∨ j = 113 ∨ j = 114 ∨ j = 115) ∧ i < g0)
def kk (nk a0 g0 : Nat) (M M' : mw_S) : Prop := (∀ j, kkS j → M'.1 j = M.1 j) ∧ M'.2.1 = M.2.1 ∧ M'.2.2.2.2 = M.2.2.2.2 ∧ (∀ j i, ¬ ((j = 100 ∨ j = 103) ∧ nk ≤ i) → ¬ j = 102 → ¬ j = 104 → M'.2.2.2.1 j i = M.2.2.2.1 j i) ∧ ∀ j i, kkV nk a0 g0 j i → M'.2.2.1 j i = M.2.2.1 j i
section KKS
variable {tb : Nat → Nat} {n nk a0 g0 t k : Nat} {M M' M'' : mw_S}
theorem kk.refl (M : mw_S) : kk nk a0 g0 M M := ⟨fun _ _ => rfl, rfl, rfl, fun _ _ _ _ _ => rfl, fun _ _ _ => rfl⟩
theorem kk.trans (h_ : kk nk a0 g0 M M') (h2_ : kk nk a0 g0 M' M'') : kk nk a0 g0 M M'' := ⟨fun j hj => (h2_.1 j hj).trans (h_.1 j hj), h2_.2.1.trans h_.2.1, h2_.2.2.1.trans h_.2.2.1, fun j i a b c => (h2_.2.2.2.1 j i a b c).trans (h_.2.2.2.1 j i a b c), fun j i a => (h2_.2.2.2.2 j i a).trans (h_.2.2.2.2 j i a)⟩
theorem kk.sS {j : Nat} {x : Int32} (h_ : kk nk a0 g0 M M') (hj_ : ¬ kkS j) : kk nk a0 g0 M (mw_setS M' j x) := ⟨fun i hi => (mw_u_ne M'.1 x (fun e : i = j => hj_ (e ▸ hi))).trans (h_.1 i hi), h_.2⟩
theorem kk.sV {j i : Nat} {x : Int32} (h_ : kk nk a0 g0 M M') (hj_ : ¬ kkV nk a0 g0 j i) : kk nk a0 g0 M (mw_setV M' j i x) := ⟨h_.1, h_.2.1, h_.2.2.1, h_.2.2.2.1, fun l z hk => (mw_u2_ne _ _ (fun e => hj_ (by obtain ⟨e1, e2⟩ := e; rw [← e1, ← e2]; exact hk))).trans (h_.2.2.2.2 l z hk)⟩
theorem kk.sW {j i : Nat} {x : Int64} (h_ : kk nk a0 g0 M M') (hj_ : ((j = 100 ∨ j = 103) ∧ nk ≤ i) ∨ j = 102 ∨ j = 104) : kk nk a0 g0 M (mw_setW M' j i x) := ⟨h_.1, h_.2.1, h_.2.2.1, fun l z a b c => (mw_u2_ne _ _ (by omega)).trans (h_.2.2.2.1 l z a b c), h_.2.2.2.2⟩
theorem kk.w (h_ : kk nk a0 g0 M M') : kk nk a0 g0 M (pw tb n M' t) := (((h_.sS (fun z => z.1.1.2.2.1 rfl)).sS (fun z => z.1.1.2.2.2.1 rfl)).sS (fun z => z.1.1.2.2.2.2.1 rfl)).sS (fun z => z.1.1.2.2.2.2.2.1 rfl)
theorem kk.f (h_ : kk nk a0 g0 M M') : kk nk a0 g0 M (pf tb n M' t) := (h_.sS (fun z => z.1.1.2.2.2.2.2.2.1 rfl)).sS (fun z => z.1.1.2.1 rfl)
theorem kk.flt {f p : Int32} (h_ : kk nk a0 g0 M M') : kk nk a0 g0 M (rm_faulty M' f p) := by
  rw [rm_faulty_flt]
  exact (h_.sS (fun z => z.1.2.1 rfl)).sS (fun z => z.1.2.2.1 rfl)
theorem kb.kk {a u b g : Nat} (h_ : kb a u b g k M M') (h1_ : nk ≤ k) (h2_ : a0 ≤ a) (h3_ : g0 ≤ g) : kk nk a0 g0 M M' := by
  refine ⟨fun j hj => h_.1 j hj.1, h_.2.1, by rw [h_.2.2.1], fun j i _ _ _ => by rw [h_.2.2.1], fun j i hk => h_.2.2.2 j i ?_⟩
  unfold kkV at hk
  unfold kbV
  omega
theorem kk.tk {c : Nat} (h_ : kk nk a0 g0 M M') : kk nk a0 g0 M (pT tb n M' t c).2.1 := by
  unfold pT
  by_cases z : cd tb n t = c
  · rw [if_pos z]; exact h_.w
  · rw [if_neg z]; exact h_.f
theorem kk.knm {w : Int64} {p : Nat} (h_ : kk nk a0 g0 M M') (hk_ : nk ≤ k) : kk nk a0 g0 M (rm_knm M' k w p) := by
  have e_ : kk nk a0 g0 M (mw_setV (mw_setW M' 100 k w) 90 k (nI p)) := (h_.sW (Or.inl ⟨Or.inl rfl, hk_⟩)).sV (by unfold kkV; omega)
  unfold rm_knm
  by_cases c : kfi (M'.2.2.2.1 100) w k = none
  · rw [if_pos c]; exact e_
  · rw [if_neg c]; exact e_.flt
theorem kk.kin {ab : Option Nat} {w : Int64} {p : Nat} (h_ : kk nk a0 g0 M M') (hk_ : nk ≤ k) : kk nk a0 g0 M (rm_kin M' k ab w p) := by
  have e1_ : kk nk a0 g0 M (if ab = none then rm_faulty (mw_setV M' 6 k (oI ab)) 2 (M'.1 27) else mw_setV M' 6 k (oI ab)) := by
    by_cases c : ab = none
    · rw [if_pos c]; exact (h_.sV (by unfold kkV; omega)).flt
    · rw [if_neg c]; exact h_.sV (by unfold kkV; omega)
  unfold rm_kin
  generalize (if ab = none then rm_faulty (mw_setV M' 6 k (oI ab)) 2 (M'.1 27) else mw_setV M' 6 k (oI ab)) = Mq_ at e1_ ⊢
  have e2_ : kk nk a0 g0 M (mw_setV (mw_setV (mw_setV (mw_setV (mw_setV (mw_setW Mq_ 103 k w) 91 k (nI p)) 105 k (M'.1 111)) 116 k (M'.1 13)) 5 k (M'.1 34)) 7 k (M'.1 19)) := (((((e1_.sW (Or.inl ⟨Or.inr rfl, hk_⟩)).sV (by unfold kkV; omega)).sV (by unfold kkV; omega)).sV (by unfold kkV; omega)).sV (by unfold kkV; omega)).sV (by unfold kkV; omega)
  generalize mw_setV (mw_setV (mw_setV (mw_setV (mw_setV (mw_setW Mq_ 103 k w) 91 k (nI p)) 105 k (M'.1 111)) 116 k (M'.1 13)) 5 k (M'.1 34)) 7 k (M'.1 19) = Mz_ at e2_ ⊢
  refine kk.sS (M' := rm_clr Mz_ k 6) ⟨e2_.1, e2_.2.1, e2_.2.2.1, e2_.2.2.2.1, fun j i hk => ?_⟩ (fun z => z.2.2.1 rfl)
  show (if j = 8 ∧ 6 * k ≤ i ∧ i < 6 * k + 6 then 0 else Mz_.2.2.1 j i) = _
  rw [if_neg (by unfold kkV at hk; omega)]
  exact e2_.2.2.2.2 j i hk
theorem kk.bs (h_ : kk nk a0 g0 M M') (hk_ : nk ≤ k) (hI_ : pI tb n a0 M' t) (hg_ : gI tb n g0 M' t) : kk nk a0 g0 M (pBs tb n k (n + 1) M' t).2.1 := by
  have q_ := qs_le (tb := tb) (n := n) t
  have hka_ := hI_.kA_
  obtain ⟨gc1_, gc2_, gc3_, gc4_⟩ := hg_.c hI_.n7
  have z_ := (kBs (a := ka M') (u := 0) (b := 0) (g := kg M') (k := k) (M0 := M') (by omega) (n + 1) M' t hI_ hg_ (by omega) ⟨kb.refl _, Nat.le_refl _, Nat.zero_le _, Nat.zero_le _, Nat.le_refl _⟩).1.1
  exact h_.trans (z_.kk hk_ hka_.2.1 gc2_)
theorem gI.knm {w : Int64} {p : Nat} (h_ : gI tb n g0 M t) : gI tb n g0 (rm_knm M k w p) t := ⟨h_.1, by rw [rm_knm_S (by decide) (by decide)]; exact h_.2⟩
theorem gI.kin {ab : Option Nat} {w : Int64} {p : Nat} (h_ : gI tb n g0 M t) : gI tb n g0 (rm_kin M k ab w p) t := ⟨h_.1, by rw [rm_kin_S (by decide) (by decide) (by decide)]; exact h_.2⟩
theorem gI.tk {c : Nat} (h_ : gI tb n g0 M t) (hr_ : ¬ (pT tb n M t c).1 = 0) : gI tb n g0 (pT tb n M t c).2.1 (pT tb n M t c).2.2 := by
  unfold pT at hr_ ⊢
  by_cases z : cd tb n t = c
  · rw [if_pos z]; exact h_.w
  · rw [if_neg z] at hr_; exact absurd rfl hr_
theorem kk.kind (h_ : kk nk a0 g0 M M') (hk_ : (M'.1 3 + M'.1 35).toNatClampNeg = k) (hnk_ : nk ≤ k) (hI_ : pI tb n a0 M' t) (hg_ : gI tb n g0 M' t) : kk nk a0 g0 M (pKind tb n M' t).2.1 := by
  unfold pKind
  by_cases c1_ : cd tb n t = 25
  · rw [if_pos c1_]
    by_cases c2_ : M'.1 35 = 10
    · rw [if_pos c2_]; exact h_.f
    · rw [if_neg c2_, hk_]
      unfold pK2
      by_cases c3_ : cd tb n (t + 1) = 2
      · rw [if_pos c3_]
        have a1_ := (h_.w (tb := tb) (n := n) (t := t)).knm (w := spL (wo tb n (t + 1))) (p := qs tb n (t + 1)) hnk_
        have a2_ := (hI_.w).knm (k := k) (w := spL (wo tb n (t + 1))) (p := qs tb n (t + 1))
        have a3_ := (hg_.w).knm (k := k) (w := spL (wo tb n (t + 1))) (p := qs tb n (t + 1))
        generalize rm_knm (pw tb n M' t) k (spL (wo tb n (t + 1))) (qs tb n (t + 1)) = Mk_ at a1_ a2_ a3_ ⊢
        have b1_ := (a1_.w (tb := tb) (n := n) (t := t + 1)).tk (tb := tb) (n := n) (t := t + 1 + 1) (c := 26)
        have b2_ := pT_post (a2_.w) 26
        have b3_ := fun z => (a3_.w).tk (c := 26) z
        generalize pT tb n (pw tb n Mk_ (t + 1)) (t + 1 + 1) 26 = z_ at b1_ b2_ b3_ ⊢
        unfold pK3
        by_cases c4_ : z_.1 = 0
        · rw [if_pos c4_]; exact b1_
        · rw [if_neg c4_]
          obtain ⟨-, -, d2_, -⟩ := b2_.resolve_left (fun w => c4_ w.1)
          have d3_ := b3_ c4_
          unfold pK4
          by_cases c5_ : cd tb n z_.2.2 = 2
          · rw [if_pos c5_]
            have e1_ := b1_.kin (ab := kfi (z_.2.1.2.2.2.1 100) (spL (wo tb n z_.2.2)) k) (w := spL (wo tb n z_.2.2)) (p := qs tb n z_.2.2) hnk_
            have e2_ := d2_.kin (k := k) (ab := kfi (z_.2.1.2.2.2.1 100) (spL (wo tb n z_.2.2)) k) (w := spL (wo tb n z_.2.2)) (p := qs tb n z_.2.2)
            have e3_ := d3_.kin (k := k) (ab := kfi (z_.2.1.2.2.2.1 100) (spL (wo tb n z_.2.2)) k) (w := spL (wo tb n z_.2.2)) (p := qs tb n z_.2.2)
            generalize rm_kin z_.2.1 k (kfi (z_.2.1.2.2.2.1 100) (spL (wo tb n z_.2.2)) k) (spL (wo tb n z_.2.2)) (qs tb n z_.2.2) = Mn_ at e1_ e2_ e3_ ⊢
            have f1_ := (e1_.w (tb := tb) (n := n) (t := z_.2.2)).tk (tb := tb) (n := n) (t := z_.2.2 + 1) (c := 4)
            have f2_ := pT_post (e2_.w) 4
            have f3_ := fun z => (e3_.w).tk (c := 4) z
            generalize pT tb n (pw tb n Mn_ z_.2.2) (z_.2.2 + 1) 4 = y_ at f1_ f2_ f3_ ⊢
            unfold pK5
            by_cases c6_ : y_.1 = 0
            · rw [if_pos c6_]; exact f1_
            · rw [if_neg c6_]
              obtain ⟨-, -, g2_, -⟩ := f2_.resolve_left (fun w => c6_ w.1)
              exact f1_.bs hnk_ g2_ (f3_ c6_)
          · rw [if_neg c5_]; exact b1_.f
      · rw [if_neg c3_]; exact (h_.w).f
  · rw [if_neg c1_]; exact h_.f
theorem kk.kinds (hnk_ : nk ≤ 40) : ∀ (f : Nat) (M' : mw_S) (t nn : Nat), kk nk a0 g0 M M' → pI tb n a0 M' t → gI tb n g0 M' t → M'.1 3 = nI nk → M'.1 35 = nI nn → nn ≤ 10 → n - qs tb n t < f → kk nk a0 g0 M (pKs tb n f M' t).2.1 := by
  intro f
  induction f with
  | zero => intro M' t nn _ _ _ _ _ _ hf_; omega
  | succ f ih_ =>
    intro M' t nn h_ hI_ hg_ h3_ h35_ hnn_ hf_
    have ee_ : pKs tb n (f + 1) M' t = (if (pKind tb n M' t).1 = 0 then pKind tb n M' t else if cd tb n (pKind tb n M' t).2.2 = 5 then pEnd tb n (pw tb n (pKind tb n M' t).2.1 (pKind tb n M' t).2.2) ((pKind tb n M' t).2.2 + 1) else pKs tb n f (pKind tb n M' t).2.1 (pKind tb n M' t).2.2) := rfl
    have hk_ : (M'.1 3 + M'.1 35).toNatClampNeg = nk + nn := by rw [h3_, h35_, nI_add, nI_clamp (by omega)]
    have K_ := h_.kind hk_ (by omega) hI_ hg_
    rw [ee_]
    by_cases z_ : (pKind tb n M' t).1 = 0
    · rw [if_pos z_]; exact K_
    · rw [if_neg z_]
      obtain ⟨hh_, hr1_, ⟨g1_, g2_⟩, hlt_⟩ := pKind_post hI_ z_
      obtain ⟨k35_, kn10_, kgI_, kW_, kS_, -⟩ := pKind_cnt hI_ hg_ h3_ h35_ hnk_ hnn_ z_
      have q2_ := qs_le_of (tb := tb) (n := n) g2_
      have q3_ := qs_le (tb := tb) (n := n) (pKind tb n M' t).2.2
      by_cases c_ : cd tb n (pKind tb n M' t).2.2 = 5
      · rw [if_pos c_]
        unfold pEnd
        by_cases e_ : cd tb n ((pKind tb n M' t).2.2 + 1) = 0
        · rw [if_pos e_]; exact K_.w
        · rw [if_neg e_]; exact (K_.w).f
      · rw [if_neg c_]
        exact ih_ _ _ (nn + 1) K_ g1_ kgI_ ((kS_ 3 (by unfold kbS kpS; omega) (by decide)).trans h3_) k35_ (by omega) (by omega)
/-- the memory as pack begins -/
def pkM0 (M : mw_S) : mw_S := mw_setS (mw_setS (mw_setS (mw_setS (mw_setS (mw_setS (mw_setS M 26 0) 30 1) 31 0) 35 0) 37 0) 41 0) 24 (-1)
theorem kk.pack {np : Nat} (h3_ : M.1 3 = nI nk) (hnk_ : nk ≤ 40) (h19_ : M.1 19 = nI np) (hnp_ : np ≤ 12) (hI_ : pI tb n a0 (rm_word M tb n (qs tb n 0)) 0) (hg_ : gI tb n g0 (rm_word M tb n (qs tb n 0)) 0) (h35_ : M.1 35 = 0) : kk nk a0 g0 M (pPack tb n M).2.1 := by
  have k0_ : kk nk a0 g0 M (rm_word M tb n (qs tb n 0)) := ((((kk.refl M).sS (fun z => z.1.1.2.2.1 rfl)).sS (fun z => z.1.1.2.2.2.1 rfl)).sS (fun z => z.1.1.2.2.2.2.1 rfl)).sS (fun z => z.1.1.2.2.2.2.2.1 rfl)
  -- from the kinds on
  have p4_ : ∀ (Mp_ : mw_S) (t : Nat), kk nk a0 g0 M Mp_ → pI tb n a0 Mp_ t → gI tb n g0 Mp_ t → Mp_.1 3 = nI nk → Mp_.1 35 = 0 → kk nk a0 g0 M (pP4 tb n (pT tb n Mp_ t 4)).2.1 := by
    intro Mp_ t a1_ a2_ a3_ a4_ a5_
    have b1_ := a1_.tk (tb := tb) (n := n) (t := t) (c := 4)
    have b2_ := pT_post a2_ 4
    have b3_ := fun z => a3_.tk (c := 4) z
    have b4_ : (pT tb n Mp_ t 4).2.1.1 3 = nI nk ∧ (pT tb n Mp_ t 4).2.1.1 35 = 0 := by
      unfold pT
      by_cases z : cd tb n t = 4
      · rw [if_pos z]; exact ⟨a4_, a5_⟩
      · rw [if_neg z]; exact ⟨a4_, a5_⟩
    generalize pT tb n Mp_ t 4 = z_ at b1_ b2_ b3_ b4_ ⊢
    unfold pP4
    by_cases c_ : z_.1 = 0
    · rw [if_pos c_]; exact b1_
    · rw [if_neg c_]
      obtain ⟨-, -, d2_, -⟩ := b2_.resolve_left (fun w => c_ w.1)
      have q_ := qs_le (tb := tb) (n := n) z_.2.2
      exact kk.kinds hnk_ (n + 1) _ _ 0 b1_ d2_ (b3_ c_) b4_.1 b4_.2 (by omega) (by omega)
  unfold pPack pP0
  have c0_ := k0_.tk (tb := tb) (n := n) (t := 0) (c := 23)
  by_cases c_ : cd tb n 0 = 23
  · have e_ : pT tb n (rm_word M tb n (qs tb n 0)) 0 23 = (1, pM1 tb n M, 1) := by unfold pT; rw [if_pos c_]; rfl
    rw [e_, if_neg (show ¬ (1 : Int32) = 0 by decide)]
    have k1_ : kk nk a0 g0 M (pM1 tb n M) := k0_.w
    have i1_ : pI tb n a0 (pM1 tb n M) 1 := hI_.w
    have j1_ : gI tb n g0 (pM1 tb n M) 1 := hg_.w
    show kk nk a0 g0 M (pP1 tb n (pM1 tb n M) 1).2.1
    unfold pP1
    by_cases d_ : cd tb n 1 = 2
    · rw [if_pos d_]
      show kk nk a0 g0 M (pP2 tb n (pM3 tb n M) 2).2.1
      have k3_ : kk nk a0 g0 M (pM3 tb n M) := (((k1_.sW (j := 102) (i := 0) (x := spL (wo tb n 1)) (Or.inr (Or.inl rfl))).w (tb := tb) (n := n) (t := 1)).sS (fun z => z.2.1 rfl)).sS (fun z => z.2.2.2.2 rfl)
      have iw_ : pI tb n a0 (mw_setW (pM1 tb n M) 102 0 (spL (wo tb n 1))) 1 := i1_.same rfl rfl
      have i3_ : pI tb n a0 (pM3 tb n M) 2 := (iw_.w.same2 (M' := mw_setS (pw tb n (mw_setW (pM1 tb n M) 102 0 (spL (wo tb n 1))) 1) 34 ((pM1 tb n M).1 23)) (fun j _ _ _ _ h4 _ _ _ _ _ => mw_u_ne _ _ h4) rfl).sS rfl
      obtain ⟨x0_, x_, x1_, x2_, x3_⟩ := j1_
      have j3_ : gI tb n g0 (pM3 tb n M) 2 := ⟨x0_, x_, x1_, x2_, by have := qs_le_of (tb := tb) (n := n) (show 1 ≤ 2 by omega); omega⟩
      unfold pP2
      by_cases f_ : cd tb n 2 = 24
      · rw [if_pos f_]
        unfold pP3
        by_cases g_ : cd tb n 3 = 2
        · rw [if_pos g_]
          have e19_ : ((pw tb n (pM3 tb n M) 2).1 19).toNatClampNeg = np := by rw [show (pw tb n (pM3 tb n M) 2).1 19 = nI np from h19_, nI_clamp (by omega)]
          rw [e19_]
          have k4_ : kk nk a0 g0 M (pw tb n (pM3 tb n M) 2) := k3_.w
          have k5_ : kk nk a0 g0 M (rm_with (pw tb n (pM3 tb n M) 2) np (spL (wo tb n 3))) := ⟨fun j hj => (rm_with_1 hj.1.2.1 hj.1.2.2.1 hj.2.1).trans (k4_.1 j hj), by rw [rm_with_2]; exact k4_.2.1, by rw [rm_with_2]; exact k4_.2.2.1, fun j i a b c => by rw [rm_with_2]; exact k4_.2.2.2.1 j i a b c, fun j i a => by rw [rm_with_2]; exact k4_.2.2.2.2 j i a⟩
          have k6_ : kk nk a0 g0 M (pM4w tb n np M) := ((k5_.sW (Or.inr (Or.inr rfl))).sS (fun z => z.2.2.2.1 rfl)).sS (fun z => z.2.2.2.2 rfl)
          have i5_ : pI tb n a0 (pM5 tb n np M) 4 := (i3_.w.with_.wgh).w
          exact p4_ (pM5 tb n np M) 4 k6_.w i5_ ⟨x0_, x_, (pM5_1 (by omega)).trans x1_, x2_, by have := qs_le_of (tb := tb) (n := n) (show 1 ≤ 4 by omega); omega⟩ ((pM5_1 (by omega)).trans h3_) ((pM5_1 (by omega)).trans h35_)
        · rw [if_neg g_]; exact (k3_.w).f
      · rw [if_neg f_]
        exact p4_ (pM3 tb n M) 2 k3_ i3_ j3_ h3_ h35_
    · rw [if_neg d_]; exact k1_.f
  · have e_ : (pT tb n (rm_word M tb n (qs tb n 0)) 0 23).1 = 0 := by unfold pT; rw [if_neg c_]
    rw [if_pos e_]
    exact c0_
end KKS
