/-! what every step of a reading keeps -/
/-- closed under all that a reading does -/
def Clo (P : mw_S → Prop) : Prop := (∀ M j x, P M → ¬ j = 24 → ¬ j = 30 → P (mw_setS M j x)) ∧ (∀ M x, P M → P (mw_setS (mw_setS M 30 0) 24 x)) ∧ (∀ M j i x, P M → ¬ j = 10 → P (mw_setV M j i x)) ∧ (∀ M i x, P M → (x = 0 ∨ x = 1) → P (mw_setV M 10 i x)) ∧ (∀ M j i x, P M → ¬ j = 102 → P (mw_setW M j i x)) ∧ ∀ M k i, P M → P (rm_clr M k i)
section CLO
variable {P : mw_S → Prop} {tb : Nat → Nat} {n k q : Nat} {M : mw_S} {t : Nat} {F : pr_F} {z : pr_T}
theorem Clo.S (c : Clo P) (h : P M) {j : Nat} {x : Int32} (a : ¬ j = 24) (b : ¬ j = 30) : P (mw_setS M j x) := c.1 M j x h a b
theorem Clo.V (c : Clo P) (h : P M) {j i : Nat} {x : Int32} (a : ¬ j = 10) : P (mw_setV M j i x) := c.2.2.1 M j i x h a
theorem Clo.W (c : Clo P) (h : P M) {j i : Nat} {x : Int64} (a : ¬ j = 102) : P (mw_setW M j i x) := c.2.2.2.2.1 M j i x h a
theorem Clo.w (c : Clo P) (h : P M) {m : Nat} : P (rm_word M tb n m) := c.S (c.S (c.S (c.S h (by decide) (by decide)) (by decide) (by decide)) (by decide) (by decide)) (by decide) (by decide)
theorem Clo.pww (c : Clo P) (h : P M) : P (pw tb n M t) := c.w h
theorem Clo.pff (c : Clo P) (h : P M) : P (pf tb n M t) := c.2.1 M _ h
theorem Clo.flt (c : Clo P) (h : P M) {f p : Int32} : P (rm_faulty M f p) := by
  have g : P (mw_setS (mw_setS M 31 f) 32 p) := c.S (c.S h (by decide) (by decide)) (by decide) (by decide)
  unfold rm_faulty
  split
  · exact g
  · split
    · exact g
    · split
      · split
        · exact h
        · exact g
      · exact h
theorem Clo.T (c : Clo P) (h : P M) {x : Nat} : P (pT tb n M t x).2.1 := by
  unfold pT
  split
  · exact c.pww h
  · exact c.pff h
theorem Clo.Num (c : Clo P) (h : P M) {x : Nat} : P (pNum tb n M t x).2.1 := by
  unfold pNum
  split
  · exact c.pww (c.V h (by decide))
  · split
    · exact c.pww (c.V h (by decide))
    · exact c.pff h
def CF (P : mw_S → Prop) (F : pr_F) : Prop := ∀ M t deep hd tl, P M → P (F M t deep hd tl).2.1
theorem Clo.B (c : Clo P) (hF : CF P F) (h : P M) {deep : Nat} : P (pB tb n F M t deep).2.1 := by
  unfold pB
  split
  · exact hF _ _ _ _ _ (c.pww h)
  · exact c.pff h
theorem Clo.O1 (c : Clo P) (hF : CF P F) (h : P z.2.1) {x deep : Nat} : P (pO1 tb n F x deep z).2.1 := by
  unfold pO1
  split
  · exact h
  · exact c.V (c.B hF h) (by decide)
theorem Clo.O (c : Clo P) (hF : CF P F) (h : P M) {x deep : Nat} : P (pO tb n F M t x deep).2.1 := by
  unfold pO
  split
  · exact c.O1 hF (c.T h)
  · split
    · exact c.O1 hF (c.T h)
    · exact c.V h (by decide)
theorem Clo.Pt (c : Clo P) (hF : CF P F) (h : P M) {x deep : Nat} : P (pPt tb n F M t x deep).2.1 := by
  have hB := c.B hF h (tb := tb) (n := n) (t := t) (deep := deep + 1)
  unfold pPt pPt1
  split
  · exact c.V hB (by decide)
  · exact c.O hF (c.V hB (by decide))
theorem Clo.use (c : Clo P) (h : P M) {a : Nat} {x y o w : Int32} : P (rm_useG M a x y o w) := by
  unfold rm_useG rm_use
  exact c.V (c.S (c.V (c.V (c.V (c.V (c.V h (by decide)) (by decide)) (by decide)) (by decide)) (by decide)) (by decide) (by decide)) (by decide)
theorem Clo.A0 (c : Clo P) (h : P M) {deep : Nat} {o : Int32} : P (pA0 tb n k q deep t o M) := by
  have g : P (rm_gh (rm_action (mw_setS M 47 (M.1 47 + 1)) (M.1 13).toNatClampNeg o 0) (M.1 13).toNatClampNeg deep k q (qs tb n t)) := by
    unfold rm_gh rm_action
    exact c.V (c.V (c.V (c.V (c.S (c.V (c.V (c.V (c.V (c.V (c.S h (by decide) (by decide)) (by decide)) (by decide)) (by decide)) (by decide)) (by decide)) (by decide) (by decide)) (by decide)) (by decide)) (by decide)) (by decide)
  unfold pA0
  split
  · exact c.use g
  · exact g
theorem Clo.A (c : Clo P) (hF : CF P F) (h : P M) {deep : Nat} : P (pA tb n F k q M t deep).2.1 := by
  have g := c.pww (c.A0 (tb := tb) (n := n) (k := k) (q := q) (t := t) (deep := deep) (o := opI (cd tb n t)) h) (tb := tb) (n := n) (t := t)
  unfold pA
  split
  · exact c.pff h
  · split
    · exact c.pff h
    · unfold pA1
      split
      · unfold pC
        split
        · exact c.pff (c.V g (by decide))
        · exact c.T (c.pww (c.use (c.V (c.V g (by decide)) (by decide))))
      · split
        · exact c.T g
        · split
          · exact c.Pt hF g
          · have gn := c.Num (tb := tb) (n := n) (t := t + 1) (x := (M.1 13).toNatClampNeg) g
            unfold pA2
            split
            · exact gn
            · split
              · exact c.Pt hF gn
              · exact c.T gn
theorem Clo.L (c : Clo P) : ∀ f, CF P (pL tb n k q f) := by
  intro f
  induction f with
  | zero => intro M t deep hd tl h; exact h
  | succ f ih =>
    intro M t deep hd tl h
    show P (if cd tb n t = 5 then (hd, pw tb n M t, t + 1) else pN (pL tb n k q f) deep hd tl (pA tb n (pL tb n k q f) k q M t deep)).2.1
    split
    · exact c.pww h
    · have g := c.A ih h (tb := tb) (n := n) (k := k) (q := q) (t := t) (deep := deep)
      unfold pN
      split
      · split
        · exact ih _ _ _ _ _ g
        · exact ih _ _ _ _ _ (c.V g (by decide))
      · exact g
theorem Clo.bge (c : Clo P) (h : P M) {g : Nat} {f r l : Int32} : P (rm_bge M g f r l) := by
  unfold rm_bge
  exact c.V (c.V (c.V (c.V (c.V h (by decide)) (by decide)) (by decide)) (by decide)) (by decide)
theorem Clo.Bd3 (c : Clo P) (h : P M) {r l : Int32} (hl : l = 0 ∨ l = 1) : P (pBd3 tb n k q r l M t).2.1 := by
  have g1 : P (if rm_has M q k = true then rm_faulty M 3 (M.1 27) else M) := by
    split
    · exact c.flt h
    · exact h
  have g2 := c.B (tb := tb) (n := n) (t := t + 1) (deep := 1) (c.L (tb := tb) (n := n) (k := k) (q := q) n) (c.S (j := 47) (x := 0) (c.pww (tb := tb) (n := n) (t := t) (show P (rm_bgh (rm_bnew (if rm_has M q k = true then rm_faulty M 3 (M.1 27) else M) (M.1 37).toNatClampNeg k q) (M.1 111).toNatClampNeg k q (qs tb n t) (M.1 13).toNatClampNeg (rm_has M q k)) from by
    unfold rm_bgh rm_bnew
    exact c.S (c.V (c.V (c.V (c.V (c.V (c.S (c.V (c.V (c.V g1 (by decide)) (by decide)) (by decide)) (by decide) (by decide)) (by decide)) (by decide)) (by decide)) (by decide)) (by decide)) (by decide) (by decide))) (by decide) (by decide))
  unfold pBd3
  generalize pB tb n (pL tb n k q n) _ (t + 1) 1 = z at g2 ⊢
  unfold pBd4
  split
  · exact g2
  · show P (if rm_has M q k = true then rm_bge z.2.1 (M.1 111).toNatClampNeg z.1 r l else mw_setV (rm_bge (rm_body z.2.1 (6 * k + q) r l z.1 (z.2.1.1 47)) (M.1 111).toNatClampNeg z.1 r l) 97 (6 * k + q) (nI (M.1 111).toNatClampNeg))
    split
    · exact c.bge g2
    · refine c.V (c.bge ?_) (by decide)
      unfold rm_body
      exact c.V (c.V (c.2.2.2.1 _ _ _ (c.V (c.V g2 (by decide)) (by decide)) hl) (by decide)) (by decide)
theorem Clo.Bd2 (c : Clo P) (h : P M) {r l : Int32} (hl : l = 0 ∨ l = 1) : P (pBd2 tb n k r l M t).2.1 := by
  unfold pBd2
  split
  · exact c.pff h
  · exact c.Bd3 h hl
theorem Clo.Bd1 (c : Clo P) (h : P M) {r : Int32} : P (pBd1 tb n k r M t).2.1 := by
  unfold pBd1
  split
  · exact c.Bd2 (c.pww h) (Or.inr rfl)
  · exact c.Bd2 h (Or.inl rfl)
theorem Clo.Body (c : Clo P) (h : P M) : P (pBody tb n k M t).2.1 := by
  unfold pBody
  split
  · exact c.Bd1 (c.pww h)
  · split
    · exact c.Bd1 (c.pww h)
    · exact c.Bd1 h
theorem Clo.Bs (c : Clo P) : ∀ f M t, P M → P (pBs tb n k f M t).2.1 := by
  intro f
  induction f with
  | zero => intro M t h; exact h
  | succ f ih =>
    intro M t h
    show P (if cd tb n t = 5 then (1, mw_setV (pw tb n M t) 106 k (M.1 111), t + 1) else if (pBody tb n k M t).1 = 0 then pBody tb n k M t else pBs tb n k f (pBody tb n k M t).2.1 (pBody tb n k M t).2.2).2.1
    split
    · exact c.V (c.pww h) (by decide)
    · split
      · exact c.Body h
      · exact ih _ _ (c.Body h)
theorem Clo.kin (c : Clo P) (h : P M) {ab : Option Nat} {w : Int64} {p : Nat} : P (rm_kin M k ab w p) := by
  have g : P (if ab = none then rm_faulty (mw_setV M 6 k (oI ab)) 2 (M.1 27) else mw_setV M 6 k (oI ab)) := by
    split
    · exact c.flt (c.V h (by decide))
    · exact c.V h (by decide)
  unfold rm_kin
  exact c.S (c.2.2.2.2.2 _ _ _ (c.V (c.V (c.V (c.V (c.V (c.W g (by decide)) (by decide)) (by decide)) (by decide)) (by decide)) (by decide))) (by decide) (by decide)
theorem Clo.K4 (c : Clo P) (h : P M) : P (pK4 tb n k M t).2.1 := by
  unfold pK4
  split
  · unfold pK5
    split
    · exact c.T (c.pww (c.kin h))
    · exact c.Bs _ _ _ (c.T (c.pww (c.kin h)))
  · exact c.pff h
theorem Clo.knm (c : Clo P) (h : P M) {w : Int64} {p : Nat} : P (rm_knm M k w p) := by
  unfold rm_knm
  split
  · exact c.V (c.W h (by decide)) (by decide)
  · exact c.flt (c.V (c.W h (by decide)) (by decide))
theorem Clo.K2 (c : Clo P) (h : P M) : P (pK2 tb n k M t).2.1 := by
  unfold pK2
  split
  · unfold pK3
    split
    · exact c.T (c.pww (c.knm h))
    · exact c.K4 (c.T (c.pww (c.knm h)))
  · exact c.pff h
theorem Clo.Kind (c : Clo P) (h : P M) : P (pKind tb n M t).2.1 := by
  unfold pKind
  split
  · split
    · exact c.pff h
    · exact c.K2 (c.pww h)
  · exact c.pff h
theorem Clo.Ks (c : Clo P) : ∀ f M t, P M → P (pKs tb n f M t).2.1 := by
  intro f
  induction f with
  | zero => intro M t h; exact h
  | succ f ih =>
    intro M t h
    have g := c.Kind (tb := tb) (n := n) (t := t) h
    show P (if (pKind tb n M t).1 = 0 then pKind tb n M t else if cd tb n (pKind tb n M t).2.2 = 5 then pEnd tb n (pw tb n (pKind tb n M t).2.1 (pKind tb n M t).2.2) ((pKind tb n M t).2.2 + 1) else pKs tb n f (pKind tb n M t).2.1 (pKind tb n M t).2.2).2.1
    split
    · exact g
    · split
      · unfold pEnd
        split
        · exact c.pww g
        · exact c.pff (c.pww g)
      · exact ih _ _ g
theorem Clo.P4 (c : Clo P) (h : P z.2.1) : P (pP4 tb n z).2.1 := by
  unfold pP4
  split
  · exact h
  · exact c.Ks _ _ _ h
theorem Clo.with_ (c : Clo P) (h : P M) {p : Nat} {w : Int64} : P (rm_with M p w) := by
  unfold rm_with
  split
  · exact c.S h (by decide) (by decide)
  · split
    · exact c.S h (by decide) (by decide)
    · exact c.flt h
theorem Clo.pack (c : Clo P) (hw : ∀ M x, P M → P (mw_setW M 102 0 x)) (h : P M) : P (pPack tb n M).2.1 := by
  have g0 := c.T (tb := tb) (n := n) (t := 0) (x := 23) (c.w (tb := tb) (n := n) (m := qs tb n 0) h)
  unfold pPack pP0
  split
  · exact g0
  · unfold pP1
    split
    · have g1 := c.S (j := 101) (x := 0) (c.S (j := 34) (x := (pT tb n (rm_word M tb n (qs tb n 0)) 0 23).2.1.1 23) (c.pww (tb := tb) (n := n) (t := (pT tb n (rm_word M tb n (qs tb n 0)) 0 23).2.2) (hw _ (spL (wo tb n (pT tb n (rm_word M tb n (qs tb n 0)) 0 23).2.2)) g0)) (by decide) (by decide)) (by decide) (by decide)
      unfold pP2
      split
      · unfold pP3
        split
        · refine c.P4 (c.T (c.pww ?_))
          unfold rm_wgh
          exact c.S (c.S (c.W (c.with_ (c.pww g1)) (by decide)) (by decide) (by decide)) (by decide) (by decide)
        · exact c.pff (c.pww g1)
      · exact c.P4 (c.T g1)
    · exact c.pff g0
/-- from the pack's name on -/
theorem Clo.pack2 (c : Clo P) (hw : ∀ M, P (mw_setW M 102 0 (spL (wo tb n 1)))) (hr : ¬ (pPack tb n M).1 = 0) : P (pPack tb n M).2.1 := by
  unfold pPack pP0 at hr ⊢
  by_cases c0 : cd tb n 0 = 23
  · have e : pT tb n (rm_word M tb n (qs tb n 0)) 0 23 = (1, pw tb n (rm_word M tb n (qs tb n 0)) 0, 0 + 1) := if_pos c0
    rw [e] at hr ⊢
    rw [if_neg (show ¬ ((1 : Int32), pw tb n (rm_word M tb n (qs tb n 0)) 0, 0 + 1).1 = 0 by show ¬ (1 : Int32) = 0; decide)] at hr ⊢
    unfold pP1 at hr ⊢
    by_cases c1 : cd tb n (0 + 1) = 2
    · rw [if_pos c1] at hr ⊢
      have g1 := c.S (j := 101) (x := 0) (c.S (j := 34) (x := (pw tb n (rm_word M tb n (qs tb n 0)) 0).1 23) (c.pww (tb := tb) (n := n) (t := 0 + 1) (hw (pw tb n (rm_word M tb n (qs tb n 0)) 0))) (by decide) (by decide)) (by decide) (by decide)
      unfold pP2
      split
      · unfold pP3
        split
        · refine c.P4 (c.T (c.pww ?_))
          unfold rm_wgh
          exact c.S (c.S (c.W (c.with_ (c.pww g1)) (by decide)) (by decide) (by decide)) (by decide) (by decide)
        · exact c.pff (c.pww g1)
      · exact c.P4 (c.T g1)
    · rw [if_neg c1] at hr; exact absurd rfl hr
  · have e : pT tb n (rm_word M tb n (qs tb n 0)) 0 23 = (0, pf tb n (rm_word M tb n (qs tb n 0)) 0, 0) := if_neg c0
    rw [e] at hr
    rw [if_pos (show ((0 : Int32), pf tb n (rm_word M tb n (qs tb n 0)) 0, 0).1 = 0 from rfl)] at hr
    exact absurd rfl hr
end CLO
theorem Clo_102 {x : Int64} : Clo (fun M => M.2.2.2.1 102 0 = x) := by
  refine ⟨fun M j y h _ _ => h, fun M y h => h, fun M j i y h _ => h, fun M i y h _ => h, fun M j i y h hj => ?_, fun M k i h => h⟩
  show mw_u2 M.2.2.2.1 j i y 102 0 = x
  rw [mw_u2_ne _ _ (fun z => hj z.1.symm)]
  exact h
theorem pPack_102 {tb : Nat → Nat} {n : Nat} {M : mw_S} (hr : ¬ (pPack tb n M).1 = 0) : (pPack tb n M).2.1.2.2.2.1 102 0 = spL (wo tb n 1) := Clo_102.pack2 (fun M => mw_setW_eq) hr
theorem Clo_10 : Clo (fun M => ∀ i, M.2.2.1 10 i = 0 ∨ M.2.2.1 10 i = 1) := by
  refine ⟨fun M j x h _ _ => h, fun M x h => h, fun M j i x h hj l => ?_, fun M i x h hx l => ?_, fun M j i x h _ => h, fun M k i h l => ?_⟩
  · rw [show (mw_setV M j i x).2.2.1 10 l = M.2.2.1 10 l from mw_u2_ne _ _ (fun z => hj z.1.symm)]; exact h l
  · by_cases e : l = i
    · rw [e, show (mw_setV M 10 i x).2.2.1 10 i = x from mw_u2_eq _ _ _ _]; exact hx
    · rw [show (mw_setV M 10 i x).2.2.1 10 l = M.2.2.1 10 l from mw_u2_ne _ _ (fun z => e z.2)]; exact h l
  · exact h l
theorem Clo_24 {x : Int32} : Clo (fun M => M.1 30 = 1 → M.1 24 = x) := by
  refine ⟨fun M j y h a b => ?_, fun M y h z => ?_, fun M j i y h _ => h, fun M i y h _ => h, fun M j i y h _ => h, fun M k i h => h⟩
  · show mw_u M.1 j y 30 = 1 → mw_u M.1 j y 24 = x
    rw [mw_u_ne _ _ (fun z => b z.symm), mw_u_ne _ _ (fun z => a z.symm)]
    exact h
  · exact absurd z (by show ¬ (0 : Int32) = 1; decide)
