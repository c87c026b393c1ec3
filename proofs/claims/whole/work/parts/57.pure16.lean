/-! uses and places of actions that were read -/
def useOf (M : mw_S) (j y : Nat) : Prop := M.2.2.1 42 j = M.2.2.1 81 y ∧ M.2.2.1 43 j = M.2.2.1 82 y ∧ M.2.2.1 44 j = M.2.2.1 14 y ∧ M.2.2.1 46 j = M.2.2.1 83 y ∧ M.2.2.1 45 j = (if M.2.2.1 14 y = 2 then M.2.2.1 15 y else M.2.2.1 82 y) ∧ (M.2.2.1 14 y = 1 ∨ M.2.2.1 14 y = 2 ∨ M.2.2.1 14 y = 8)
def UI (tb : Nat → Nat) (n aL lo a0 ex : Nat) (M : mw_S) (t : Nat) : Prop :=
  (lo ≤ qs tb n t ∧ ∀ y, aL ≤ y → y < ka M → lo ≤ (M.2.2.1 83 y).toNatClampNeg) ∧
  (∀ y, a0 ≤ y → y < ka M → ∃ p, M.2.2.1 83 y = nI p ∧ p < qs tb n t) ∧
  (∀ y z, a0 ≤ y → y < z → z < ka M → (M.2.2.1 83 y).toNatClampNeg < (M.2.2.1 83 z).toNatClampNeg) ∧
  (∀ j, j < ku M → ∃ y, a0 ≤ y ∧ y < ka M ∧ ¬ y = ex ∧ M.2.2.1 84 j = nI y ∧ useOf M j y) ∧
  ∀ y, a0 ≤ y → y < ka M → ¬ y = ex → (M.2.2.1 14 y = 1 ∨ M.2.2.1 14 y = 2 ∨ M.2.2.1 14 y = 8) → ∃ j, j < ku M ∧ M.2.2.1 84 j = nI y
section UIS
variable {tb : Nat → Nat} {n aL lo a0 ex t t' k q : Nat} {M M' : mw_S}
theorem useOf.same {j y : Nat} (h : useOf M j y) (e1 : ∀ l, 42 ≤ l ∧ l ≤ 46 → M'.2.2.1 l j = M.2.2.1 l j) (e2 : ∀ l, l = 14 ∨ 81 ≤ l ∧ l ≤ 83 → M'.2.2.1 l y = M.2.2.1 l y) (e3 : M.2.2.1 14 y = 2 → M'.2.2.1 15 y = M.2.2.1 15 y) : useOf M' j y := by
  obtain ⟨h1, h2, h3, h4, h5, h6⟩ := h
  unfold useOf
  rw [e1 42 (by omega), e1 43 (by omega), e1 44 (by omega), e1 45 (by omega), e1 46 (by omega), e2 81 (by omega), e2 82 (by omega), e2 83 (by omega), e2 14 (by omega)]
  refine ⟨h1, h2, h3, h4, ?_, h6⟩
  rw [h5]
  by_cases c : M.2.2.1 14 y = 2
  · rw [if_pos c, if_pos c, e3 c]
  · rw [if_neg c, if_neg c]
theorem UI.same (h : UI tb n aL lo a0 ex M t) (e1 : ka M' = ka M) (e2 : ku M' = ku M) (e3 : ∀ j i, (j = 14 ∨ 42 ≤ j ∧ j ≤ 46 ∨ 81 ≤ j ∧ j ≤ 84) → M'.2.2.1 j i = M.2.2.1 j i) (e4 : ∀ i, M.2.2.1 14 i = 2 → M'.2.2.1 15 i = M.2.2.1 15 i) (hq : qs tb n t ≤ qs tb n t') : UI tb n aL lo a0 ex M' t' := by
  obtain ⟨⟨h0, h00⟩, h1, h2, h3, h4⟩ := h
  unfold UI
  rw [e1, e2]
  refine ⟨⟨by omega, fun y a b => by rw [e3 83 y (by omega)]; exact h00 y a b⟩, fun y a b => ?_, fun y z a b c => ?_, fun j hj => ?_, fun y a b c d => ?_⟩
  · obtain ⟨p, p1, p2⟩ := h1 y a b
    exact ⟨p, by rw [e3 83 y (by omega)]; exact p1, by omega⟩
  · rw [e3 83 y (by omega), e3 83 z (by omega)]; exact h2 y z a b c
  · obtain ⟨y, y1, y2, y3, y4, y5⟩ := h3 j hj
    exact ⟨y, y1, y2, y3, by rw [e3 84 j (by omega)]; exact y4, y5.same (fun l hl => e3 l j (by omega)) (fun l hl => e3 l y (by omega)) (e4 y)⟩
  · rw [e3 14 y (by omega)] at d
    obtain ⟨j, j1, j2⟩ := h4 y a b c d
    exact ⟨j, j1, by rw [e3 84 j (by omega)]; exact j2⟩
theorem UI.w (h : UI tb n aL lo a0 ex M t) : UI tb n aL lo a0 ex (pw tb n M t) (t + 1) := h.same rfl rfl (fun _ _ _ => rfl) (fun _ _ => rfl) (qs_le_of (Nat.le_succ t))
theorem UI.sV {j i : Nat} {x : Int32} (h : UI tb n aL lo a0 ex M t) (hj : j = 16 ∨ j = 17 ∨ j = 18) : UI tb n aL lo a0 ex (mw_setV M j i x) t := h.same rfl rfl (fun l y hl => setV_ne (by omega)) (fun y _ => setV_ne (by omega)) (Nat.le_refl _)
theorem pI.uB (h : pI tb n a0 M t) : M.1 41 = nI (ku M) ∧ ku M ≤ qs tb n t ∧ ku M ≤ 700 := by
  obtain ⟨u, h1, h2, h3, h4⟩ := h.u
  have e : ku M = u := h2
  rw [e]
  exact ⟨h1, h3, h4⟩
/-- the uses' own cells behind a new one -/
theorem rm_useG_V {a : Nat} {kk qq o c : Int32} : (rm_useG M a kk qq o c).2.2.1 42 (ku M) = kk ∧ (rm_useG M a kk qq o c).2.2.1 43 (ku M) = qq ∧ (rm_useG M a kk qq o c).2.2.1 44 (ku M) = o ∧ (rm_useG M a kk qq o c).2.2.1 45 (ku M) = c ∧ (rm_useG M a kk qq o c).2.2.1 46 (ku M) = M.1 27 ∧ (rm_useG M a kk qq o c).2.2.1 84 (ku M) = nI a ∧ (∀ j i, ¬ (42 ≤ j ∧ j ≤ 46 ∧ i = ku M) → ¬ (j = 84 ∧ i = ku M) → (rm_useG M a kk qq o c).2.2.1 j i = M.2.2.1 j i) := by
  have s : ∀ j i, ¬ j = 84 → (rm_useG M a kk qq o c).2.2.1 j i = (mw_setV (mw_setV (mw_setV (mw_setV (mw_setV M 42 (ku M) kk) 43 (ku M) qq) 44 (ku M) o) 45 (ku M) c) 46 (ku M) (M.1 27)).2.2.1 j i := fun j i hj => setV_ne (by omega)
  refine ⟨?_, ?_, ?_, ?_, ?_, setV_eq, fun j i h1 h2 => ?_⟩
  · rw [s _ _ (by omega), setV_ne (by omega), setV_ne (by omega), setV_ne (by omega), setV_ne (by omega), setV_eq]
  · rw [s _ _ (by omega), setV_ne (by omega), setV_ne (by omega), setV_ne (by omega), setV_eq]
  · rw [s _ _ (by omega), setV_ne (by omega), setV_ne (by omega), setV_eq]
  · rw [s _ _ (by omega), setV_ne (by omega), setV_eq]
  · rw [s _ _ (by omega), setV_eq]
  · by_cases h3 : j = 84
    · subst h3
      show (mw_setV (mw_setS (mw_setV (mw_setV (mw_setV (mw_setV (mw_setV M 42 (ku M) kk) 43 (ku M) qq) 44 (ku M) o) 45 (ku M) c) 46 (ku M) (M.1 27)) 41 _) 84 (ku M) (nI a)).2.2.1 84 i = _
      rw [setV_ne (by omega)]
      show (mw_setV (mw_setV (mw_setV (mw_setV (mw_setV M 42 (ku M) kk) 43 (ku M) qq) 44 (ku M) o) 45 (ku M) c) 46 (ku M) (M.1 27)).2.2.1 84 i = _
      rw [setV_ne (by omega), setV_ne (by omega), setV_ne (by omega), setV_ne (by omega), setV_ne (by omega)]
    · rw [s _ _ h3, setV_ne (by omega), setV_ne (by omega), setV_ne (by omega), setV_ne (by omega), setV_ne (by omega)]
theorem rm_useG_u {a : Nat} {kk qq o c : Int32} (h : ku M ≤ 700) : ku (rm_useG M a kk qq o c) = ku M + 1 := by
  show (nI (ku M + 1)).toNatClampNeg = _
  rw [nI_clamp (by omega)]
/-- a use for the action ex -/
theorem UI.use {kk qq o c : Int32} (h : UI tb n aL lo a0 ex M t) (hu : ku M ≤ 700) (hea : a0 ≤ ex) (hek : ex < ka M) (he4 : ka M ≤ 4000) (h27 : M.1 27 = M.2.2.1 83 ex) (h81 : kk = M.2.2.1 81 ex) (h82 : qq = M.2.2.1 82 ex) (h14 : o = M.2.2.1 14 ex) (h45 : c = if M.2.2.1 14 ex = 2 then M.2.2.1 15 ex else M.2.2.1 82 ex) (hw : M.2.2.1 14 ex = 1 ∨ M.2.2.1 14 ex = 2 ∨ M.2.2.1 14 ex = 8) : UI tb n aL lo a0 5000 (rm_useG M ex kk qq o c) t := by
  obtain ⟨v42, v43, v44, v45, v46, v84, vo⟩ := rm_useG_V (M := M) (a := ex) (kk := kk) (qq := qq) (o := o) (c := c)
  have ku' := rm_useG_u (a := ex) (kk := kk) (qq := qq) (o := o) (c := c) hu
  have ka' : ka (rm_useG M ex kk qq o c) = ka M := rfl
  generalize rm_useG M ex kk qq o c = M1 at v42 v43 v44 v45 v46 v84 vo ku' ka' ⊢
  obtain ⟨⟨h0, h00⟩, h1, h2, h3, h4⟩ := h
  unfold UI
  rw [ka', ku']
  refine ⟨⟨h0, fun y a b => by rw [vo 83 y (by omega) (by omega)]; exact h00 y a b⟩, fun y a b => ?_, fun y z a b d => ?_, fun j hj => ?_, fun y a b _ d => ?_⟩
  · rw [vo 83 y (by omega) (by omega)]; exact h1 y a b
  · rw [vo 83 y (by omega) (by omega), vo 83 z (by omega) (by omega)]; exact h2 y z a b d
  · by_cases e : j = ku M
    · subst e
      refine ⟨ex, hea, hek, by omega, v84, ?_⟩
      unfold useOf
      rw [v42, v43, v44, v45, v46, vo 81 ex (by omega) (by omega), vo 82 ex (by omega) (by omega), vo 83 ex (by omega) (by omega), vo 14 ex (by omega) (by omega), vo 15 ex (by omega) (by omega)]
      exact ⟨h81, h82, h14, h27, h45, hw⟩
    · obtain ⟨y, y1, y2, y3, y4, y5⟩ := h3 j (by omega)
      exact ⟨y, y1, y2, by omega, by rw [vo 84 j (by omega) (by omega)]; exact y4, y5.same (fun l hl => vo l j (by omega) (by omega)) (fun l hl => vo l y (by omega) (by omega)) (fun _ => vo 15 y (by omega) (by omega))⟩
  · rw [vo 14 y (by omega) (by omega)] at d
    by_cases e : y = ex
    · subst e
      exact ⟨ku M, by omega, v84⟩
    · obtain ⟨j, j1, j2⟩ := h4 y a b e d
      exact ⟨j, by omega, by rw [vo 84 j (by omega) (by omega)]; exact j2⟩
/-- a new action at the word t, told without its use -/
theorem UI.act {deep : Nat} {o : Int32} (h : UI tb n aL lo a0 5000 M t) (hI : pI tb n a0 M t) (hc : 2 ≤ cd tb n t) : UI tb n aL lo a0 (ka M) (pw tb n (rm_gh (rm_action (mw_setS M 47 (M.1 47 + 1)) (M.1 13).toNatClampNeg o 0) (M.1 13).toNatClampNeg deep k q (qs tb n t)) t) (t + 1) := by
  have hk := hI.kA_
  have hkp : kp (ka M) (ku M) (-1) M (rm_gh (rm_action (mw_setS M 47 (M.1 47 + 1)) (M.1 13).toNatClampNeg o 0) (M.1 13).toNatClampNeg deep k q (qs tb n t)) := (((kp.refl M).sS (fun z => z.2.2.2.2.2.2.2.2 rfl)).act (Nat.le_refl _)).gh (Nat.le_refl _)
  have e83 : (rm_gh (rm_action (mw_setS M 47 (M.1 47 + 1)) (M.1 13).toNatClampNeg o 0) (M.1 13).toNatClampNeg deep k q (qs tb n t)).2.2.1 83 (ka M) = nI (qs tb n t) := setV_eq
  have ek : ka (pw tb n (rm_gh (rm_action (mw_setS M 47 (M.1 47 + 1)) (M.1 13).toNatClampNeg o 0) (M.1 13).toNatClampNeg deep k q (qs tb n t)) t) = ka M + 1 := by
    show (nI (ka M + 1)).toNatClampNeg = _
    rw [nI_clamp (by omega)]
  have eu : ku (pw tb n (rm_gh (rm_action (mw_setS M 47 (M.1 47 + 1)) (M.1 13).toNatClampNeg o 0) (M.1 13).toNatClampNeg deep k q (qs tb n t)) t) = ku M := rfl
  have eV : (pw tb n (rm_gh (rm_action (mw_setS M 47 (M.1 47 + 1)) (M.1 13).toNatClampNeg o 0) (M.1 13).toNatClampNeg deep k q (qs tb n t)) t).2.2.1 = (rm_gh (rm_action (mw_setS M 47 (M.1 47 + 1)) (M.1 13).toNatClampNeg o 0) (M.1 13).toNatClampNeg deep k q (qs tb n t)).2.2.1 := rfl
  have hlt := (qs_lt hc).2.1
  have hqn := qs_le (tb := tb) (n := n) t
  have hn7 := hI.n7
  rw [← eV] at e83
  have hv : ∀ j i, (14 ≤ j ∧ j ≤ 18 ∨ 80 ≤ j ∧ j ≤ 83) → i < ka M → (pw tb n (rm_gh (rm_action (mw_setS M 47 (M.1 47 + 1)) (M.1 13).toNatClampNeg o 0) (M.1 13).toNatClampNeg deep k q (qs tb n t)) t).2.2.1 j i = M.2.2.1 j i := fun j i a b => hkp.V1 a b (by omega)
  have hw : ∀ j i, (42 ≤ j ∧ j ≤ 46 ∨ j = 84) → i < ku M → (pw tb n (rm_gh (rm_action (mw_setS M 47 (M.1 47 + 1)) (M.1 13).toNatClampNeg o 0) (M.1 13).toNatClampNeg deep k q (qs tb n t)) t).2.2.1 j i = M.2.2.1 j i := fun j i a b => hkp.2.2.2 j i (Or.inr (Or.inr ⟨a, b⟩))
  generalize pw tb n (rm_gh (rm_action (mw_setS M 47 (M.1 47 + 1)) (M.1 13).toNatClampNeg o 0) (M.1 13).toNatClampNeg deep k q (qs tb n t)) t = M1 at e83 ek eu hv hw ⊢
  obtain ⟨⟨h0, h00⟩, h1, h2, h3, h4⟩ := h
  unfold UI
  rw [ek, eu]
  refine ⟨⟨by omega, fun y a b => ?_⟩, fun y a b => ?_, fun y z a b d => ?_, fun j hj => ?_, fun y a b e d => ?_⟩
  · by_cases e : y = ka M
    · subst e; rw [e83, nI_clamp (by omega)]; exact h0
    · rw [hv 83 y (by omega) (by omega)]; exact h00 y a (by omega)
  · by_cases e : y = ka M
    · subst e; exact ⟨_, e83, hlt⟩
    · obtain ⟨p, p1, p2⟩ := h1 y a (by omega)
      exact ⟨p, by rw [hv 83 y (by omega) (by omega)]; exact p1, by omega⟩
  · rw [hv 83 y (by omega) (by omega)]
    by_cases e : z = ka M
    · subst e
      obtain ⟨p, p1, p2⟩ := h1 y a (by omega)
      rw [e83, p1, nI_clamp (by omega), nI_clamp (by omega)]
      exact p2
    · rw [hv 83 z (by omega) (by omega)]; exact h2 y z a b (by omega)
  · obtain ⟨y, y1, y2, y3, y4, y5⟩ := h3 j hj
    exact ⟨y, y1, by omega, by omega, by rw [hw 84 j (by omega) hj]; exact y4, y5.same (fun l hl => hw l j (by omega) hj) (fun l hl => hv l y (by omega) y2) (fun _ => hv 15 y (by omega) y2)⟩
  · rw [hv 14 y (by omega) (by omega)] at d
    obtain ⟨j, j1, j2⟩ := h4 y a (by omega) (by omega) d
    exact ⟨j, j1, by rw [hw 84 j (by omega) j1]; exact j2⟩
/-- an exception that asks for no use is none -/
theorem UI.drop (h : UI tb n aL lo a0 ex M t) (he : ¬ (M.2.2.1 14 ex = 1 ∨ M.2.2.1 14 ex = 2 ∨ M.2.2.1 14 ex = 8)) (h4 : ka M ≤ 4000) : UI tb n aL lo a0 5000 M t := by
  obtain ⟨h0, h1, h2, h3, h5⟩ := h
  refine ⟨h0, h1, h2, fun j hj => ?_, fun y a b _ d => h5 y a b (fun e => he (e ▸ d)) d⟩
  obtain ⟨y, y1, y2, -, y4⟩ := h3 j hj
  exact ⟨y, y1, y2, by omega, y4⟩
def uiF (tb : Nat → Nat) (n aL lo a0 f : Nat) (F : pr_F) : Prop := ∀ (M : mw_S) (t deep : Nat) (hd tl : Int32), pI tb n a0 M t → n - qs tb n t < f → UI tb n aL lo a0 5000 M t → ¬ (F M t deep hd tl).1 = -2 → UI tb n aL lo a0 5000 (F M t deep hd tl).2.1 (F M t deep hd tl).2.2
theorem uiT {c : Nat} (h : UI tb n aL lo a0 ex M t) (hr : ¬ (pT tb n M t c).1 = 0) : UI tb n aL lo a0 ex (pT tb n M t c).2.1 (pT tb n M t c).2.2 := by
  unfold pT at hr ⊢
  by_cases hc : cd tb n t = c
  · rw [if_pos hc]; exact h.w
  · rw [if_neg hc] at hr; exact absurd rfl hr
theorem uiNum {x : Nat} (h : UI tb n aL lo a0 ex M t) (hx : ¬ M.2.2.1 14 x = 2) (hr : ¬ (pNum tb n M t x).1 = 0) : UI tb n aL lo a0 ex (pNum tb n M t x).2.1 (pNum tb n M t x).2.2 := by
  have e : ∀ v, UI tb n aL lo a0 ex (pw tb n (mw_setV M 15 x v) t) (t + 1) := fun v => UI.w (h.same rfl rfl (fun l y hl => setV_ne (by omega)) (fun y hy => setV_ne (by
    rintro ⟨-, e⟩
    exact hx (e ▸ hy))) (Nat.le_refl _))
  unfold pNum at hr ⊢
  by_cases hc : cd tb n t = 32
  · rw [if_pos hc]; exact e _
  · rw [if_neg hc] at hr ⊢
    by_cases h3 : cd tb n t = 3
    · rw [if_pos h3]; exact e _
    · rw [if_neg h3] at hr; exact absurd rfl hr
theorem uiB {F : pr_F} {f deep : Nat} (hF : uiF tb n aL lo a0 f F) (hI : pI tb n a0 M t) (hf : n - qs tb n t ≤ f) (h : UI tb n aL lo a0 5000 M t) (hr : ¬ (pB tb n F M t deep).1 = -2) : UI tb n aL lo a0 5000 (pB tb n F M t deep).2.1 (pB tb n F M t deep).2.2 := by
  unfold pB at hr ⊢
  by_cases hc : cd tb n t = 4 ∧ deep ≤ 6
  · rw [if_pos hc] at hr ⊢
    have := qs_lt (tb := tb) (n := n) (t := t) (by omega)
    exact hF _ _ _ _ _ hI.w (by omega) h.w hr
  · rw [if_neg hc] at hr; exact absurd rfl hr
theorem uiO1 {F : pr_F} {f x deep : Nat} {r : pr_T} (hF : uiF tb n aL lo a0 f F) (hp : r.1 = 0 ∨ (r.1 = 1 ∧ pG tb n a0 t r)) (hf : n - qs tb n t ≤ f) (h : ¬ r.1 = 0 → UI tb n aL lo a0 5000 r.2.1 r.2.2) (hr : ¬ (pO1 tb n F x deep r).1 = 0) : UI tb n aL lo a0 5000 (pO1 tb n F x deep r).2.1 (pO1 tb n F x deep r).2.2 := by
  unfold pO1 at hr ⊢
  by_cases hc : r.1 = 0
  · rw [if_pos hc] at hr; exact absurd hc hr
  · rw [if_neg hc] at hr ⊢
    obtain ⟨-, g1, g2⟩ := hp.resolve_left hc
    have := qs_le_of (tb := tb) (n := n) g2
    unfold pO2 at hr ⊢
    exact (uiB hF g1 (by omega) (h hc) (fun e => hr (if_pos e))).sV (by omega)
theorem uiPt {F : pr_F} {f x deep : Nat} (hR : pRF tb n a0 f F) (hF : uiF tb n aL lo a0 f F) (hI : pI tb n a0 M t) (hf : n - qs tb n t ≤ f) (h : UI tb n aL lo a0 5000 M t) (hr : ¬ (pPt tb n F M t x deep).1 = 0) : UI tb n aL lo a0 5000 (pPt tb n F M t x deep).2.1 (pPt tb n F M t x deep).2.2 := by
  unfold pPt pPt1 at hr ⊢
  by_cases h1 : (pB tb n F M t (deep + 1)).1 = -2
  · rw [if_pos h1] at hr; exact absurd rfl hr
  · rw [if_neg h1] at hr ⊢
    obtain ⟨g1, g2⟩ := (pB_post hR hI hf (deep + 1)).resolve_left h1
    have hu := (uiB (deep := deep + 1) hF hI hf h h1).sV (j := 16) (i := x) (x := (pB tb n F M t (deep + 1)).1) (by omega)
    have q1 := qs_le_of (tb := tb) (n := n) g2
    have q2 := qs_le_of (tb := tb) (n := n) (show t ≤ t + 1 by omega)
    have gV := g1.sV (j := 16) (k := x) (x := (pB tb n F M t (deep + 1)).1) rfl
    generalize mw_setV (pB tb n F M t (deep + 1)).2.1 16 x (pB tb n F M t (deep + 1)).1 = M1 at hr hu gV ⊢
    generalize (pB tb n F M t (deep + 1)).2.2 = t1 at hr hu gV q1 ⊢
    unfold pO at hr ⊢
    by_cases c1 : M1.2.2.1 14 x = 10
    · rw [if_pos c1] at hr ⊢
      exact uiO1 (t := t1) hF ((pT_post gV 31).imp (fun z => z.1) (fun z => ⟨z.1, z.2.2.mono (Nat.le_succ _)⟩)) (by omega) (fun z => uiT hu z) hr
    · rw [if_neg c1] at hr ⊢
      by_cases c2 : cd tb n t1 = 30
      · rw [if_pos c2] at hr ⊢
        exact uiO1 (t := t1) hF ((pT_post gV 30).imp (fun z => z.1) (fun z => ⟨z.1, z.2.2.mono (Nat.le_succ _)⟩)) (by omega) (fun z => uiT hu z) hr
      · rw [if_neg c2]
        exact hu.sV (by omega)
theorem uiA {F : pr_F} {f deep : Nat} (hR : pRF tb n a0 f F) (hF : uiF tb n aL lo a0 f F) (hI : pI tb n a0 M t) (hf : n - qs tb n t ≤ f) (h : UI tb n aL lo a0 5000 M t) (hr : ¬ (pA tb n F k q M t deep).1 = -1) : UI tb n aL lo a0 5000 (pA tb n F k q M t deep).2.1 (pA tb n F k q M t deep).2.2 := by
  unfold pA at hr ⊢
  by_cases c0 : opI (cd tb n t) = 0
  · rw [if_pos c0] at hr; exact absurd rfl hr
  · rw [if_neg c0] at hr ⊢
    by_cases c60 : M.1 47 = 60
    · rw [if_pos c60] at hr; exact absurd rfl hr
    · rw [if_neg c60] at hr ⊢
      obtain ⟨h13, h22⟩ := opI_n c0
      have hov := opI_v c0
      have g := pA0_S (k := k) (q := q) (deep := deep) (o := opI (cd tb n t)) hI h13 h22 c60
      have hq1 := (qs_lt (tb := tb) (n := n) (t := t) (by omega)).2.1
      obtain ⟨v14, v15, v16, v17, v18, v81, v82, v83⟩ := pA0_V (tb := tb) (n := n) (t := t) (k := k) (q := q) (M := M) (deep := deep) (o := opI (cd tb n t))
      have kk := pA0_k (k := k) (q := q) hI (deep := deep) (o := opI (cd tb n t))
      have hka := hI.kA_
      have hub := hI.uB
      have ua := h.act (k := k) (q := q) (deep := deep) (o := opI (cd tb n t)) hI (by omega)
      -- behind the action's own word
      have u1 : UI tb n aL lo a0 (if opI (cd tb n t) = 2 then ka M else 5000) (pw tb n (pA0 tb n k q deep t (opI (cd tb n t)) M) t) (t + 1) := by
        by_cases z : opI (cd tb n t) = 1 ∨ opI (cd tb n t) = 8
        · rw [if_neg (fun e => by rw [e] at z; exact absurd z (by decide))]
          have e : pw tb n (pA0 tb n k q deep t (opI (cd tb n t)) M) t = pw tb n (rm_useG (rm_gh (rm_action (mw_setS M 47 (M.1 47 + 1)) (M.1 13).toNatClampNeg (opI (cd tb n t)) 0) (M.1 13).toNatClampNeg deep k q (qs tb n t)) (M.1 13).toNatClampNeg (nI k) (nI q) (opI (cd tb n t)) (nI q)) t := by unfold pA0; rw [if_pos z]
          have e2 : ∀ j, 14 ≤ j ∧ j ≤ 18 ∨ 80 ≤ j ∧ j ≤ 83 → (pA0 tb n k q deep t (opI (cd tb n t)) M).2.2.1 j (ka M) = (rm_gh (rm_action (mw_setS M 47 (M.1 47 + 1)) (M.1 13).toNatClampNeg (opI (cd tb n t)) 0) (M.1 13).toNatClampNeg deep k q (qs tb n t)).2.2.1 j (ka M) := by
            intro j hj
            unfold pA0
            rw [if_pos z]
            exact (rm_useG_V).2.2.2.2.2.2 j (ka M) (by omega) (by omega)
          rw [e]
          have ua2 : UI tb n aL lo a0 (ka M) (rm_gh (rm_action (mw_setS M 47 (M.1 47 + 1)) (M.1 13).toNatClampNeg (opI (cd tb n t)) 0) (M.1 13).toNatClampNeg deep k q (qs tb n t)) (t + 1) := ua.same rfl rfl (fun _ _ _ => rfl) (fun _ _ => rfl) (Nat.le_refl _)
          have n2 : ¬ opI (cd tb n t) = 2 := fun e => by rw [e] at z; exact absurd z (by decide)
          rw [e2 14 (by omega)] at v14
          rw [e2 81 (by omega)] at v81
          rw [e2 82 (by omega)] at v82
          rw [e2 83 (by omega)] at v83
          refine (ua2.use hub.2.2 (by omega) ?_ ?_ ?_ v81.symm v82.symm v14.symm ?_ ?_).same rfl rfl (fun _ _ _ => rfl) (fun _ _ => rfl) (Nat.le_refl _)
          · show ka M < (nI (ka M + 1)).toNatClampNeg
            rw [nI_clamp (by omega)]; omega
          · show (nI (ka M + 1)).toNatClampNeg ≤ 4000
            rw [nI_clamp (by omega)]; omega
          · rw [v83]; exact hI.1.2.2.2.2.1
          · rw [v14, if_neg n2, v82]
          · rw [v14]
            rcases z with z | z
            · exact Or.inl z
            · exact Or.inr (Or.inr z)
        · have e : pA0 tb n k q deep t (opI (cd tb n t)) M = rm_gh (rm_action (mw_setS M 47 (M.1 47 + 1)) (M.1 13).toNatClampNeg (opI (cd tb n t)) 0) (M.1 13).toNatClampNeg deep k q (qs tb n t) := by unfold pA0; rw [if_neg z]
          by_cases c2 : opI (cd tb n t) = 2
          · rw [if_pos c2, e]; exact ua
          · rw [if_neg c2, e]
            refine ua.drop ?_ ?_
            · rw [e] at v14
              intro y
              rcases y with y | y | y
              · exact z (Or.inl (v14.symm.trans y))
              · exact c2 (v14.symm.trans y)
              · exact z (Or.inr (v14.symm.trans y))
            · show (nI (ka M + 1)).toNatClampNeg ≤ 4000
              rw [nI_clamp (by omega)]; omega
      change ¬ (pA1 tb n F k q (opI (cd tb n t)) (pw tb n (pA0 tb n k q deep t (opI (cd tb n t)) M) t) (t + 1) (ka M) deep).1 = -1 at hr
      show UI tb n aL lo a0 5000 (pA1 tb n F k q (opI (cd tb n t)) (pw tb n (pA0 tb n k q deep t (opI (cd tb n t)) M) t) (t + 1) (ka M) deep).2.1 (pA1 tb n F k q (opI (cd tb n t)) (pw tb n (pA0 tb n k q deep t (opI (cd tb n t)) M) t) (t + 1) (ka M) deep).2.2
      have e14 : (pw tb n (pA0 tb n k q deep t (opI (cd tb n t)) M) t).2.2.1 = (pA0 tb n k q deep t (opI (cd tb n t)) M).2.2.1 := rfl
      have ek : ka (pw tb n (pA0 tb n k q deep t (opI (cd tb n t)) M) t) = ka M + 1 := kk
      rw [← e14] at v14 v81 v82 v83
      generalize pw tb n (pA0 tb n k q deep t (opI (cd tb n t)) M) t = M1 at hr g u1 v14 v81 v82 v83 ek ⊢
      have fin : ∀ (z : pr_T), ¬ (pE (ka M) z).1 = -1 → ¬ z.1 = 0 := fun z h e => h (if_pos e)
      unfold pA1 at hr ⊢
      by_cases c2 : opI (cd tb n t) = 2
      · rw [if_pos c2] at hr u1 ⊢
        rw [c2] at v14
        unfold pC at hr ⊢
        by_cases hc : hkI (cd tb n (t + 1)) < 0
        · rw [if_pos hc] at hr; exact absurd rfl hr
        · rw [if_neg hc] at hr ⊢
          obtain ⟨h7, h12, hk7⟩ := hkI_n hc
          have hub1 := g.uB
          have hlt := (qs_lt (tb := tb) (n := n) (t := t + 1) (by omega)).2.1
          -- the place of a call is its hook's word
          have u2 : UI tb n aL lo a0 (ka M) (mw_setV (mw_setV M1 15 (ka M) (hkI (cd tb n (t + 1)))) 83 (ka M) (nI (qs tb n (t + 1)))) (t + 1 + 1) := by
            obtain ⟨⟨a0_, a00⟩, a1, a2, a3, a4⟩ := u1
            have w : ∀ j i, ¬ (j = 83 ∧ i = ka M) → ¬ (j = 15 ∧ i = ka M) → (mw_setV (mw_setV M1 15 (ka M) (hkI (cd tb n (t + 1)))) 83 (ka M) (nI (qs tb n (t + 1)))).2.2.1 j i = M1.2.2.1 j i := fun j i e1 e2 => by rw [setV_ne e1, setV_ne e2]
            have w83 : (mw_setV (mw_setV M1 15 (ka M) (hkI (cd tb n (t + 1)))) 83 (ka M) (nI (qs tb n (t + 1)))).2.2.1 83 (ka M) = nI (qs tb n (t + 1)) := setV_eq
            have wk : ka (mw_setV (mw_setV M1 15 (ka M) (hkI (cd tb n (t + 1)))) 83 (ka M) (nI (qs tb n (t + 1)))) = ka M1 := rfl
            have wu : ku (mw_setV (mw_setV M1 15 (ka M) (hkI (cd tb n (t + 1)))) 83 (ka M) (nI (qs tb n (t + 1)))) = ku M1 := rfl
            have hqn := qs_le (tb := tb) (n := n) (t + 1)
            have hn7 := hI.n7
            generalize mw_setV (mw_setV M1 15 (ka M) (hkI (cd tb n (t + 1)))) 83 (ka M) (nI (qs tb n (t + 1))) = M2 at w w83 wk wu ⊢
            unfold UI
            rw [wk, wu]
            refine ⟨⟨by omega, fun y b1 b2 => ?_⟩, fun y b1 b2 => ?_, fun y z b1 b2 b3 => ?_, fun j hj => ?_, fun y b1 b2 b3 b4 => ?_⟩
            · by_cases e : y = ka M
              · subst e; rw [w83, nI_clamp (by omega)]; omega
              · rw [w 83 y (by omega) (by omega)]; exact a00 y b1 b2
            · by_cases e : y = ka M
              · subst e; exact ⟨_, w83, hlt⟩
              · obtain ⟨p, p1, p2⟩ := a1 y b1 b2
                exact ⟨p, by rw [w 83 y (by omega) (by omega)]; exact p1, by omega⟩
            · rw [w 83 y (by omega) (by omega)]
              by_cases e : z = ka M
              · subst e
                obtain ⟨p, p1, p2⟩ := a1 y b1 (by omega)
                rw [w83, p1, nI_clamp (by omega), nI_clamp (by omega)]
                exact p2
              · rw [w 83 z (by omega) (by omega)]; exact a2 y z b1 b2 b3
            · obtain ⟨y, y1, y2, y3, y4, y5⟩ := a3 j hj
              exact ⟨y, y1, y2, y3, by rw [w 84 j (by omega) (by omega)]; exact y4, y5.same (fun l hl => w l j (by omega) (by omega)) (fun l hl => w l y (by omega) (by omega)) (fun _ => w 15 y (by omega) (by omega))⟩
            · rw [w 14 y (by omega) (by omega)] at b4
              obtain ⟨j, j1, j2⟩ := a4 y b1 b2 b3 b4
              exact ⟨j, j1, by rw [w 84 j (by omega) (by omega)]; exact j2⟩
          have u3 : UI tb n aL lo a0 5000 (rm_useG (mw_setV (mw_setV M1 15 (ka M) (hkI (cd tb n (t + 1)))) 83 (ka M) (nI (qs tb n (t + 1)))) (ka M) (nI k) (nI q) 2 (hkI (cd tb n (t + 1)))) (t + 1 + 1) := by
            refine u2.use hub1.2.2 (by omega) (by show ka M < ka M1; omega) (by show ka M1 ≤ 4000; have := g.kA_; omega) ?_ ?_ ?_ ?_ ?_ ?_
            · rw [setV_eq]; exact g.1.2.2.2.2.1
            · rw [setV_ne (by omega), setV_ne (by omega), v81]
            · rw [setV_ne (by omega), setV_ne (by omega), v82]
            · rw [setV_ne (by omega), setV_ne (by omega), v14]
            · rw [setV_ne (by omega), setV_ne (by omega), v14, if_pos rfl, setV_ne (by omega), setV_eq]
            · rw [setV_ne (by omega), setV_ne (by omega), v14]; exact Or.inr (Or.inl rfl)
          exact uiT (u3.same rfl rfl (fun _ _ _ => rfl) (fun _ _ => rfl) (Nat.le_refl _)) (fin _ hr)
      · rw [if_neg c2] at hr u1 ⊢
        by_cases c1 : opI (cd tb n t) = 1
        · rw [if_pos c1] at hr ⊢
          exact uiT u1 (fin _ hr)
        · rw [if_neg c1] at hr ⊢
          by_cases c10 : opI (cd tb n t) = 10
          · rw [if_pos c10] at hr ⊢
            exact uiPt hR hF g (by omega) u1 (fin _ hr)
          · rw [if_neg c10] at hr ⊢
            unfold pA2 at hr ⊢
            by_cases z : (pNum tb n M1 (t + 1) (ka M)).1 = 0
            · rw [if_pos z] at hr; exact absurd rfl hr
            · rw [if_neg z] at hr ⊢
              obtain ⟨-, g1, g2⟩ := (pNum_post g (ka M)).resolve_left z
              have un := uiNum u1 (by rw [v14]; exact c2) z
              have := qs_le_of (tb := tb) (n := n) g2
              have := qs_le_of (tb := tb) (n := n) (show t + 1 ≤ t + 1 + 1 by omega)
              by_cases c9 : opI (cd tb n t) = 9
              · rw [if_pos c9] at hr ⊢
                exact uiPt hR hF g1 (by omega) un (fin _ hr)
              · rw [if_neg c9] at hr ⊢
                exact uiT un (fin _ hr)
theorem uiL : ∀ f, uiF tb n aL lo a0 f (pL tb n k q f) := by
  intro f
  induction f with
  | zero => intro M t deep hd tl _ hf; omega
  | succ f ih =>
    intro M t deep hd tl hI hf h hr
    have ee : pL tb n k q (f + 1) M t deep hd tl = (if cd tb n t = 5 then (hd, pw tb n M t, t + 1) else pN (pL tb n k q f) deep hd tl (pA tb n (pL tb n k q f) k q M t deep)) := rfl
    rw [ee] at hr ⊢
    by_cases c5 : cd tb n t = 5
    · rw [if_pos c5]; exact h.w
    · rw [if_neg c5] at hr ⊢
      have hA := uiA (k := k) (q := q) (deep := deep) (pL_post k q f) ih hI (by omega) h
      have hAp := pA_post (k := k) (q := q) (deep := deep) (pL_post k q f) hI (by omega)
      unfold pN at hr ⊢
      generalize pA tb n (pL tb n k q f) k q M t deep = r at hr hA hAp ⊢
      by_cases c0 : 0 ≤ r.1
      · rw [if_pos c0] at hr ⊢
        have hne : ¬ r.1 = -1 := fun e => by rw [e] at c0; exact absurd c0 (by decide)
        obtain ⟨a, a1, a2, a3, ⟨g1, g2⟩, hlt⟩ := hAp.resolve_left hne
        have hq1 := qs_le_of (tb := tb) (n := n) g2
        have hq2 := qs_le (tb := tb) (n := n) r.2.2
        by_cases ct : tl < 0
        · rw [if_pos ct] at hr ⊢
          exact ih _ _ _ _ _ g1 (by omega) (hA hne) hr
        · rw [if_neg ct] at hr ⊢
          exact ih _ _ _ _ _ (g1.sV rfl) (by omega) ((hA hne).sV (by omega)) hr
      · rw [if_neg c0] at hr; exact absurd rfl hr
end UIS
