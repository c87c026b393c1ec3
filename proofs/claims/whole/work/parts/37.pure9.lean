/-! words in a row: where the t-th word begins, what it is -/
theorem tkF_b {tb : Nat → Nat} {n p : Nat} (h : p ≤ n) : p ≤ tkF tb n p ∧ tkF tb n p ≤ n := ⟨(lx_spec (n - p) p rfl h).1, (lx_spec (n - p) p rfl h).2.1⟩
theorem tkT_b {tb : Nat → Nat} {n q : Nat} (h : q ≤ n) : q ≤ tkT tb n q ∧ tkT tb n q ≤ n := by
  unfold tkT
  by_cases h2 : tkK tb n q = 2
  · rw [if_pos h2]
    exact ⟨(lx_spec (n - q) q rfl h).1, (lx_spec (n - q) q rfl h).2.1⟩
  · rw [if_neg h2]
    by_cases h3 : tkK tb n q = 3
    · rw [if_pos h3]
      exact ⟨(lx_spec (n - q) q rfl h).1, (lx_spec (n - q) q rfl h).2.1⟩
    · rw [if_neg h3]
      by_cases h4 : tkK tb n q = 4
      · rw [if_pos h4]
        refine ⟨by omega, ?_⟩
        rcases Nat.lt_or_ge q n with z | z
        · omega
        · unfold tkK at h4
          rw [if_pos z] at h4
          cases h4
      · rw [if_neg h4]
        exact ⟨Nat.le_refl _, h⟩
theorem tkK_in {tb : Nat → Nat} {n q : Nat} (h : ¬ tkK tb n q = 0) : q < n := by
  rcases Nat.lt_or_ge q n with z | z
  · exact z
  · unfold tkK at h
    rw [if_pos z] at h
    exact absurd rfl h
theorem tkK_2 {tb : Nat → Nat} {n q : Nat} (h : tkK tb n q = 2) : isL (tb q) = true ∧ lx isL tb n q - q ≤ 8 := by
  have hq := tkK_in (tb := tb) (n := n) (q := q) (by omega)
  unfold tkK at h
  rw [if_neg (by omega)] at h
  by_cases c1 : isL (tb q) = true
  · rw [if_pos c1] at h
    by_cases c2 : lx isL tb n q - q ≤ 8
    · exact ⟨c1, c2⟩
    · rw [if_neg c2] at h; cases h
  · rw [if_neg c1] at h
    by_cases c3 : isF (tb q) = true
    · rw [if_pos c3] at h
      by_cases c2 : lx isF tb n q - q ≤ 3
      · rw [if_pos c2] at h; cases h
      · rw [if_neg c2] at h; cases h
    · rw [if_neg c3] at h
      by_cases c4 : isSg (tb q) = true
      · rw [if_pos c4] at h; cases h
      · rw [if_neg c4] at h; cases h
theorem tkK_3 {tb : Nat → Nat} {n q : Nat} (h : tkK tb n q = 3) : isF (tb q) = true ∧ lx isF tb n q - q ≤ 3 := by
  have hq := tkK_in (tb := tb) (n := n) (q := q) (by omega)
  unfold tkK at h
  rw [if_neg (by omega)] at h
  by_cases c1 : isL (tb q) = true
  · rw [if_pos c1] at h
    by_cases c2 : lx isL tb n q - q ≤ 8
    · rw [if_pos c2] at h; cases h
    · rw [if_neg c2] at h; cases h
  · rw [if_neg c1] at h
    by_cases c3 : isF (tb q) = true
    · rw [if_pos c3] at h
      by_cases c2 : lx isF tb n q - q ≤ 3
      · exact ⟨c3, c2⟩
      · rw [if_neg c2] at h; cases h
    · rw [if_neg c3] at h
      by_cases c4 : isSg (tb q) = true
      · rw [if_pos c4] at h; cases h
      · rw [if_neg c4] at h; cases h
theorem tkK_4 {tb : Nat → Nat} {n q : Nat} (h : tkK tb n q = 4) : isSg (tb q) = true := by
  have hq := tkK_in (tb := tb) (n := n) (q := q) (by omega)
  unfold tkK at h
  rw [if_neg (by omega)] at h
  by_cases c1 : isL (tb q) = true
  · rw [if_pos c1] at h
    by_cases c2 : lx isL tb n q - q ≤ 8
    · rw [if_pos c2] at h; cases h
    · rw [if_neg c2] at h; cases h
  · rw [if_neg c1] at h
    by_cases c3 : isF (tb q) = true
    · rw [if_pos c3] at h
      by_cases c2 : lx isF tb n q - q ≤ 3
      · rw [if_pos c2] at h; cases h
      · rw [if_neg c2] at h; cases h
    · rw [if_neg c3] at h
      by_cases c4 : isSg (tb q) = true
      · exact c4
      · rw [if_neg c4] at h; cases h
/-- a word takes bytes -/
theorem tkT_lt {tb : Nat → Nat} {n q : Nat} (h : 2 ≤ tkK tb n q) : q < tkT tb n q := by
  have hq := tkK_in (tb := tb) (n := n) (q := q) (by omega)
  have hl := tkK_lt tb n q
  unfold tkT
  by_cases h2 : tkK tb n q = 2
  · rw [if_pos h2, lx_go hq (tkK_2 h2).1]
    have := (lx_spec (P := isL) (tb := tb) (n := n) (n - (q + 1)) (q + 1) rfl (by omega)).1
    omega
  · rw [if_neg h2]
    by_cases h3 : tkK tb n q = 3
    · rw [if_pos h3, lx_go hq (tkK_3 h3).1]
      have := (lx_spec (P := isF) (tb := tb) (n := n) (n - (q + 1)) (q + 1) rfl (by omega)).1
      omega
    · rw [if_neg h3, if_pos (by omega)]
      omega
theorem wlook_ge (ws : List Nat) : wlook tkA ws = 2 ∨ 4 ≤ wlook tkA ws := by
  rcases wlook_mem (l := tkA) (ws := ws) with h | h
  · exact Or.inl h
  · exact Or.inr (tkA_1 _ h).2
theorem tkC_ge {tb : Nat → Nat} {n q : Nat} (h : 2 ≤ tkC tb n q) : 2 ≤ tkK tb n q := by
  unfold tkC at h
  by_cases c : tkK tb n q = 2 ∨ tkK tb n q = 4
  · omega
  · rw [if_neg c] at h; exact h
theorem tkC_3 {tb : Nat → Nat} {n q : Nat} : tkC tb n q = 3 ↔ tkK tb n q = 3 := by
  unfold tkC
  by_cases c : tkK tb n q = 2 ∨ tkK tb n q = 4
  · rw [if_pos c]
    have := wlook_ge (wn tb q (tkT tb n q))
    omega
  · rw [if_neg c]
theorem tkC_0 {tb : Nat → Nat} {n q : Nat} : tkC tb n q = 0 ↔ tkK tb n q = 0 := by
  unfold tkC
  by_cases c : tkK tb n q = 2 ∨ tkK tb n q = 4
  · rw [if_pos c]
    have := wlook_ge (wn tb q (tkT tb n q))
    omega
  · rw [if_neg c]
theorem tkC_1 {tb : Nat → Nat} {n q : Nat} : tkC tb n q = 1 ↔ tkK tb n q = 1 := by
  unfold tkC
  by_cases c : tkK tb n q = 2 ∨ tkK tb n q = 4
  · rw [if_pos c]
    have := wlook_ge (wn tb q (tkT tb n q))
    omega
  · rw [if_neg c]
theorem isSg_look : ∀ c, c < 256 → isSg c = true → 4 ≤ wlook tkA [c] := by decide +kernel
theorem tkT_4 {tb : Nat → Nat} {n q : Nat} (h : tkK tb n q = 4) : tkT tb n q = q + 1 := by
  unfold tkT
  rw [if_neg (by omega), if_neg (by omega), if_pos h]
theorem wn_1 (tb : Nat → Nat) (q : Nat) : wn tb q (q + 1) = [tb q] := by
  unfold wn
  rw [show q + 1 - q = 1 by omega]
  rfl
/-- a name -/
theorem tkC_2 {tb : Nat → Nat} {n q : Nat} (htb : ∀ i, tb i < 256) : tkC tb n q = 2 ↔ (tkK tb n q = 2 ∧ wlook tkA (wn tb q (tkT tb n q)) = 2) := by
  unfold tkC
  by_cases c : tkK tb n q = 2 ∨ tkK tb n q = 4
  · rw [if_pos c]
    rcases c with c | c
    · exact ⟨fun h => ⟨c, h⟩, fun h => h.2⟩
    · refine ⟨fun h => ?_, fun h => h.2⟩
      exfalso
      rw [tkT_4 c, wn_1] at h
      have := isSg_look _ (htb q) (tkK_4 c)
      omega
  · rw [if_neg c]
    exact ⟨fun h => absurd (Or.inl h) c, fun h => absurd (Or.inl h.1) c⟩
theorem tkA_len : ∀ e ∈ tkA, 13 ≤ e.2 → e.2 ≤ 22 → 2 ≤ e.1.length := by decide +kernel
section TKS
variable (tb : Nat → Nat) (n : Nat)
def qs : Nat → Nat
  | 0 => tkF tb n 0
  | t + 1 => tkF tb n (tkT tb n (qs t))
def cd (t : Nat) : Nat := tkC tb n (qs tb n t)
/-- where the t-th word ends -/
def qe (t : Nat) : Nat := tkT tb n (qs tb n t)
def wo (t : Nat) : List Nat := wn tb (qs tb n t) (qe tb n t)
end TKS
section TKQ
variable {tb : Nat → Nat} {n : Nat}
theorem qs_le (t : Nat) : qs tb n t ≤ n := by
  induction t with
  | zero => exact (tkF_b (Nat.zero_le n)).2
  | succ t ih => exact (tkF_b (tkT_b ih).2).2
theorem qe_b (t : Nat) : qs tb n t ≤ qe tb n t ∧ qe tb n t ≤ n := tkT_b (qs_le t)
theorem qs_s (t : Nat) : qe tb n t ≤ qs tb n (t + 1) := (tkF_b (qe_b t).2).1
theorem qs_lt {t : Nat} (h : 2 ≤ cd tb n t) : qs tb n t < qe tb n t ∧ qs tb n t < qs tb n (t + 1) ∧ qs tb n t < n := by
  have h1 := tkT_lt (tkC_ge h)
  have h2 := qs_s (tb := tb) (n := n) t
  have h3 := qe_b (tb := tb) (n := n) t
  unfold qe at *
  exact ⟨h1, by omega, by omega⟩
theorem qs_op {t : Nat} (h1 : 13 ≤ cd tb n t) (h2 : cd tb n t ≤ 22) : qs tb n t + 2 ≤ qs tb n (t + 1) := by
  have hk : tkK tb n (qs tb n t) = 2 ∨ tkK tb n (qs tb n t) = 4 := by
    have := tkK_lt tb n (qs tb n t)
    unfold cd tkC at h1
    by_cases c : tkK tb n (qs tb n t) = 2 ∨ tkK tb n (qs tb n t) = 4
    · exact c
    · rw [if_neg c] at h1; omega
  have hc : cd tb n t = wlook tkA (wo tb n t) := by
    unfold cd tkC
    rw [if_pos hk]
    rfl
  rcases wlook_mem (l := tkA) (ws := wo tb n t) with z | z
  · omega
  · rw [← hc] at z
    have := tkA_len _ z h1 h2
    have hl : (wo tb n t).length = qe tb n t - qs tb n t := wn_len _ _ _
    have h3 : 2 ≤ (wo tb n t).length := this
    have := qs_s (tb := tb) (n := n) t
    omega
end TKQ
/-- the number that figures spell -/
def numN : List Nat → Nat → Nat
  | [], v => v
  | c :: l, v => numN l (10 * v + (c - 48))
section PRS
variable (tb : Nat → Nat) (n : Nat)
def pw (M : mw_S) (t : Nat) : mw_S := rm_word M tb n (qs tb n (t + 1))
def pf (M : mw_S) (t : Nat) : mw_S := mw_setS (mw_setS M 30 0) 24 (nI (qs tb n t))
def nu (t : Nat) : Nat := numN (wo tb n t) 0
abbrev pr_T : Type := Int32 × mw_S × Nat
abbrev pr_F : Type := mw_S → Nat → Nat → Int32 → Int32 → pr_T
def hkI (c : Nat) : Int32 := if 7 ≤ c ∧ c ≤ 12 then nI (c - 7) else -1
def opI (c : Nat) : Int32 := if 13 ≤ c ∧ c ≤ 22 then nI (c - 12) else 0
def pT (M : mw_S) (t c : Nat) : pr_T := if cd tb n t = c then (1, pw tb n M t, t + 1) else (0, pf tb n M t, t)
def pNum (M : mw_S) (t x : Nat) : pr_T := if cd tb n t = 32 then (1, pw tb n (mw_setV M 15 x (-1)) t, t + 1) else if cd tb n t = 3 then (1, pw tb n (mw_setV M 15 x (nI (nu tb n t))) t, t + 1) else (0, pf tb n M t, t)
def pB (F : pr_F) (M : mw_S) (t deep : Nat) : pr_T := if cd tb n t = 4 ∧ deep ≤ 6 then F (pw tb n M t) (t + 1) deep (-1) (-1) else (-2, pf tb n M t, t)
def pO2 (x : Nat) (r : pr_T) : pr_T := (if r.1 = -2 then 0 else 1, mw_setV r.2.1 17 x r.1, r.2.2)
def pO1 (F : pr_F) (x deep : Nat) (r : pr_T) : pr_T := if r.1 = 0 then r else pO2 x (pB tb n F r.2.1 r.2.2 (deep + 1))
def pO (F : pr_F) (M : mw_S) (t x deep : Nat) : pr_T :=
  if M.2.2.1 14 x = 10 then pO1 tb n F x deep (pT tb n M t 31)
  else if cd tb n t = 30 then pO1 tb n F x deep (pT tb n M t 30)
  else (1, mw_setV M 17 x (-1), t)
def pPt1 (F : pr_F) (x deep : Nat) (r : pr_T) : pr_T := if r.1 = -2 then (0, mw_setV r.2.1 16 x r.1, r.2.2) else pO tb n F (mw_setV r.2.1 16 x r.1) r.2.2 x deep
def pPt (F : pr_F) (M : mw_S) (t x deep : Nat) : pr_T := pPt1 tb n F x deep (pB tb n F M t (deep + 1))
/-- the answer of an action behind its parts -/
def pE (a : Nat) (r : pr_T) : pr_T := (if r.1 = 0 then -1 else nI a, r.2)
/-- what is only told, behind the memory's last field: how deep an action stands, its kind, its hook, its place; whose use it is -/
def rm_gh (M : mw_S) (a deep k q p : Nat) : mw_S := mw_setV (mw_setV (mw_setV (mw_setV M 80 a (nI deep)) 81 a (nI k)) 82 a (nI q)) 83 a (nI p)
def rm_useG (M : mw_S) (a : Nat) (k q op c : Int32) : mw_S := mw_setV (rm_use M (M.1 41).toNatClampNeg k q op c) 84 (M.1 41).toNatClampNeg (nI a)
def pC (k q : Nat) (M : mw_S) (t a : Nat) : pr_T :=
  if hkI (cd tb n t) < 0 then (-1, pf tb n (mw_setV M 15 a (hkI (cd tb n t))) t, t)
  else pE a (pT tb n (pw tb n (rm_useG (mw_setV (mw_setV M 15 a (hkI (cd tb n t))) 83 a (nI (qs tb n t))) a (nI k) (nI q) 2 (hkI (cd tb n t))) t) (t + 1) 6)
def pA2 (F : pr_F) (o : Int32) (a deep : Nat) (r : pr_T) : pr_T :=
  if r.1 = 0 then (-1, r.2) else if o = 9 then pE a (pPt tb n F r.2.1 r.2.2 a deep) else pE a (pT tb n r.2.1 r.2.2 6)
def pA1 (F : pr_F) (k q : Nat) (o : Int32) (M : mw_S) (t a deep : Nat) : pr_T :=
  if o = 2 then pC tb n k q M t a
  else if o = 1 then pE a (pT tb n M t 6)
  else if o = 10 then pE a (pPt tb n F M t a deep)
  else pA2 tb n F o a deep (pNum tb n M t a)
def pA0 (k q deep t : Nat) (o : Int32) (M : mw_S) : mw_S :=
  if o = 1 ∨ o = 8 then rm_useG (rm_gh (rm_action (mw_setS M 47 (M.1 47 + 1)) (M.1 13).toNatClampNeg o 0) (M.1 13).toNatClampNeg deep k q (qs tb n t)) (M.1 13).toNatClampNeg (nI k) (nI q) o (nI q)
  else rm_gh (rm_action (mw_setS M 47 (M.1 47 + 1)) (M.1 13).toNatClampNeg o 0) (M.1 13).toNatClampNeg deep k q (qs tb n t)
def pA (F : pr_F) (k q : Nat) (M : mw_S) (t deep : Nat) : pr_T :=
  if opI (cd tb n t) = 0 then (-1, pf tb n M t, t) else if M.1 47 = 60 then (-1, pf tb n M t, t)
  else pA1 tb n F k q (opI (cd tb n t)) (pw tb n (pA0 tb n k q deep t (opI (cd tb n t)) M) t) (t + 1) (M.1 13).toNatClampNeg deep
def pN (F : pr_F) (deep : Nat) (hd tl : Int32) (r : pr_T) : pr_T :=
  if 0 ≤ r.1 then (if tl < 0 then F r.2.1 r.2.2 deep r.1 r.1 else F (mw_setV r.2.1 18 tl.toNatClampNeg r.1) r.2.2 deep hd r.1) else (-2, r.2)
def pL (k q : Nat) : Nat → pr_F
  | 0, M, t, _, _, _ => (-2, M, t)
  | f + 1, M, t, deep, hd, tl => if cd tb n t = 5 then (hd, pw tb n M t, t + 1) else pN (pL k q f) deep hd tl (pA tb n (pL k q f) k q M t deep)
end PRS
/-- the reference's memory with the t-th word read -/
def pP (tb : Nat → Nat) (n : Nat) (M : mw_S) (t : Nat) : Prop := M.1 1 = nI n ∧ n ≤ 700 ∧ tp M tb ∧ M.1 26 = nI (qe tb n t) ∧ M.1 27 = nI (qs tb n t) ∧ M.1 28 = nI (qe tb n t) ∧ M.1 29 = nI (tkK tb n (qs tb n t))
theorem pP.same {tb : Nat → Nat} {n t : Nat} {M M' : mw_S} (h : pP tb n M t) (h1 : M'.1 1 = M.1 1) (h2 : M'.1 26 = M.1 26) (h3 : M'.1 27 = M.1 27) (h4 : M'.1 28 = M.1 28) (h5 : M'.1 29 = M.1 29) (h6 : M'.2.2.1 0 = M.2.2.1 0) : pP tb n M' t :=
  ⟨h1.trans h.1, h.2.1, fun i => ⟨(h.2.2.1 i).1, by rw [h6]; exact (h.2.2.1 i).2⟩, h2.trans h.2.2.2.1, h3.trans h.2.2.2.2.1, h4.trans h.2.2.2.2.2.1, h5.trans h.2.2.2.2.2.2⟩
theorem pP.w {tb : Nat → Nat} {n t : Nat} {M : mw_S} (h : pP tb n M t) : pP tb n (pw tb n M t) (t + 1) := ⟨h.1, h.2.1, h.2.2.1, rfl, rfl, rfl, rfl⟩
theorem pP.c {tb : Nat → Nat} {n t : Nat} {M : mw_S} (h : pP tb n M t) : ∀ i, tb i < 256 := fun i => (h.2.2.1 i).1
