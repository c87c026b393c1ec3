/-! names as numbers: five bits a letter -/
def spN : List Nat → Nat → Nat
  | [], v => v
  | c :: l, v => spN l (32 * v + (c - 96))
def spL (l : List Nat) : Int64 := Int64.ofNat (spN l 0)
def ltr (l : List Nat) : Prop := (∀ c ∈ l, 97 ≤ c ∧ c ≤ 122) ∧ l.length ≤ 8
theorem spN_app : ∀ (l : List Nat) (c v : Nat), spN (l ++ [c]) v = 32 * spN l v + (c - 96) := by
  intro l
  induction l with
  | nil => intro c v; rfl
  | cons x l ih => intro c v; exact ih c _
theorem spN_b : ∀ (l : List Nat) (v : Nat), (∀ c ∈ l, 97 ≤ c ∧ c ≤ 122) → 32 ^ l.length * v ≤ spN l v ∧ spN l v < 32 ^ l.length * (v + 1) := by
  intro l
  induction l with
  | nil => intro v _; show 1 * v ≤ v ∧ v < 1 * (v + 1); omega
  | cons c l ih =>
    intro v h
    obtain ⟨h1, h2⟩ := ih (32 * v + (c - 96)) (fun x hx => h x (List.mem_cons_of_mem _ hx))
    have h3 := h c List.mem_cons_self
    have e : 32 ^ (c :: l).length = 32 ^ l.length * 32 := Nat.pow_succ ..
    have p1 : 32 ^ l.length * (32 * v) ≤ 32 ^ l.length * (32 * v + (c - 96)) := Nat.mul_le_mul_left _ (by omega)
    have p2 : 32 ^ l.length * (32 * v + (c - 96) + 1) ≤ 32 ^ l.length * (32 * (v + 1)) := Nat.mul_le_mul_left _ (by omega)
    rw [e, Nat.mul_assoc, Nat.mul_assoc]
    exact ⟨Nat.le_trans p1 h1, Nat.lt_of_lt_of_le h2 p2⟩
theorem spN_inj1 : ∀ (l l' : List Nat) (v v' : Nat), (∀ c ∈ l, 97 ≤ c ∧ c ≤ 122) → (∀ c ∈ l', 97 ≤ c ∧ c ≤ 122) → l.length = l'.length → spN l v = spN l' v' → l = l' ∧ v = v' := by
  intro l
  induction l with
  | nil =>
    intro l' v v' _ _ hl h
    cases l' with
    | nil => exact ⟨rfl, h⟩
    | cons c l' => cases hl
  | cons c l ih =>
    intro l' v v' h1 h2 hl h
    cases l' with
    | nil => cases hl
    | cons c' l' =>
      obtain ⟨e1, e2⟩ := ih l' _ _ (fun x hx => h1 x (List.mem_cons_of_mem _ hx)) (fun x hx => h2 x (List.mem_cons_of_mem _ hx)) (Nat.succ.inj hl) h
      have a1 := h1 c List.mem_cons_self
      have a2 := h2 c' List.mem_cons_self
      have e3 : c = c' := by omega
      exact ⟨by rw [e1, e3], by omega⟩
theorem spN_len {l l' : List Nat} (h1 : ∀ c ∈ l, 97 ≤ c ∧ c ≤ 122) (h2 : ∀ c ∈ l', 97 ≤ c ∧ c ≤ 122) (hl : l.length < l'.length) : ¬ spN l 0 = spN l' 0 := by
  intro e
  cases l' with
  | nil => exact absurd hl (Nat.not_lt_zero _)
  | cons c l' =>
    have b1 := (spN_b l 0 h1).2
    have a2 := h2 c List.mem_cons_self
    have b2 := (spN_b l' (32 * 0 + (c - 96)) (fun x hx => h2 x (List.mem_cons_of_mem _ hx))).1
    have p : 32 ^ l.length ≤ 32 ^ l'.length := Nat.pow_le_pow_right (by omega) (Nat.le_of_lt_succ hl)
    have p2 : 32 ^ l'.length * 1 ≤ 32 ^ l'.length * (32 * 0 + (c - 96)) := Nat.mul_le_mul_left _ (by omega)
    have e2 : spN (c :: l') 0 = spN l' (32 * 0 + (c - 96)) := rfl
    omega
theorem spN_40 {l : List Nat} (h : ltr l) : spN l 0 < 2 ^ 40 := by
  have b1 := (spN_b l 0 h.1).2
  have p : 32 ^ l.length ≤ 32 ^ 8 := Nat.pow_le_pow_right (by omega) h.2
  have e : (32 : Nat) ^ 8 = 2 ^ 40 := by decide
  omega
theorem spL_inj {l l' : List Nat} (h : ltr l) (h' : ltr l') : spL l = spL l' ↔ l = l' := by
  refine ⟨fun e => ?_, fun e => by rw [e]⟩
  have b1 := spN_40 h
  have b2 := spN_40 h'
  have e2 : spN l 0 = spN l' 0 := by
    have := congrArg Int64.toNatClampNeg e
    unfold spL at this
    rwa [Int64.toNatClampNeg_ofNat_of_lt (by omega), Int64.toNatClampNeg_ofNat_of_lt (by omega)] at this
  rcases Nat.lt_trichotomy l.length l'.length with z | z | z
  · exact absurd e2 (spN_len h.1 h'.1 z)
  · exact (spN_inj1 l l' 0 0 h.1 h'.1 z e2).1
  · exact absurd e2.symm (spN_len h'.1 h.1 z)
/-- the first of v places from i on that holds w -/
def kfA (f : Nat → Int64) (w : Int64) : Nat → Nat → Option Nat
  | 0, _ => none
  | v + 1, i => if f i = w then some i else kfA f w v (i + 1)
def kfi (f : Nat → Int64) (w : Int64) (n : Nat) : Option Nat := kfA f w n 0
theorem kfA_s {f : Nat → Int64} {w : Int64} : ∀ (v i r : Nat), kfA f w v i = some r → i ≤ r ∧ r < i + v ∧ f r = w := by
  intro v
  induction v with
  | zero => intro i r h; cases h
  | succ v ih =>
    intro i r h
    have h : (if f i = w then some i else kfA f w v (i + 1)) = some r := h
    by_cases c : f i = w
    · rw [if_pos c] at h
      cases h
      exact ⟨Nat.le_refl _, by omega, c⟩
    · rw [if_neg c] at h
      obtain ⟨a, b, d⟩ := ih _ _ h
      exact ⟨by omega, by omega, d⟩
/-- the last of the first v places that holds w -/
def klA (f : Nat → Int64) (w : Int64) : Nat → Option Nat
  | 0 => none
  | v + 1 => if f v = w then some v else klA f w v
theorem klA_s {f : Nat → Int64} {w : Int64} : ∀ (v r : Nat), klA f w v = some r → r < v ∧ f r = w := by
  intro v
  induction v with
  | zero => intro r h; cases h
  | succ v ih =>
    intro r h
    have h : (if f v = w then some v else klA f w v) = some r := h
    by_cases c : f v = w
    · rw [if_pos c] at h
      cases h
      exact ⟨by omega, c⟩
    · rw [if_neg c] at h
      obtain ⟨a, b⟩ := ih _ h
      exact ⟨by omega, b⟩
/-! texts' addresses don't matter to what is read -/
def mUN (u : Nat → Nat → Option Nat) (x : Option Nat) (M : mw_S) : mw_S := (M.1, x, M.2.2.1, M.2.2.2.1, u)
def prU (u : Nat → Nat → Option Nat) (x : Option Nat) (r : pr_T) : pr_T := (r.1, mUN u x r.2.1, r.2.2)
def fU (u : Nat → Nat → Option Nat) (x : Option Nat) (F : pr_F) : Prop := ∀ (M : mw_S) (t deep : Nat) (hd tl : Int32), F (mUN u x M) t deep hd tl = prU u x (F M t deep hd tl)
theorem prU_if (u : Nat → Nat → Option Nat) (x : Option Nat) (c : Prop) [Decidable c] (a b : pr_T) : prU u x (if c then a else b) = if c then prU u x a else prU u x b := by split <;> rfl
theorem mUN_if (u : Nat → Nat → Option Nat) (x : Option Nat) (c : Prop) [Decidable c] (a b : mw_S) : mUN u x (if c then a else b) = if c then mUN u x a else mUN u x b := by split <;> rfl
section UNS
variable {tb : Nat → Nat} {n : Nat} {u : Nat → Nat → Option Nat} {x : Option Nat}
theorem pT_U (M : mw_S) (t c : Nat) : pT tb n (mUN u x M) t c = prU u x (pT tb n M t c) := by
  unfold pT; rw [prU_if]; rfl
theorem pNum_U (M : mw_S) (t a : Nat) : pNum tb n (mUN u x M) t a = prU u x (pNum tb n M t a) := by
  unfold pNum; rw [prU_if, prU_if]; rfl
theorem pB_U {F : pr_F} (hF : fU u x F) (M : mw_S) (t deep : Nat) : pB tb n F (mUN u x M) t deep = prU u x (pB tb n F M t deep) := by
  unfold pB
  rw [prU_if]
  exact if_c (hF (pw tb n M t) (t + 1) deep (-1) (-1)) rfl
theorem pO1_U {F : pr_F} (hF : fU u x F) (a deep : Nat) (r : pr_T) : pO1 tb n F a deep (prU u x r) = prU u x (pO1 tb n F a deep r) := by
  unfold pO1
  rw [prU_if]
  refine if_c rfl ?_
  show pO2 a (pB tb n F (mUN u x r.2.1) r.2.2 (deep + 1)) = _
  rw [pB_U hF]
  rfl
theorem pO_U {F : pr_F} (hF : fU u x F) (M : mw_S) (t a deep : Nat) : pO tb n F (mUN u x M) t a deep = prU u x (pO tb n F M t a deep) := by
  unfold pO
  rw [prU_if, prU_if, pT_U, pT_U, pO1_U hF, pO1_U hF]
  rfl
theorem pPt_U {F : pr_F} (hF : fU u x F) (M : mw_S) (t a deep : Nat) : pPt tb n F (mUN u x M) t a deep = prU u x (pPt tb n F M t a deep) := by
  unfold pPt
  rw [pB_U hF]
  generalize pB tb n F M t (deep + 1) = r
  unfold pPt1
  rw [prU_if]
  refine if_c rfl ?_
  show pO tb n F (mUN u x (mw_setV r.2.1 16 a r.1)) r.2.2 a deep = _
  rw [pO_U hF]
theorem pC_U (k q : Nat) (M : mw_S) (t a : Nat) : pC tb n k q (mUN u x M) t a = prU u x (pC tb n k q M t a) := by
  unfold pC
  rw [prU_if]
  refine if_c rfl ?_
  show pE a (pT tb n (mUN u x (pw tb n (rm_useG (mw_setV (mw_setV M 15 a (hkI (cd tb n t))) 83 a (nI (qs tb n t))) a (nI k) (nI q) 2 (hkI (cd tb n t))) t)) (t + 1) 6) = _
  rw [pT_U]
  rfl
theorem pA2_U {F : pr_F} (hF : fU u x F) (o : Int32) (a deep : Nat) (r : pr_T) : pA2 tb n F o a deep (prU u x r) = prU u x (pA2 tb n F o a deep r) := by
  unfold pA2
  rw [prU_if, prU_if]
  refine if_c rfl (if_c ?_ ?_)
  · show pE a (pPt tb n F (mUN u x r.2.1) r.2.2 a deep) = _
    rw [pPt_U hF]; rfl
  · show pE a (pT tb n (mUN u x r.2.1) r.2.2 6) = _
    rw [pT_U]; rfl
theorem pA1_U {F : pr_F} (hF : fU u x F) (k q : Nat) (o : Int32) (M : mw_S) (t a deep : Nat) : pA1 tb n F k q o (mUN u x M) t a deep = prU u x (pA1 tb n F k q o M t a deep) := by
  unfold pA1
  rw [prU_if, prU_if, prU_if, pC_U, pT_U, pPt_U hF, pNum_U, pA2_U hF]
  rfl
theorem pA0_U (k q deep t : Nat) (o : Int32) (M : mw_S) : pA0 tb n k q deep t o (mUN u x M) = mUN u x (pA0 tb n k q deep t o M) := by
  unfold pA0
  rw [mUN_if]
  rfl
theorem pA_U {F : pr_F} (hF : fU u x F) (k q : Nat) (M : mw_S) (t deep : Nat) : pA tb n F k q (mUN u x M) t deep = prU u x (pA tb n F k q M t deep) := by
  unfold pA
  rw [prU_if, prU_if, pA0_U]
  refine if_c rfl (if_c rfl ?_)
  exact pA1_U hF k q _ (pw tb n (pA0 tb n k q deep t (opI (cd tb n t)) M) t) _ _ _
theorem pN_U {F : pr_F} (hF : fU u x F) (deep : Nat) (hd tl : Int32) (r : pr_T) : pN F deep hd tl (prU u x r) = prU u x (pN F deep hd tl r) := by
  unfold pN
  rw [prU_if, prU_if]
  exact if_c (if_c (hF r.2.1 r.2.2 deep r.1 r.1) (hF (mw_setV r.2.1 18 tl.toNatClampNeg r.1) r.2.2 deep hd r.1)) rfl
theorem pL_U (k q : Nat) : ∀ f, fU u x (pL tb n k q f) := by
  intro f
  induction f with
  | zero => intro M t deep hd tl; rfl
  | succ f ih =>
    intro M t deep hd tl
    show (if cd tb n t = 5 then (hd, pw tb n (mUN u x M) t, t + 1) else pN (pL tb n k q f) deep hd tl (pA tb n (pL tb n k q f) k q (mUN u x M) t deep)) = prU u x (if cd tb n t = 5 then (hd, pw tb n M t, t + 1) else pN (pL tb n k q f) deep hd tl (pA tb n (pL tb n k q f) k q M t deep))
    rw [prU_if, pA_U ih, pN_U ih]
    rfl
end UNS
theorem rm_faulty_U (u : Nat → Nat → Option Nat) (x : Option Nat) (M : mw_S) (f p : Int32) : rm_faulty (mUN u x M) f p = mUN u x (rm_faulty M f p) := by
  unfold rm_faulty
  rw [mUN_if, mUN_if, mUN_if, mUN_if]
  rfl
/-! bodies, kinds, a pack -/
section PKS
variable (tb : Nat → Nat) (n : Nat)
/-- what is only told of a body: its kind, hook, place, whether it is a second one, its first action, how many, right, last -/
def rm_bgh (M : mw_S) (g k q p a : Nat) (s : Bool) : mw_S := mw_setS (mw_setV (mw_setV (mw_setV (mw_setV (mw_setV M 98 g (nI k)) 99 g (nI q)) 107 g (nI p)) 96 g (bI s)) 114 g (nI a)) 111 (nI (g + 1))
def rm_bge (M : mw_S) (g : Nat) (f r l : Int32) : mw_S := mw_setV (mw_setV (mw_setV (mw_setV (mw_setV M 108 g f) 109 g (M.1 47)) 112 g r) 113 g l) 115 g (M.1 13)
def pBd4 (k q g : Nat) (r l : Int32) (s : Bool) (z : pr_T) : pr_T :=
  if z.1 = -2 then (0, z.2) else (1, (if s = true then rm_bge z.2.1 g z.1 r l else mw_setV (rm_bge (rm_body z.2.1 (6 * k + q) r l z.1 (z.2.1.1 47)) g z.1 r l) 97 (6 * k + q) (nI g)), z.2.2)
def rm_bnew (M : mw_S) (b k q : Nat) : mw_S := mw_setS (mw_setV (mw_setV (mw_setV M 38 b (nI k)) 39 b (nI q)) 40 b (M.1 27)) 37 (nI (b + 1))
def pBd3 (k q : Nat) (r l : Int32) (M : mw_S) (t : Nat) : pr_T :=
  pBd4 k q (M.1 111).toNatClampNeg r l (rm_has M q k) (pB tb n (pL tb n k q n) (mw_setS (pw tb n (rm_bgh (rm_bnew (if rm_has M q k = true then rm_faulty M 3 (M.1 27) else M) (M.1 37).toNatClampNeg k q) (M.1 111).toNatClampNeg k q (qs tb n t) (M.1 13).toNatClampNeg (rm_has M q k)) t) 47 0) (t + 1) 1)
def pBd2 (k : Nat) (r l : Int32) (M : mw_S) (t : Nat) : pr_T := if hkI (cd tb n t) < 0 then (0, pf tb n M t, t) else pBd3 tb n k (cd tb n t - 7) r l M t
def pBd1 (k : Nat) (r : Int32) (M : mw_S) (t : Nat) : pr_T := if cd tb n t = 29 then pBd2 tb n k r 1 (pw tb n M t) (t + 1) else pBd2 tb n k r 0 M t
def pBody (k : Nat) (M : mw_S) (t : Nat) : pr_T := if cd tb n t = 27 then pBd1 tb n k 0 (pw tb n M t) (t + 1) else if cd tb n t = 28 then pBd1 tb n k 1 (pw tb n M t) (t + 1) else pBd1 tb n k 2 M t
def pBs (k : Nat) : Nat → mw_S → Nat → pr_T
  | 0, M, t => (0, M, t)
  | f + 1, M, t => if cd tb n t = 5 then (1, mw_setV (pw tb n M t) 106 k (M.1 111), t + 1) else if (pBody tb n k M t).1 = 0 then pBody tb n k M t else pBs k f (pBody tb n k M t).2.1 (pBody tb n k M t).2.2
/-- the kind's own cells are cleared -/
def rm_clr (M : mw_S) (k i : Nat) : mw_S := (M.1, M.2.1, (fun j l => if j = 8 ∧ 6 * k ≤ l ∧ l < 6 * k + i then 0 else M.2.2.1 j l), M.2.2.2)
def pK5 (k : Nat) (z : pr_T) : pr_T := if z.1 = 0 then z else pBs tb n k (n + 1) z.2.1 z.2.2
def rm_kin (M : mw_S) (k : Nat) (ab : Option Nat) (w : Int64) (p : Nat) : mw_S :=
  mw_setS (rm_clr (mw_setV (mw_setV (mw_setV (mw_setV (mw_setV (mw_setW (if ab = none then rm_faulty (mw_setV M 6 k (oI ab)) 2 (M.1 27) else mw_setV M 6 k (oI ab)) 103 k w) 91 k (nI p)) 105 k (M.1 111)) 116 k (M.1 13)) 5 k (M.1 34)) 7 k (M.1 19)) k 6) 35 (M.1 35 + 1)
def pK4 (k : Nat) (M : mw_S) (t : Nat) : pr_T :=
  if cd tb n t = 2 then pK5 tb n k (pT tb n (pw tb n (rm_kin M k (kfi (M.2.2.2.1 100) (spL (wo tb n t)) k) (spL (wo tb n t)) (qs tb n t)) t) (t + 1) 4)
  else (0, pf tb n M t, t)
def pK3 (k : Nat) (z : pr_T) : pr_T := if z.1 = 0 then z else pK4 tb n k z.2.1 z.2.2
def rm_knm (M : mw_S) (k : Nat) (w : Int64) (p : Nat) : mw_S := if kfi (M.2.2.2.1 100) w k = none then mw_setV (mw_setW M 100 k w) 90 k (nI p) else rm_faulty (mw_setV (mw_setW M 100 k w) 90 k (nI p)) 2 (M.1 27)
def pK2 (k : Nat) (M : mw_S) (t : Nat) : pr_T :=
  if cd tb n t = 2 then pK3 tb n k (pT tb n (pw tb n (rm_knm M k (spL (wo tb n t)) (qs tb n t)) t) (t + 1) 26)
  else (0, pf tb n M t, t)
def pKind (M : mw_S) (t : Nat) : pr_T :=
  if cd tb n t = 25 then (if M.1 35 = 10 then (0, pf tb n M t, t) else pK2 tb n (M.1 3 + M.1 35).toNatClampNeg (pw tb n M t) (t + 1)) else (0, pf tb n M t, t)
def pEnd (M : mw_S) (t : Nat) : pr_T := if cd tb n t = 0 then (1, M, t) else (0, pf tb n M t, t)
def pKs : Nat → mw_S → Nat → pr_T
  | 0, M, t => (0, M, t)
  | f + 1, M, t => if (pKind tb n M t).1 = 0 then pKind tb n M t else if cd tb n (pKind tb n M t).2.2 = 5 then pEnd tb n (pw tb n (pKind tb n M t).2.1 (pKind tb n M t).2.2) ((pKind tb n M t).2.2 + 1) else pKs f (pKind tb n M t).2.1 (pKind tb n M t).2.2
def pP4 (z : pr_T) : pr_T := if z.1 = 0 then z else pKs tb n (n + 1) z.2.1 z.2.2
/-- which package a pack joins -/
def rm_with (M : mw_S) (np : Nat) (w : Int64) : mw_S := if w = spL [104, 111, 117, 115, 101] then mw_setS M 34 0 else match klA (M.2.2.2.1 101) w np with
  | some p => mw_setS M 34 (M.2.2.1 21 p)
  | none => rm_faulty M 2 (M.1 27)
def rm_wgh (M : mw_S) (w : Int64) (p : Nat) : mw_S := mw_setS (mw_setS (mw_setW M 104 0 w) 100 (nI p)) 101 1
def pP3 (M : mw_S) (t : Nat) : pr_T := if cd tb n t = 2 then pP4 tb n (pT tb n (pw tb n (rm_wgh (rm_with M (M.1 19).toNatClampNeg (spL (wo tb n t))) (spL (wo tb n t)) (qs tb n t)) t) (t + 1) 4) else (0, pf tb n M t, t)
def pP2 (M : mw_S) (t : Nat) : pr_T := if cd tb n t = 24 then pP3 tb n (pw tb n M t) (t + 1) else pP4 tb n (pT tb n M t 4)
def pP1 (M : mw_S) (t : Nat) : pr_T := if cd tb n t = 2 then pP2 tb n (mw_setS (mw_setS (pw tb n (mw_setW M 102 0 (spL (wo tb n t))) t) 34 (M.1 23)) 101 0) (t + 1) else (0, pf tb n M t, t)
def pP0 (z : pr_T) : pr_T := if z.1 = 0 then z else pP1 tb n z.2.1 z.2.2
def pPack (M : mw_S) : pr_T := pP0 tb n (pT tb n (rm_word M tb n (qs tb n 0)) 0 23)
end PKS
