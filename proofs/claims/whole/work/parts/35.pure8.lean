/-! the words of the grammar -/
def tkS : List (List Nat × Nat) := [([123], 4), ([125], 5), ([59], 6)]
def tkW : List (List Nat × Nat) := [([99, 104, 101, 99, 107], 7), ([98, 101, 102, 111, 114, 101], 8), ([115, 116, 101, 112], 9), ([97, 102, 116, 101, 114], 10), ([110, 111, 116, 101], 11), ([99, 108, 111, 115, 101], 12), ([117, 112], 13), ([99, 97, 108, 108], 14), ([115, 97, 121], 15), ([97, 100, 100], 16), ([116, 97, 107, 101], 17), ([119, 97, 114, 109], 18), ([102, 97, 105, 108], 19), ([114, 101, 102, 117, 115, 101], 20), ([108, 101, 115, 115], 21), ([116, 114, 121], 22), ([112, 97, 99, 107], 23), ([119, 105, 116, 104], 24), ([107, 105, 110, 100], 25), ([117, 110, 100, 101, 114], 26), ([111, 112, 101, 110], 27), ([103, 117, 97, 114, 100, 101, 100], 28), ([108, 97, 115, 116], 29), ([101, 108, 115, 101], 30), ([114, 101, 115, 99, 117, 101], 31), ([97], 32)]
def tkA : List (List Nat × Nat) := tkS ++ tkW
def tkX : List Nat := [32, 112, 97, 99, 107, 32, 119, 105, 116, 104, 32, 107, 105, 110, 100, 32, 117, 110, 100, 101, 114, 32, 111, 112, 101, 110, 32, 103, 117, 97, 114, 100, 101, 100, 32, 108, 97, 115, 116, 32, 99, 104, 101, 99, 107, 32, 98, 101, 102, 111, 114, 101, 32, 115, 116, 101, 112, 32, 97, 102, 116, 101, 114, 32, 110, 111, 116, 101, 32, 99, 108, 111, 115, 101, 32, 117, 112, 32, 99, 97, 108, 108, 32, 115, 97, 121, 32, 97, 100, 100, 32, 116, 97, 107, 101, 32, 119, 97, 114, 109, 32, 102, 97, 105, 108, 32, 114, 101, 102, 117, 115, 101, 32, 108, 101, 115, 115, 32, 101, 108, 115, 101, 32, 116, 114, 121, 32, 114, 101, 115, 99, 117, 101, 32, 97, 32]

/-! bytes, words on the tape: what a word is, by the tape's bytes tb and its length n -/
def bt (c : Nat) : Int32 := (nI c).toInt8.toInt32
theorem bt_f : ∀ c, c < 256 → bt c &&& 255 = nI c ∧ (c < 128 → bt c = nI c) ∧ (128 ≤ c → bt c < 0) := by decide +kernel
def tp (M : mw_S) (tb : Nat → Nat) : Prop := ∀ i, tb i < 256 ∧ M.2.2.1 0 i = bt (tb i)
def isL (c : Nat) : Bool := Nat.ble 97 c && Nat.ble c 122
def isF (c : Nat) : Bool := Nat.ble 48 c && Nat.ble c 57
def isBl (c : Nat) : Bool := Nat.beq c 10 || Nat.beq c 32
def isSg (c : Nat) : Bool := Nat.beq c 123 || (Nat.beq c 125 || Nat.beq c 59)
/-- from p on as long as P holds -/
def lxs (P : Nat → Bool) (tb : Nat → Nat) (n : Nat) : Nat → Nat → Nat
  | 0, p => p
  | f + 1, p => if p < n ∧ P (tb p) = true then lxs P tb n f (p + 1) else p
def lx (P : Nat → Bool) (tb : Nat → Nat) (n p : Nat) : Nat := lxs P tb n (n - p) p
theorem lx_go {P : Nat → Bool} {tb : Nat → Nat} {n p : Nat} (h1 : p < n) (h2 : P (tb p) = true) : lx P tb n p = lx P tb n (p + 1) := by
  unfold lx
  rw [show n - p = (n - (p + 1)) + 1 by omega]
  show (if p < n ∧ P (tb p) = true then lxs P tb n (n - (p + 1)) (p + 1) else p) = _
  rw [if_pos ⟨h1, h2⟩]
theorem lx_stop {P : Nat → Bool} {tb : Nat → Nat} {n p : Nat} (h : ¬ (p < n ∧ P (tb p) = true)) : lx P tb n p = p := by
  unfold lx
  cases hq : n - p with
  | zero => rfl
  | succ f =>
    show (if p < n ∧ P (tb p) = true then lxs P tb n f (p + 1) else p) = p
    rw [if_neg h]
theorem lx_spec {P : Nat → Bool} {tb : Nat → Nat} {n : Nat} : ∀ (f p : Nat), n - p = f → p ≤ n → p ≤ lx P tb n p ∧ lx P tb n p ≤ n ∧ (∀ i, p ≤ i → i < lx P tb n p → P (tb i) = true) ∧ ¬ (lx P tb n p < n ∧ P (tb (lx P tb n p)) = true) := by
  intro f
  induction f with
  | zero =>
    intro p hf hp
    have e : lx P tb n p = p := lx_stop (by omega)
    rw [e]
    exact ⟨Nat.le_refl _, hp, fun i h1 h2 => by omega, by omega⟩
  | succ f ih =>
    intro p hf hp
    by_cases h : p < n ∧ P (tb p) = true
    · rw [lx_go h.1 h.2]
      obtain ⟨a, b, c, d⟩ := ih (p + 1) (by omega) (by omega)
      refine ⟨by omega, b, fun i h1 h2 => ?_, d⟩
      by_cases e : i = p
      · rw [e]; exact h.2
      · exact c i (by omega) h2
    · rw [lx_stop h]
      exact ⟨Nat.le_refl _, hp, fun i h1 h2 => by omega, h⟩
/-- where the word at or behind p begins -/
def tkF (tb : Nat → Nat) (n p : Nat) : Nat := lx isBl tb n p
/-- the kind of the word that begins at q: 0 end, 1 none, 2 letters, 3 figures, 4 a sign -/
def tkK (tb : Nat → Nat) (n q : Nat) : Nat := if n ≤ q then 0 else if isL (tb q) = true then (if lx isL tb n q - q ≤ 8 then 2 else 1) else if isF (tb q) = true then (if lx isF tb n q - q ≤ 3 then 3 else 1) else if isSg (tb q) = true then 4 else 1
/-- where it ends -/
def tkT (tb : Nat → Nat) (n q : Nat) : Nat := if tkK tb n q = 2 then lx isL tb n q else if tkK tb n q = 3 then lx isF tb n q else if tkK tb n q = 4 then q + 1 else q
def wn (tb : Nat → Nat) (f t : Nat) : List Nat := (List.range (t - f)).map (fun i => tb (f + i))
theorem wn_len (tb : Nat → Nat) (f t : Nat) : (wn tb f t).length = t - f := by unfold wn; simp
theorem wn_get {tb : Nat → Nat} {f t i : Nat} (h : i < t - f) : (wn tb f t)[i]? = some (tb (f + i)) := mw_rangeG _ h
def wlook : List (List Nat × Nat) → List Nat → Nat
  | [], _ => 2
  | e :: l, ws => if ws = e.1 then e.2 else wlook l ws
/-- what a word is -/
def tkC (tb : Nat → Nat) (n q : Nat) : Nat := if tkK tb n q = 2 ∨ tkK tb n q = 4 then wlook tkA (wn tb q (tkT tb n q)) else tkK tb n q
theorem wlook_mem {l : List (List Nat × Nat)} {ws : List Nat} : wlook l ws = 2 ∨ (ws, wlook l ws) ∈ l := by
  induction l with
  | nil => exact Or.inl rfl
  | cons e l ih =>
    show (if ws = e.1 then e.2 else wlook l ws) = 2 ∨ (ws, if ws = e.1 then e.2 else wlook l ws) ∈ e :: l
    by_cases h : ws = e.1
    · rw [if_pos h, h]
      exact Or.inr List.mem_cons_self
    · rw [if_neg h]
      exact ih.imp id (List.mem_cons_of_mem _)
theorem tkA_1 : ∀ e ∈ tkA, wlook tkA e.1 = e.2 ∧ 4 ≤ e.2 := by decide +kernel
theorem tkA_2 : ∀ e ∈ tkA, ∀ e' ∈ tkA, e.2 = e'.2 → e.1 = e'.1 := by decide +kernel
theorem wlook_iff {ws w : List Nat} {c : Nat} (hm : (w, c) ∈ tkA) : wlook tkA ws = c ↔ ws = w := by
  refine ⟨fun h => ?_, fun h => by rw [h]; exact (tkA_1 _ hm).1⟩
  rcases wlook_mem (l := tkA) (ws := ws) with h2 | h2
  · have := (tkA_1 _ hm).2
    rw [h] at h2
    have h3 : c = 2 := h2
    have h4 : 4 ≤ c := this
    omega
  · exact tkA_2 _ h2 _ hm h
theorem tkK_lt (tb : Nat → Nat) (n q : Nat) : tkK tb n q ≤ 4 := by
  unfold tkK
  repeat' split
  all_goals omega
/-- is the word this one? -/
theorem tkC_iff {tb : Nat → Nat} {n q : Nat} {w : List Nat} {c : Nat} (hm : (w, c) ∈ tkA) : ((tkK tb n q = 2 ∨ tkK tb n q = 4) ∧ wn tb q (tkT tb n q) = w) ↔ tkC tb n q = c := by
  unfold tkC
  by_cases h : tkK tb n q = 2 ∨ tkK tb n q = 4
  · rw [if_pos h]
    exact ⟨fun z => (wlook_iff hm).mpr z.2, fun z => ⟨h, (wlook_iff hm).mp z⟩⟩
  · rw [if_neg h]
    have h1 := tkK_lt tb n q
    have h2 : 4 ≤ c := (tkA_1 _ hm).2
    exact ⟨fun z => absurd z.1 h, fun z => absurd (Or.inr (by omega)) h⟩
/-! the reference's own row of words -/
theorem tkX_1 : ∀ i, i < 136 → tkX[i]? = some 32 → (tkX.drop (i + 1)).takeWhile (fun c => !Nat.beq c 32) = [] ∨ wlook tkA ((tkX.drop (i + 1)).takeWhile (fun c => !Nat.beq c 32)) ≠ 2 := by decide +kernel
theorem tkX_2 : ∀ e ∈ tkW, ∃ i, i < 136 ∧ (32 :: e.1 ++ [32]).isPrefixOf (tkX.drop i) = true := by decide +kernel
theorem tkX_len : tkX.length = 136 := by decide +kernel
theorem takeWhile_app {l r : List Nat} (h : ∀ c ∈ l, ¬ c = 32) : (l ++ 32 :: r).takeWhile (fun c => !Nat.beq c 32) = l := by
  induction l with
  | nil => rfl
  | cons c l ih =>
    have hc : Nat.beq c 32 = false := by
      cases hb : Nat.beq c 32 with
      | false => rfl
      | true => exact absurd (Nat.eq_of_beq_eq_true hb) (h c List.mem_cons_self)
    rw [List.cons_append, List.takeWhile_cons, hc]
    show c :: _ = _
    rw [ih (fun c hc => h c (List.mem_cons_of_mem _ hc))]
def occN (bs cs : List Nat) (i : Nat) : Prop := ∀ j, j < cs.length → bs[i + j]? = cs[j]?
theorem occN_pre {bs cs : List Nat} {i : Nat} (h : occN bs cs i) (hl : i + cs.length ≤ bs.length) : ∃ r, bs.drop i = cs ++ r := by
  refine ⟨bs.drop (i + cs.length), ?_⟩
  refine List.ext_getElem? (fun j => ?_)
  rw [List.getElem?_drop]
  by_cases hj : j < cs.length
  · rw [List.getElem?_append_left hj]
    exact h j hj
  · rw [List.getElem?_append_right (by omega), List.getElem?_drop, show i + cs.length + (j - cs.length) = i + j by omega]
theorem tkX_occ {ws : List Nat} (hw : ∀ c ∈ ws, ¬ c = 32) (h0 : ¬ ws = []) : (∃ i, i + (32 :: ws ++ [32]).length ≤ tkX.length ∧ occN tkX (32 :: ws ++ [32]) i) ↔ ¬ wlook tkW ws = 2 := by
  constructor
  · rintro ⟨i, hi, ho⟩ h2
    obtain ⟨r, hr⟩ := occN_pre ho hi
    have hlen : (32 :: ws ++ [32]).length = ws.length + 2 := by simp
    rw [hlen, tkX_len] at hi
    have e1 : tkX[i]? = some 32 := by
      have := ho 0 (by rw [hlen]; omega)
      rw [Nat.add_zero] at this
      exact this
    have e2 : tkX.drop (i + 1) = ws ++ 32 :: r := by
      rw [← List.drop_drop, hr]
      show (32 :: (ws ++ [32]) ++ r).drop 1 = _
      simp
    rcases tkX_1 i (by omega) e1 with z | z
    · rw [e2, takeWhile_app hw] at z
      exact h0 z
    · rw [e2, takeWhile_app hw] at z
      refine z ?_
      rcases wlook_mem (l := tkA) (ws := ws) with q | q
      · exact q
      · exfalso
        rcases List.mem_append.mp q with q | q
        · have : ∀ e ∈ tkS, wlook tkA e.1 = e.2 → e.1 ≠ [] → False ∨ (∀ i, i < 136 → tkX[i]? = some 32 → (tkX.drop (i + 1)).takeWhile (fun c => !Nat.beq c 32) ≠ e.1) := by decide +kernel
          rcases this _ q (tkA_1 _ (List.mem_append_left _ q)).1 h0 with z2 | z2
          · exact z2
          · exact z2 i (by omega) e1 (by rw [e2, takeWhile_app hw])
        · have h3 : ∀ e ∈ tkW, wlook tkW e.1 ≠ 2 := by decide +kernel
          exact h3 _ q h2
  · intro h2
    rcases wlook_mem (l := tkW) (ws := ws) with q | q
    · exact absurd q h2
    · obtain ⟨i, hi, hp⟩ := tkX_2 _ q
      obtain ⟨r, hr⟩ := List.isPrefixOf_iff_prefix.mp hp
      have hl := congrArg List.length hr
      rw [List.length_append, List.length_drop, tkX_len] at hl
      refine ⟨i, by rw [tkX_len]; have hl2 : (32 :: ws ++ [32]).length + r.length = 136 - i := hl; omega, fun j hj => ?_⟩
      have := congrArg (fun l : List Nat => l[j]?) hr
      simp only [List.getElem?_drop] at this
      rw [← this, List.getElem?_append_left hj]
