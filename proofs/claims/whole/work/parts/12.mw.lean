/-! the reference's memory: S scalars, N its text, V arrays of ints, bytes and booleans, W arrays of longs, U arrays of texts; all by the field's number -/
abbrev mw_S : Type := (Nat → Int32) × Option Nat × (Nat → Nat → Int32) × (Nat → Nat → Int64) × (Nat → Nat → Option Nat)
def mw_tab : List (Nat × Nat) := [(101, 800), (0, 0), (100, 5), (0, 0), (109, 50), (100, 50), (100, 50), (100, 50), (102, 300), (100, 300), (102, 300), (100, 300), (100, 300), (0, 0), (100, 4000), (100, 4000), (100, 4000), (100, 4000), (100, 4000), (0, 0), (109, 12), (100, 12), (102, 12), (0, 0), (0, 0), (102, 50), (0, 0), (0, 0), (0, 0), (0, 0), (2, 0), (0, 0), (0, 0), (1, 0), (0, 0), (0, 0), (100, 10), (0, 0), (100, 700), (100, 700), (100, 700), (0, 0), (100, 700), (100, 700), (100, 700), (100, 700), (100, 700), (0, 0), (0, 0), (100, 20), (100, 20), (100, 20), (100, 20), (103, 5), (0, 0), (100, 600), (100, 600), (100, 600), (100, 600), (100, 2400), (103, 3000), (0, 0), (0, 0), (2, 0), (0, 0), (0, 0), (0, 0), (0, 0), (0, 0), (100, 500), (100, 500), (100, 500), (0, 0), (100, 500)]
def mw_k (j : Nat) : Nat := (mw_tab.getD j (0, 0)).1
def mw_n (j : Nat) : Nat := (mw_tab.getD j (0, 0)).2
def mw_f (ad : Nat → Nat) (M : mw_S) (j : Nat) : Value := match mw_k j with
  | 0 => .int (M.1 j)
  | 2 => .int (M.1 j)
  | 1 => va_rf M.2.1
  | _ => .ref (ad j)
def mw_c (M : mw_S) (j : Nat) : List Value := match mw_k j with
  | 103 => (List.range (mw_n j)).map (fun i => .long (M.2.2.2.1 j i))
  | 109 => (List.range (mw_n j)).map (fun i => va_rf (M.2.2.2.2 j i))
  | _ => (List.range (mw_n j)).map (fun i => .int (M.2.2.1 j i))
def mw_u {α : Type} (f : Nat → α) (j : Nat) (x : α) : Nat → α := fun i => if i = j then x else f i
def mw_u2 {α : Type} (f : Nat → Nat → α) (j k : Nat) (x : α) : Nat → Nat → α := fun i l => if i = j ∧ l = k then x else f i l
def mw_setS (M : mw_S) (j : Nat) (x : Int32) : mw_S := (mw_u M.1 j x, M.2)
def mw_setN (M : mw_S) (r : Option Nat) : mw_S := (M.1, r, M.2.2)
def mw_setV (M : mw_S) (j k : Nat) (x : Int32) : mw_S := (M.1, M.2.1, mw_u2 M.2.2.1 j k x, M.2.2.2)
def mw_setW (M : mw_S) (j k : Nat) (x : Int64) : mw_S := (M.1, M.2.1, M.2.2.1, mw_u2 M.2.2.2.1 j k x, M.2.2.2.2)
def mw_setU (M : mw_S) (j k : Nat) (x : Option Nat) : mw_S := (M.1, M.2.1, M.2.2.1, M.2.2.2.1, mw_u2 M.2.2.2.2 j k x)
def mw_B (M : mw_S) : Prop := (∀ j i, mw_k j = 102 → M.2.2.1 j i = 0 ∨ M.2.2.1 j i = 1) ∧ ∀ j, mw_k j = 2 → M.1 j = 0 ∨ M.1 j = 1
/-- the cells of the reference's object m with its arrays at ad; all other cells are as in h0 -/
def mw_W (m : Nat) (ad : Nat → Nat) (h0 : mm_H) (M : mw_S) (h : mm_H) : Prop :=
  h.1 m = some (12, (List.range 74).map (mw_f ad M)) ∧ (∀ j, j < 74 → 100 ≤ mw_k j → h.1 (ad j) = some (mw_k j, mw_c M j)) ∧
  (∀ i j, i < 74 → j < 74 → 100 ≤ mw_k i → 100 ≤ mw_k j → ad i = ad j → i = j) ∧ (∀ j, j < 74 → 100 ≤ mw_k j → ¬ ad j = m) ∧ (∀ a, ¬ a = m → (∀ j, j < 74 → 100 ≤ mw_k j → ¬ a = ad j) → a < h0.2.1 → h.1 a = h0.1 a) ∧ h0.2.1 ≤ h.2.1 ∧ h0.2.2 ≤ h.2.2 ∧ m < h0.2.1 ∧ (∀ j, j < 74 → 100 ≤ mw_k j → ad j < h0.2.1) ∧ mw_B M
theorem mw_rangeG {α : Type} (f : Nat → α) {n k : Nat} (h : k < n) : ((List.range n).map f)[k]? = some (f k) := by
  rw [List.getElem?_map, List.getElem?_range h]
  rfl
theorem mw_rangeS {α : Type} (f : Nat → α) {n k : Nat} (x : α) : ((List.range n).map f).set k x = (List.range n).map (mw_u f k x) := by
  refine List.ext_getElem? (fun i => ?_)
  by_cases hi : i < n
  · rw [mw_rangeG _ hi]
    by_cases e : k = i
    · subst e
      rw [List.getElem?_set_self (by simpa using hi)]
      simp [mw_u]
    · rw [List.getElem?_set_ne e, mw_rangeG _ hi]
      simp [mw_u, Ne.symm e]
  · rw [List.getElem?_eq_none (by simpa using hi), List.getElem?_eq_none (by simpa using hi)]
theorem mw_mapc {α : Type} {f g : Nat → α} {n : Nat} (h : ∀ i, i < n → f i = g i) : (List.range n).map f = (List.range n).map g := by
  refine List.ext_getElem? (fun i => ?_)
  by_cases hi : i < n
  · rw [mw_rangeG _ hi, mw_rangeG _ hi, h i hi]
  · rw [List.getElem?_eq_none (by simpa using hi), List.getElem?_eq_none (by simpa using hi)]
section MWR
variable {G : mm_G} {y : mm_M} {A : Nat → Prop} {L : Nat × Nat} {d pc : Nat} {lv : List (Nat × Value)} {st : List Value} {h h0 : mm_H} {Q : Option Value → mm_H → Prop} {m : Nat} {ad : Nat → Nat} {M : mw_S}
theorem mw_get {idx : Nat} (j : Nat) {v : Value} (hW : mw_W m ad h0 M h) (hd : decode y.2.1 pc = .ok (.getfield idx, 3)) (hl0 : mm_fl y.1.cls idx 12 j) (hj : j < 74) (hv : mw_f ad M j = v)
    (k : mm_Run G y A L d (pc + 3) lv (v :: st) h Q) : mm_Run G y A L d pc lv (.ref m :: st) h Q :=
  mm_get hd hl0 hW.1 rfl (by rw [mw_rangeG _ hj, hv]) k
theorem mw_gets {idx : Nat} (j : Nat) (hW : mw_W m ad h0 M h) (hd : decode y.2.1 pc = .ok (.getfield idx, 3)) (hl0 : mm_fl y.1.cls idx 12 j) (hj : Nat.blt j 74 = true) (hk : mw_f ad M j = .int (M.1 j))
    (k : mm_Run G y A L d (pc + 3) lv (.int (M.1 j) :: st) h Q) : mm_Run G y A L d pc lv (.ref m :: st) h Q :=
  mw_get j hW hd hl0 (Nat.le_of_ble_eq_true hj) hk k
theorem mw_geta {idx : Nat} (j : Nat) (hW : mw_W m ad h0 M h) (hd : decode y.2.1 pc = .ok (.getfield idx, 3)) (hl0 : mm_fl y.1.cls idx 12 j) (hj : Nat.blt j 74 = true) (hk : mw_f ad M j = .ref (ad j))
    (k : mm_Run G y A L d (pc + 3) lv (.ref (ad j) :: st) h Q) : mm_Run G y A L d pc lv (.ref m :: st) h Q :=
  mw_get j hW hd hl0 (Nat.le_of_ble_eq_true hj) hk k
theorem mw_getN {idx : Nat} (hW : mw_W m ad h0 M h) (hd : decode y.2.1 pc = .ok (.getfield idx, 3)) (hl0 : mm_fl y.1.cls idx 12 33)
    (k : mm_Run G y A L d (pc + 3) lv (va_rf M.2.1 :: st) h Q) : mm_Run G y A L d pc lv (.ref m :: st) h Q :=
  mw_get 33 hW hd hl0 (by decide) rfl k
theorem mw_upd0 {c : mm_C} {M' : mw_S} (hW : mw_W m ad h0 M h) (hc : c = (12, (List.range 74).map (mw_f ad M'))) (h1 : ∀ j, mw_c M' j = mw_c M j) (hB : mw_B M') : mw_W m ad h0 M' (mm_set h m c) := by
  obtain ⟨w1, w2, w3, w4, w5, w6, w7, w8, w9, w10⟩ := hW
  refine ⟨by rw [hc]; exact mm_set_eq, fun j hj hk => ?_, w3, w4, fun a ha hb hlt => ?_, w6, w7, w8, w9, hB⟩
  · rw [h1 j]
    exact mm_set_ne (w4 j hj hk) (w2 j hj hk)
  · exact mm_set_ne ha (w5 a ha hb hlt)
theorem mw_updj {c : mm_C} {M' : mw_S} {j : Nat} (hW : mw_W m ad h0 M h) (hj : j < 74) (hkj : 100 ≤ mw_k j) (hc : c = (mw_k j, mw_c M' j)) (h0' : mw_f ad M' = mw_f ad M) (h1 : ∀ i, ¬ i = j → mw_c M' i = mw_c M i) (hB : mw_B M') : mw_W m ad h0 M' (mm_set h (ad j) c) := by
  obtain ⟨w1, w2, w3, w4, w5, w6, w7, w8, w9, w10⟩ := hW
  refine ⟨by rw [h0']; exact mm_set_ne (fun e => w4 j hj hkj e.symm) w1, fun i hi hk => ?_, w3, w4, fun a ha hb hlt => mm_set_ne (hb j hj hkj) (w5 a ha hb hlt), w6, w7, w8, w9, hB⟩
  by_cases e : i = j
  · subst e
    rw [hc]
    exact mm_set_eq
  · rw [h1 i e]
    exact mm_set_ne (fun z => e (w3 i j hi hj hk hkj z)) (w2 i hi hk)
theorem mw_fS {j : Nat} {x : Int32} (hk : mw_k j = 0 ∨ mw_k j = 2) : mw_u (mw_f ad M) j (.int x) = mw_f ad (mw_setS M j x) := by
  funext i
  unfold mw_u mw_f mw_setS
  by_cases e : i = j
  · subst e
    rw [if_pos rfl]
    rcases hk with hk | hk <;> rw [hk] <;> simp [mw_u]
  · rw [if_neg e]
    simp [mw_u, e]
theorem mw_fN {r : Option Nat} : mw_u (mw_f ad M) 33 (va_rf r) = mw_f ad (mw_setN M r) := by
  funext i
  unfold mw_u mw_f mw_setN
  by_cases e : i = 33
  · subst e
    rfl
  · rw [if_neg e]
    have hk : mw_k i = 1 → i = 33 := by
      intro hk
      by_cases hi : i < 74
      · have : ∀ i, i < 74 → mw_k i = 1 → i = 33 := by decide +kernel
        exact this i hi hk
      · unfold mw_k at hk
        rw [List.getD_eq_getElem?_getD, List.getElem?_eq_none (by show mw_tab.length ≤ i; exact Nat.not_lt.mp hi)] at hk
        cases hk
    split <;> first | rfl | (rename_i hz; exact absurd (hk hz) e)
theorem mw_BS {j : Nat} {x : Int32} (hB : mw_B M) (hj : mw_k j = 2 → x = 0 ∨ x = 1) : mw_B (mw_setS M j x) := by
  refine ⟨hB.1, fun i hi => ?_⟩
  show mw_u M.1 j x i = 0 ∨ mw_u M.1 j x i = 1
  unfold mw_u
  by_cases e : i = j
  · rw [if_pos e]; exact hj (e ▸ hi)
  · rw [if_neg e]; exact hB.2 i hi
theorem mw_BV {j k : Nat} {x : Int32} (hB : mw_B M) (hj : mw_k j = 102 → x = 0 ∨ x = 1) : mw_B (mw_setV M j k x) := by
  refine ⟨fun i l hi => ?_, hB.2⟩
  show mw_u2 M.2.2.1 j k x i l = 0 ∨ mw_u2 M.2.2.1 j k x i l = 1
  unfold mw_u2
  by_cases e : i = j ∧ l = k
  · rw [if_pos e]; exact hj (e.1 ▸ hi)
  · rw [if_neg e]; exact hB.1 i l hi
theorem mw_W.B (hW : mw_W m ad h0 M h) : mw_B M := hW.2.2.2.2.2.2.2.2.2
theorem mw_put {idx : Nat} (j : Nat) {x : Int32} (hW : mw_W m ad h0 M h) (hd : decode y.2.1 pc = .ok (.putfield idx, 3)) (hl0 : mm_pl y.1.cls y.1.name idx 12 j .int) (hj : mw_k j = 0)
    (k : ∀ h', mw_W m ad h0 (mw_setS M j x) h' → h'.2 = h.2 → mm_Run G y A L d (pc + 3) lv st h' Q) : mm_Run G y A L d pc lv (.int x :: .ref m :: st) h Q :=
  mm_put hd hl0 hW.1 rfl rfl rfl (k _ (mw_upd0 hW (by rw [mw_rangeS, mw_fS (Or.inl hj)]) (fun i => rfl) (mw_BS hW.B (fun z => by rw [hj] at z; cases z))) rfl)
theorem mw_putZ {idx : Nat} (j : Nat) {x : Int32} (hW : mw_W m ad h0 M h) (hd : decode y.2.1 pc = .ok (.putfield idx, 3)) (hl0 : mm_pl y.1.cls y.1.name idx 12 j .boolean) (hj : mw_k j = 2) (hx : x = 0 ∨ x = 1)
    (k : ∀ h', mw_W m ad h0 (mw_setS M j x) h' → h'.2 = h.2 → mm_Run G y A L d (pc + 3) lv st h' Q) : mm_Run G y A L d pc lv (.int x :: .ref m :: st) h Q :=
  mm_put hd hl0 hW.1 rfl (by rcases hx with rfl | rfl <;> rfl) (by rcases hx with rfl | rfl <;> rfl) (k _ (mw_upd0 hW (by rw [mw_rangeS, mw_fS (Or.inr hj)]) (fun i => rfl) (mw_BS hW.B (fun _ => hx))) rfl)
theorem mw_putN {idx : Nat} {r : Option Nat} {ty : FieldType} (hW : mw_W m ad h0 M h) (hd : decode y.2.1 pc = .ok (.putfield idx, 3)) (hl0 : mm_pl y.1.cls y.1.name idx 12 33 ty) (hn : narrow ty (va_rf r) = va_rf r) (hf : fits ty (va_rf r) = true)
    (k : ∀ h', mw_W m ad h0 (mw_setN M r) h' → h'.2 = h.2 → mm_Run G y A L d (pc + 3) lv st h' Q) : mm_Run G y A L d pc lv (va_rf r :: .ref m :: st) h Q :=
  mm_put hd hl0 hW.1 rfl hn hf (k _ (mw_upd0 hW (by rw [mw_rangeS, mw_fN]) (fun i => rfl) hW.B) rfl)
theorem mw_cI {j : Nat} (hk : mw_k j = 100 ∨ mw_k j = 101 ∨ mw_k j = 102) : mw_c M j = (List.range (mw_n j)).map (fun i => .int (M.2.2.1 j i)) := by
  unfold mw_c
  rcases hk with hk | hk | hk <;> rw [hk] <;> rfl
theorem mw_cL {j : Nat} (hk : mw_k j = 103) : mw_c M j = (List.range (mw_n j)).map (fun i => .long (M.2.2.2.1 j i)) := by
  unfold mw_c
  rw [hk]
  rfl
theorem mw_cU {j : Nat} (hk : mw_k j = 109) : mw_c M j = (List.range (mw_n j)).map (fun i => va_rf (M.2.2.2.2 j i)) := by
  unfold mw_c
  rw [hk]
  rfl
theorem mw_iald (j k : Nat) {i : Int32} (hW : mw_W m ad h0 M h) (hd : decode y.2.1 pc = .ok (.iaload, 1)) (hj : Nat.blt j 74 = true) (hk : mw_k j = 100) (hi : i = nI k) (hn : k < mw_n j) (hb : k < 2 ^ 31)
    (kk : mm_Run G y A L d (pc + 1) lv (.int (M.2.2.1 j k) :: st) h Q) : mm_Run G y A L d pc lv (.int i :: .ref (ad j) :: st) h Q := by
  subst hi
  exact mm_iald hd (hW.2.1 j (Nat.le_of_ble_eq_true hj) (by omega)) (by rw [hk]) (nI_pos hb) (by rw [nI_clamp hb, mw_cI (Or.inl hk), mw_rangeG _ hn]) kk
theorem mw_bald (j k : Nat) {i : Int32} (hW : mw_W m ad h0 M h) (hd : decode y.2.1 pc = .ok (.baload, 1)) (hj : Nat.blt j 74 = true) (hk : mw_k j = 101) (hi : i = nI k) (hn : k < mw_n j) (hb : k < 2 ^ 31)
    (kk : mm_Run G y A L d (pc + 1) lv (.int (M.2.2.1 j k) :: st) h Q) : mm_Run G y A L d pc lv (.int i :: .ref (ad j) :: st) h Q := by
  subst hi
  exact mm_bald hd (hW.2.1 j (Nat.le_of_ble_eq_true hj) (by omega)) (by rw [hk]) (nI_pos hb) (by rw [nI_clamp hb, mw_cI (Or.inr (Or.inl hk)), mw_rangeG _ hn]) kk
theorem mw_zald (j k : Nat) {i : Int32} (hW : mw_W m ad h0 M h) (hd : decode y.2.1 pc = .ok (.baload, 1)) (hj : Nat.blt j 74 = true) (hk : mw_k j = 102) (hi : i = nI k) (hn : k < mw_n j) (hb : k < 2 ^ 31)
    (kk : mm_Run G y A L d (pc + 1) lv (.int (M.2.2.1 j k) :: st) h Q) : mm_Run G y A L d pc lv (.int i :: .ref (ad j) :: st) h Q := by
  subst hi
  exact mm_zald hd (hW.2.1 j (Nat.le_of_ble_eq_true hj) (by omega)) (by rw [hk]) (nI_pos hb) (by rw [nI_clamp hb, mw_cI (Or.inr (Or.inr hk)), mw_rangeG _ hn]) kk
theorem mw_lald (j k : Nat) {i : Int32} (hW : mw_W m ad h0 M h) (hd : decode y.2.1 pc = .ok (.laload, 1)) (hj : Nat.blt j 74 = true) (hk : mw_k j = 103) (hi : i = nI k) (hn : k < mw_n j) (hb : k < 2 ^ 31)
    (kk : mm_Run G y A L d (pc + 1) lv (.long (M.2.2.2.1 j k) :: st) h Q) : mm_Run G y A L d pc lv (.int i :: .ref (ad j) :: st) h Q := by
  subst hi
  exact mm_lald hd (hW.2.1 j (Nat.le_of_ble_eq_true hj) (by omega)) (by rw [hk]) (nI_pos hb) (by rw [nI_clamp hb, mw_cL hk, mw_rangeG _ hn]) kk
theorem mw_aald (j k : Nat) {i : Int32} (hW : mw_W m ad h0 M h) (hd : decode y.2.1 pc = .ok (.aaload, 1)) (hj : Nat.blt j 74 = true) (hk : mw_k j = 109) (hi : i = nI k) (hn : k < mw_n j) (hb : k < 2 ^ 31)
    (kk : mm_Run G y A L d (pc + 1) lv (va_rf (M.2.2.2.2 j k) :: st) h Q) : mm_Run G y A L d pc lv (.int i :: .ref (ad j) :: st) h Q := by
  subst hi
  exact mm_aald (t := 9) hd (hW.2.1 j (Nat.le_of_ble_eq_true hj) (by omega)) (by rw [hk]) rfl rfl (nI_pos hb) (by rw [nI_clamp hb, mw_cU hk, mw_rangeG _ hn]) kk
theorem mw_cVne {i j k : Nat} {x : Int32} (e : ¬ i = j) : mw_c (mw_setV M j k x) i = mw_c M i := by
  unfold mw_c mw_setV
  split
  · rfl
  · rfl
  · refine mw_mapc (fun l _ => ?_)
    show Value.int (mw_u2 M.2.2.1 j k x i l) = _
    unfold mw_u2
    rw [if_neg (fun z => e z.1)]
theorem mw_cWne {i j k : Nat} {x : Int64} (e : ¬ i = j) : mw_c (mw_setW M j k x) i = mw_c M i := by
  unfold mw_c mw_setW
  split
  · refine mw_mapc (fun l _ => ?_)
    show Value.long (mw_u2 M.2.2.2.1 j k x i l) = _
    unfold mw_u2
    rw [if_neg (fun z => e z.1)]
  · rfl
  · rfl
theorem mw_cUne {i j k : Nat} {x : Option Nat} (e : ¬ i = j) : mw_c (mw_setU M j k x) i = mw_c M i := by
  unfold mw_c mw_setU
  split
  · rfl
  · refine mw_mapc (fun l _ => ?_)
    show va_rf (mw_u2 M.2.2.2.2 j k x i l) = _
    unfold mw_u2
    rw [if_neg (fun z => e z.1)]
  · rfl
theorem mw_cVeq {j k : Nat} {x : Int32} (hk : mw_k j = 100 ∨ mw_k j = 101 ∨ mw_k j = 102) : (mw_c M j).set k (.int x) = mw_c (mw_setV M j k x) j := by
  rw [mw_cI hk, mw_cI hk, mw_rangeS]
  refine mw_mapc (fun l _ => ?_)
  show mw_u _ k _ l = Value.int (mw_u2 M.2.2.1 j k x j l)
  unfold mw_u mw_u2
  by_cases e : l = k
  · rw [if_pos e, if_pos ⟨rfl, e⟩]
  · rw [if_neg e, if_neg (fun z => e z.2)]
theorem mw_cWeq {j k : Nat} {x : Int64} (hk : mw_k j = 103) : (mw_c M j).set k (.long x) = mw_c (mw_setW M j k x) j := by
  rw [mw_cL hk, mw_cL hk, mw_rangeS]
  refine mw_mapc (fun l _ => ?_)
  show mw_u _ k _ l = Value.long (mw_u2 M.2.2.2.1 j k x j l)
  unfold mw_u mw_u2
  by_cases e : l = k
  · rw [if_pos e, if_pos ⟨rfl, e⟩]
  · rw [if_neg e, if_neg (fun z => e z.2)]
theorem mw_cUeq {j k : Nat} {x : Option Nat} (hk : mw_k j = 109) : (mw_c M j).set k (va_rf x) = mw_c (mw_setU M j k x) j := by
  rw [mw_cU hk, mw_cU hk, mw_rangeS]
  refine mw_mapc (fun l _ => ?_)
  show mw_u _ k _ l = va_rf (mw_u2 M.2.2.2.2 j k x j l)
  unfold mw_u mw_u2
  by_cases e : l = k
  · rw [if_pos e, if_pos ⟨rfl, e⟩]
  · rw [if_neg e, if_neg (fun z => e z.2)]
theorem mw_len (j : Nat) : (mw_c M j).length = mw_n j := by
  unfold mw_c
  split <;> simp
theorem mw_iast (j k : Nat) {i : Int32} {x : Int32} (hW : mw_W m ad h0 M h) (hd : decode y.2.1 pc = .ok (.iastore, 1)) (hj : Nat.blt j 74 = true) (hk : mw_k j = 100) (hi : i = nI k) (hn : k < mw_n j) (hb : k < 2 ^ 31)
    (kk : ∀ h', mw_W m ad h0 (mw_setV M j k x) h' → h'.2 = h.2 → mm_Run G y A L d (pc + 1) lv st h' Q) : mm_Run G y A L d pc lv (.int x :: .int i :: .ref (ad j) :: st) h Q := by
  subst hi
  have hj2 : j < 74 := Nat.le_of_ble_eq_true hj
  refine mm_iast hd (hW.2.1 j hj2 (by omega)) hk (nI_pos hb) (by rw [nI_clamp hb, mw_len]; exact hn) (kk _ ?_ rfl)
  rw [nI_clamp hb]
  exact mw_updj hW hj2 (by omega) (by rw [mw_cVeq (Or.inl hk)]) rfl (fun i e => mw_cVne e) (mw_BV hW.B (fun z => by rw [hk] at z; cases z))
theorem mw_bast (j k : Nat) {i : Int32} {x x' : Int32} (hW : mw_W m ad h0 M h) (hd : decode y.2.1 pc = .ok (.bastore, 1)) (hj : Nat.blt j 74 = true) (hk : mw_k j = 101) (hi : i = nI k) (hn : k < mw_n j) (hb : k < 2 ^ 31) (hx : narrow .byte (.int x) = .int x')
    (kk : ∀ h', mw_W m ad h0 (mw_setV M j k x') h' → h'.2 = h.2 → mm_Run G y A L d (pc + 1) lv st h' Q) : mm_Run G y A L d pc lv (.int x :: .int i :: .ref (ad j) :: st) h Q := by
  subst hi
  have hj2 : j < 74 := Nat.le_of_ble_eq_true hj
  refine mm_bast hd (hW.2.1 j hj2 (by omega)) hk (nI_pos hb) (by rw [nI_clamp hb, mw_len]; exact hn) (kk _ ?_ rfl)
  rw [nI_clamp hb, hx]
  exact mw_updj hW hj2 (by omega) (by rw [mw_cVeq (Or.inr (Or.inl hk))]) rfl (fun i e => mw_cVne e) (mw_BV hW.B (fun z => by rw [hk] at z; cases z))
theorem mw_zast (j k : Nat) {i : Int32} {x : Int32} (hW : mw_W m ad h0 M h) (hd : decode y.2.1 pc = .ok (.bastore, 1)) (hj : Nat.blt j 74 = true) (hk : mw_k j = 102) (hi : i = nI k) (hn : k < mw_n j) (hb : k < 2 ^ 31) (hx : x = 0 ∨ x = 1)
    (kk : ∀ h', mw_W m ad h0 (mw_setV M j k x) h' → h'.2 = h.2 → mm_Run G y A L d (pc + 1) lv st h' Q) : mm_Run G y A L d pc lv (.int x :: .int i :: .ref (ad j) :: st) h Q := by
  subst hi
  have hj2 : j < 74 := Nat.le_of_ble_eq_true hj
  refine mm_zast hd (hW.2.1 j hj2 (by omega)) hk (nI_pos hb) (by rw [nI_clamp hb, mw_len]; exact hn) (kk _ ?_ rfl)
  rw [nI_clamp hb, show narrow .boolean (.int x) = .int x by rcases hx with rfl | rfl <;> rfl]
  exact mw_updj hW hj2 (by omega) (by rw [mw_cVeq (Or.inr (Or.inr hk))]) rfl (fun i e => mw_cVne e) (mw_BV hW.B (fun _ => hx))
theorem mw_last (j k : Nat) {i : Int32} {x : Int64} (hW : mw_W m ad h0 M h) (hd : decode y.2.1 pc = .ok (.lastore, 1)) (hj : Nat.blt j 74 = true) (hk : mw_k j = 103) (hi : i = nI k) (hn : k < mw_n j) (hb : k < 2 ^ 31)
    (kk : ∀ h', mw_W m ad h0 (mw_setW M j k x) h' → h'.2 = h.2 → mm_Run G y A L d (pc + 1) lv st h' Q) : mm_Run G y A L d pc lv (.long x :: .int i :: .ref (ad j) :: st) h Q := by
  subst hi
  have hj2 : j < 74 := Nat.le_of_ble_eq_true hj
  refine mm_last hd (hW.2.1 j hj2 (by omega)) hk (nI_pos hb) (by rw [nI_clamp hb, mw_len]; exact hn) (kk _ ?_ rfl)
  rw [nI_clamp hb]
  exact mw_updj hW hj2 (by omega) (by rw [mw_cWeq hk]) rfl (fun i e => mw_cWne e) hW.B
theorem mw_aast (j k : Nat) {i : Int32} {b kb : Nat} {fs : List Value} (hW : mw_W m ad h0 M h) (hd : decode y.2.1 pc = .ok (.aastore, 1)) (hj : Nat.blt j 74 = true) (hk : mw_k j = 109) (hbb : h.1 b = some (kb, fs)) (hkb : kb % 200 = 13) (hi : i = nI k) (hn : k < mw_n j) (hb : k < 2 ^ 31)
    (kk : ∀ h', mw_W m ad h0 (mw_setU M j k (some b)) h' → h'.2 = h.2 → mm_Run G y A L d (pc + 1) lv st h' Q) : mm_Run G y A L d pc lv (.ref b :: .int i :: .ref (ad j) :: st) h Q := by
  subst hi
  have hj2 : j < 74 := Nat.le_of_ble_eq_true hj
  refine mm_aast (t := 9) hd (hW.2.1 j hj2 (by omega)) hk rfl hbb hkb rfl rfl (nI_pos hb) (by rw [nI_clamp hb, mw_len]; exact hn) (kk _ ?_ rfl)
  rw [nI_clamp hb]
  exact mw_updj hW hj2 (by omega) (by rw [show (Value.ref b) = va_rf (some b) from rfl, mw_cUeq hk]) rfl (fun i e => mw_cUne e) hW.B
theorem mm_topi {x : Int32} (x' : Int32) (e : x = x') (k : mm_Run G y A L d pc lv (.int x' :: st) h Q) : mm_Run G y A L d pc lv (.int x :: st) h Q := by
  subst e
  exact k
end MWR
