/-! what holds of the reference's memory between calls -/
def wB (M : mw_S) (a : Nat) (x y : Int32) : Prop := (∃ w, x = nI w ∧ nI w ≤ M.2.2.1 50 a ∧ w ≤ 10000) ∧ ∃ t, y = nI t ∧ t ≤ 100000
/-- what the records remember is within bounds -/
def rm_B (M : mw_S) (na ne : Nat) : Prop := ∀ e, e < ne → ∃ a b, a < na ∧ b < na ∧ M.2.2.1 56 e = nI a ∧ M.2.2.1 58 e = nI b ∧ wB M a (M.2.2.1 59 (4 * e)) (M.2.2.1 59 (4 * e + 1)) ∧ wB M b (M.2.2.1 59 (4 * e + 2)) (M.2.2.1 59 (4 * e + 3))
def pjA (M : mw_S) (ab : Nat → Option Nat) (nk : Nat) : Prop := (∃ oK oQ, rm_A M nk (ka M) ab oK oQ) ∧ cvA_ M nk (ka M) ∧ rn_H M ∧ 0 < nk ∧ ∀ K, K < nk → Ae ab K 0
def pjN (M : mw_S) (np k : Nat) : Prop := (∃ tb, tp M tb) ∧ (∃ n a0, M.1 1 = nI n ∧ n ≤ 800 ∧ M.1 13 = nI a0 ∧ 2 * a0 + n ≤ 20 + 8 * k) ∧ ∃ g0, M.1 111 = nI g0 ∧ g0 ≤ 9 + 700 * np
def pjP (M : mw_S) (nk np : Nat) : Prop := hmP M np ∧ ∀ i, i < nk → M.2.2.1 7 i < 0 ∨ ∃ p, p < np ∧ M.2.2.1 7 i = nI p
def pjV (M : mw_S) (ab : Nat → Option Nat) (nk na ne k : Nat) : Prop := rm_V M nk na ab ∧ rm_B M na ne ∧ ne ≤ k
def PJ (M : mw_S) (ab : Nat → Option Nat) (nk np na ne k : Nat) : Prop := pjA M ab nk ∧ pjN M np k ∧ pjP M nk np ∧ pjV M ab nk na ne k
def gA_ (j : Nat) : Bool := Nat.ble 5 j && Nat.ble j 18
def gB_ (j : Nat) : Bool := Nat.ble 49 j && Nat.ble j 59
def gP_ (j : Nat) : Bool := Nat.beq j 7 || Nat.beq j 21 || Nat.beq j 23
def gN_ (j : Nat) : Bool := Nat.ble j 1 || Nat.beq j 13 || Nat.beq j 111
section PJS
variable {M M' : mw_S} {ab : Nat → Option Nat} {nk np na ne k n a b : Nat} {oK oQ : Nat → Nat} {what x wi wo hi : Int32}
theorem rm_A_nf : rm_A M nk n ab oK oQ ↔ rm_A (nM gA_ M) nk n ab oK oQ := Iff.rfl
theorem rm_V_nf : rm_V M nk na ab ↔ rm_V (nM gB_ M) nk na ab := Iff.rfl
theorem rm_B_nf : rm_B M na ne ↔ rm_B (nM gB_ M) na ne := Iff.rfl
theorem pjP_nf : pjP M nk np ↔ pjP (nM gP_ M) nk np := Iff.rfl
theorem pjN_nf : pjN M np k ↔ pjN (nM gN_ M) np k := Iff.rfl
theorem pjP.nf (h : pjP M nk np) (c : nM gP_ M' = nM gP_ M) : pjP M' nk np := pjP_nf.mpr (by rw [c]; exact pjP_nf.mp h)
theorem pjN.nf (h : pjN M np k) (c : nM gN_ M' = nM gN_ M) : pjN M' np k := pjN_nf.mpr (by rw [c]; exact pjN_nf.mp h)
theorem pjN.k1 (h : pjN M np k) : pjN M np (k + 1) := by
  obtain ⟨a, ⟨n, a0, b1, b2, b3, b4⟩, c⟩ := h
  exact ⟨a, ⟨n, a0, b1, b2, b3, by omega⟩, c⟩
theorem rm_V.nf (h : rm_V M nk na ab) (c : nM gB_ M' = nM gB_ M) : rm_V M' nk na ab := rm_V_nf.mpr (by rw [c]; exact rm_V_nf.mp h)
theorem rm_B.nf (h : rm_B M na ne) (c : nM gB_ M' = nM gB_ M) : rm_B M' na ne := rm_B_nf.mpr (by rw [c]; exact rm_B_nf.mp h)
theorem pjV.nf (h : pjV M ab nk na ne k) (c : nM gB_ M' = nM gB_ M) : pjV M' ab nk na ne (k + 1) := ⟨h.1.nf c, h.2.1.nf c, Nat.le_succ_of_le h.2.2⟩
theorem pjA.nf (h : pjA M ab nk) (c : nM gA_ M' = nM gA_ M) (h13 : M'.1 13 = M.1 13) (hg : ∀ j, 80 ≤ j → j ≤ 83 → M'.2.2.1 j = M.2.2.1 j) : pjA M' ab nk := by
  obtain ⟨⟨oK, oQ, hA⟩, hcv, hH, h0, hAe⟩ := h
  have ek : ka M' = ka M := by unfold ka; rw [h13]
  have V : ∀ j, 5 ≤ j → j ≤ 18 → M'.2.2.1 j = M.2.2.1 j := fun j h1 h2 => by
    have e := congrArg (fun z : mw_S => z.2.2.1 j) c
    have e : (bif gA_ j then M'.2.2.1 j else fun _ => 0) = (bif gA_ j then M.2.2.1 j else fun _ => 0) := e
    have g : gA_ j = true := by unfold gA_; rw [Bool.and_eq_true_iff]; exact ⟨Nat.ble_eq_true_of_le h1, Nat.ble_eq_true_of_le h2⟩
    rw [g] at e
    exact e
  refine ⟨⟨oK, oQ, by rw [ek]; exact rm_A_nf.mpr (by rw [c]; exact rm_A_nf.mp hA)⟩, ?_, fun q hq => ?_, h0, hAe⟩
  · intro k q hk hq hh
    have e8 : rm_has M' q k = rm_has M q k := by unfold rm_has; rw [V 8 (by decide) (by decide)]
    rw [e8] at hh
    obtain ⟨s, e, he, hc⟩ := hcv k q hk hq hh
    refine ⟨s, e, by rw [ek]; exact he, ?_⟩
    rw [V 11 (by decide) (by decide)]
    refine hc.same (fun j i _ _ c => ?_)
    by_cases z : j ≤ 18
    · rw [V j (by omega) z]
    · rw [hg j (by omega) (by omega)]
  · unfold rm_has; rw [V 8 (by decide) (by decide)]; exact hH q hq
/-- the ways that touch neither kinds nor packs nor the tape -/
theorem PJ.of (h : PJ M ab nk np na ne k) {na' ne' : Nat} (c : nM gA_ M' = nM gA_ M) (hg : ∀ j, 80 ≤ j → j ≤ 83 → M'.2.2.1 j = M.2.2.1 j) (cP : nM gP_ M' = nM gP_ M) (cN : nM gN_ M' = nM gN_ M) (hV : pjV M' ab nk na' ne' (k + 1)) : PJ M' ab nk np na' ne' (k + 1) := by
  refine ⟨h.1.nf c ?_ hg, (h.2.1.nf cN).k1, h.2.2.1.nf cP, hV⟩
  have e := congrArg (fun z : mw_S => z.1 13) cN
  exact e
/-- an answer was given and nothing else -/
theorem PJ.ans (h : PJ M ab nk np na ne k) {c : Nat} : PJ (rm_ans M c) ab nk np na ne (k + 1) := by
  unfold rm_ans
  split
  · exact h.of rfl (fun _ _ _ => rfl) rfl rfl ⟨h.2.2.2.1, h.2.2.2.2.1, Nat.le_succ_of_le h.2.2.2.2.2⟩
  · exact h.of (nM_setV rfl) (fun j a b => mw_u2_row (by omega)) (nM_setV rfl) (nM_setV rfl) (h.2.2.2.nf (nM_setV rfl))
theorem PJ.ret (h : PJ M ab nk np na ne k) {p : Nat} : PJ (mw_setV M 22 p 1) ab nk np na ne (k + 1) := h.of (nM_setV rfl) (fun j a b => mw_u2_row (by omega)) (nM_setV rfl) (nM_setV rfl) (h.2.2.2.nf (nM_setV rfl))
theorem PJ.r25 {g : Nat → Int32} (h : PJ M ab nk np na ne k) : PJ (mw_r25 M g) ab nk np na ne k := by
  have c : ∀ {p : Nat → Bool}, p 25 = false → nM p (mw_r25 M g) = nM p M := fun hp => nM_eq (fun j hj => ⟨rfl, funext fun i => if_neg (fun z => by rw [z, hp] at hj; cases hj), rfl⟩)
  refine ⟨h.1.nf (c rfl) rfl (fun j a b => funext fun i => if_neg (by omega)), h.2.1.nf (c rfl), h.2.2.1.nf (c rfl), h.2.2.2.1.nf (c rfl), h.2.2.2.2.1.nf (c rfl), h.2.2.2.2.2⟩
/-- a record more -/
theorem rm_B.en (h : rm_B M na ne) (hv : rm_V M nk na ab) (ha : a < na) (hb : b < na) (hM : enM M M' na ne a b what x wi wo hi) (h50 : ∀ i, M'.2.2.1 50 i = M.2.2.1 50 i) : rm_B M' na (ne + 1) := by
  obtain ⟨-, ⟨-, m56, -, m58⟩, mo, ⟨k0, k1, k2, k3⟩, ko, -⟩ := hM
  have w : ∀ a y z, wB M a y z → wB M' a y z := fun a y z q => by unfold wB; rw [h50]; exact q
  have v : ∀ i, i < na → wB M i (M.2.2.1 51 i) (M.2.2.1 52 i) := fun i hi => by
    obtain ⟨K, -, -, -, p, q, -⟩ := hv i hi
    exact ⟨p, q⟩
  intro e he
  by_cases y : e = ne
  · subst y
    exact ⟨a, b, ha, hb, m56, m58, by rw [k0, k1]; exact w _ _ _ (v a ha), by rw [k2, k3]; exact w _ _ _ (v b hb)⟩
  · have he : e < ne := by omega
    obtain ⟨a', b', q1, q2, q3, q4, q5, q6⟩ := h e he
    obtain ⟨-, z2, -, z4⟩ := mo e he
    exact ⟨a', b', q1, q2, z2.trans q3, z4.trans q4, by rw [ko _ (by omega), ko _ (by omega)]; exact w _ _ _ q5, by rw [ko _ (by omega), ko _ (by omega)]; exact w _ _ _ q6⟩
/-- vessels, behind a change of two -/
theorem rm_V.en (hv : rm_V M nk na ab) (ha : wB M a (M'.2.2.1 51 a) (M'.2.2.1 52 a)) (hb : wB M b (M'.2.2.1 51 b) (M'.2.2.1 52 b)) (ho : ∀ i, i < na → ¬ i = a → ¬ i = b → M'.2.2.1 51 i = M.2.2.1 51 i ∧ M'.2.2.1 52 i = M.2.2.1 52 i) (h49 : ∀ i, M'.2.2.1 49 i = M.2.2.1 49 i) (h50 : ∀ i, M'.2.2.1 50 i = M.2.2.1 50 i) : rm_V M' nk na ab := by
  intro i hi
  obtain ⟨K, p1, p2, p3, p4, p5, p6⟩ := hv i hi
  refine ⟨K, (h49 i).trans p1, p2, p3, ?_⟩
  rw [h50 i]
  by_cases ia : i = a
  · subst ia; exact ⟨ha.1, ha.2, p6⟩
  · by_cases ib : i = b
    · subst ib; exact ⟨hb.1, hb.2, p6⟩
    · rw [(ho i hi ia ib).1, (ho i hi ia ib).2]; exact ⟨p4, p5, p6⟩
end PJS
