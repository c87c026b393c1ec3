/-! the memory behind both constructors -/
def MF (x y z : Nat) : mw_S := inC (inB (inA ip_M x) y) z
def gTab : List (Nat × List Nat) := [(81, [0, 0, 0, 0, 0, 0, 1, 1, 2, 2]), (82, [0, 1, 2, 3, 4, 5, 4, 4, 2, 2]), (97, [0, 1, 2, 3, 4, 5, 0, 0, 0, 0, 6, 0, 0, 0, 7]), (98, [0, 0, 0, 0, 0, 0, 1, 2]), (99, [0, 1, 2, 3, 4, 5, 4, 2]), (108, [0, 1, 2, 3, 4, 5, 6, 8]), (109, [1, 1, 1, 1, 1, 1, 2, 2]), (112, [0, 1, 1, 1, 2, 0, 2, 1]), (113, [0, 0, 0, 0, 0, 0, 0, 1])]
def vG (j i : Nat) : Int32 := if j < 74 then (MF 0 0 0).2.2.1 j i else match gTab.find? (fun p => Nat.beq p.1 j) with
  | some p => nI (p.2.getD i 0)
  | none => 0
def sG (j : Nat) : Int32 := if j = 111 then 8 else (MF 0 0 0).1 j
def kNm : List (List Nat) := [[115, 116, 105, 108, 108], [112, 111, 116], [99, 111, 108, 117, 109, 110]]
def wG (j i : Nat) : Int64 := if j = 100 then spL (kNm.getD i []) else 0
def MG (x y z : Nat) : mw_S := (sG, none, vG, wG, (MF x y z).2.2.2.2)
def ab3 (i : Nat) : Option Nat := if i = 1 then some 0 else if i = 2 then some 1 else none
theorem MG_V {x y z j : Nat} (h : j < 74) : (MG x y z).2.2.1 j = (MF x y z).2.2.1 j := funext fun i => if_pos h
theorem kf_3 : kf_ok ab3 3 := fun i j hi h => by
  unfold ab3 at h
  split at h
  · cases h; omega
  · split at h
    · cases h; omega
    · cases h
/-- bodies: kind, hook, right, last, first action, how many -/
theorem vG_b : ∀ g, g < 8 → vG 107 g = 0 ∧ vG 98 g = nI ([0, 0, 0, 0, 0, 0, 1, 2].getD g 0) ∧ vG 99 g = nI ([0, 1, 2, 3, 4, 5, 4, 2].getD g 0) ∧ vG 112 g = nI ([0, 1, 1, 1, 2, 0, 2, 1].getD g 0) ∧ vG 113 g = nI ([0, 0, 0, 0, 0, 0, 0, 1].getD g 0) ∧ vG 108 g = nI ([0, 1, 2, 3, 4, 5, 6, 8].getD g 0) ∧ vG 109 g = nI ([1, 1, 1, 1, 1, 1, 2, 2].getD g 0) := by decide +kernel
theorem vG_a : ∀ a, a < 10 → vG 14 a = nI ([3, 3, 3, 3, 3, 3, 1, 3, 1, 4].getD a 0) ∧ vG 15 a = nI ([0, 1, 2, 3, 4, 5, 0, 14, 0, 1].getD a 0) ∧ vG 83 a = 0 ∧ vG 16 a = -1 ∧ vG 17 a = -1 ∧ vG 18 a = (if a = 6 then 7 else if a = 8 then 9 else -1) ∧ vG 81 a = nI ([0, 0, 0, 0, 0, 0, 1, 1, 2, 2].getD a 0) ∧ vG 82 a = nI ([0, 1, 2, 3, 4, 5, 4, 4, 2, 2].getD a 0) := by decide +kernel
theorem vG_k : ∀ i, i < 3 → vG 5 i = 0 ∧ vG 7 i = -7 ∧ vG 6 i = oI (ab3 i) := by decide +kernel
def hG3 (i q : Nat) : Bool := Nat.beq i 0 || (Nat.beq i 1 && Nat.beq q 4) || (Nat.beq i 2 && Nat.beq q 2)
theorem vG_h : ∀ i, i < 3 → ∀ q, q < 6 → (decide (vG 8 (6 * i + q) = 1) = hG3 i q) ∧ (hG3 i q = true → vG 97 (6 * i + q) = nI (if i = 0 then q else i + 5) ∧ vG 9 (6 * i + q) = vG 112 (if i = 0 then q else i + 5) ∧ vG 10 (6 * i + q) = vG 113 (if i = 0 then q else i + 5) ∧ vG 11 (6 * i + q) = vG 108 (if i = 0 then q else i + 5) ∧ vG 12 (6 * i + q) = vG 109 (if i = 0 then q else i + 5)) := by decide +kernel
section MGS
variable {x y z : Nat} {ab : Nat → Option Nat}
theorem has_G {i q : Nat} (hi : i < 3) (hq : q < 6) : rm_has (MG x y z) q i = hG3 i q := (vG_h i hi q hq).1
theorem gb_G {i q : Nat} (hi : i < 3) (hq : q < 6) (h : rm_has (MG x y z) q i = true) : gb (MG x y z) i q = if i = 0 then q else i + 5 := by
  rw [has_G hi hq] at h
  unfold gb
  rw [show (MG x y z).2.2.1 97 (6 * i + q) = _ from ((vG_h i hi q hq).2 h).1, nI_clamp (by split <;> omega)]
theorem yK_G {g : Nat} (h : g < 8) : yK (MG x y z) g = [0, 0, 0, 0, 0, 0, 1, 2].getD g 0 := by
  unfold yK
  rw [show (MG x y z).2.2.1 98 g = _ from (vG_b g h).2.1]
  have : ∀ g, g < 8 → (nI ([0, 0, 0, 0, 0, 0, 1, 2].getD g 0)).toNatClampNeg = [0, 0, 0, 0, 0, 0, 1, 2].getD g 0 := by decide +kernel
  exact this g h
/-- bodies in the memory with g of them -/
theorem hBm_G {i g : Nat} {S : Nat → Int32} (hS : S 111 = nI g) (hg : g ≤ 8) (hi : i < 3) (hig : (if i = 0 then 6 else i + 6) ≤ g) : hBm (S, none, vG, wG, (MF x y z).2.2.2.2) i := by
  intro q hq hh
  have hh : rm_has (MG x y z) q i = true := hh
  rw [has_G hi hq] at hh
  obtain ⟨v1, v2, v3, v4, v5⟩ := (vG_h i hi q hq).2 hh
  have hb : (if i = 0 then q else i + 5) < g := by
    split
    · rename_i e; rw [if_pos e] at hig; omega
    · rename_i e; rw [if_neg e] at hig; omega
  have hb8 : (if i = 0 then q else i + 5) < 8 := by omega
  refine ⟨_, v1, ?_, ?_, ?_, v2, v3, v4, v5⟩
  · show _ < (S 111).toNatClampNeg
    rw [hS, nI_clamp (by omega)]; exact hb
  · show yK (MG x y z) _ = i
    rw [yK_G hb8]
    have : ∀ i, i < 3 → ∀ q, q < 6 → hG3 i q = true → [0, 0, 0, 0, 0, 0, 1, 2].getD (if i = 0 then q else i + 5) 0 = i := by decide +kernel
    exact this i hi q hq hh
  · show vG 99 _ = _
    rw [(vG_b _ hb8).2.2.1]
    have : ∀ i, i < 3 → ∀ q, q < 6 → hG3 i q = true → [0, 1, 2, 3, 4, 5, 4, 2].getD (if i = 0 then q else i + 5) 0 = q := by decide +kernel
    rw [this i hi q hq hh]
end MGS
def gQ4 (f : Nat) : Bool := Nat.beq f 0 || Nat.beq f 1 || Nat.beq f 4 || Nat.beq f 21

def PR (xa : Nat) (ad : Nat → Nat → Nat) (C : cw_C) : Prop := ((cN C 2 = 0 ∧ cN C 3 = 0 ∧ cN C 5 = 0 ∧ cN C 6 = 0 ∧ cN C 9 = 0 ∧ cN C 10 = 0 ∧ cN C 20 = 0) ∧ cN C 7 = 1 ∧ cN C 8 = 1 ∧ cN C 11 = 1 ∧ cN C 12 = 1 ∧ cN C 13 = 1 ∧ cN C 14 = 3 ∧ cN C 15 = 1 ∧ cN C 16 = 1 ∧ cN C 17 = 1 ∧ cN C 18 = 1 ∧ cN C 19 = 1) ∧ (cR C 7 0 2 = some (ad 19 0) ∧ cI C 7 0 3 = 0 ∧ cI C 7 0 4 = 0) ∧ (cR C 11 0 0 = some (ad 12 0) ∧ cI C 11 0 1 = 0 ∧ cI C 11 0 2 = -1 ∧ cR C 11 0 3 = some (ad 7 0) ∧ cR C 11 0 4 = some (ad 16 0) ∧ cI C 11 0 5 = 0 ∧ cR C 11 0 6 = some (ad 8 0) ∧ cR C 11 0 7 = some (ad 17 0) ∧ cI C 11 0 8 = 0 ∧ cR C 11 0 9 = some (ad 13 0)) ∧ (∀ i, cI C 13 0 i = 0) ∧ (∀ i, cI C 12 0 i = 0) ∧ (cI C 8 0 0 = 0 ∧ cI C 8 0 1 = 0 ∧ cI C 8 0 2 = 0 ∧ cI C 8 0 3 = 0 ∧ cR C 8 0 7 = some (ad 14 0) ∧ cR C 8 0 8 = some (ad 14 1) ∧ cR C 8 0 9 = some (ad 14 2) ∧ cR C 8 0 10 = some (ad 15 0)) ∧ ad 11 0 = xa
section PRS
variable {k g a xa : Nat} {ab : Nat → Option Nat} {ad ad1 : Nat → Nat → Nat} {C C1 C2 : cw_C} {M : mw_S}
theorem PR.mn (h : PR xa ad C) (hN : ∀ f, gQ4 f = false → cN C1 f = cN C f) (hA : ∀ f i, gQ4 f = false → i < cN C f → ad1 f i = ad f i) (h8 : C1 8 = C 8) (h11 : C1 11 = C 11) (h12 : C1 12 = C 12) (h13 : C1 13 = C 13) (h72 : cR C1 7 0 2 = cR C 7 0 2) (h73 : cI C1 7 0 3 = cI C 7 0 3) (h74 : cI C1 7 0 4 = cI C 7 0 4) : PR xa ad1 C1 := by
  obtain ⟨⟨⟨c2, c3, c5, c6, c9, c10, c20⟩, d7, d8, d11, d12, d13, d14, d15, d16, d17, d18, d19⟩, ⟨p0, p1, p2⟩, ⟨q0, q1, q2, q3, q4, q5, q6, q7, q8, q9⟩, r, s, ⟨t0, t1, t2, t3, t4, t5, t6, t7⟩, t8⟩ := h
  refine ⟨⟨⟨(hN 2 rfl).trans c2, (hN 3 rfl).trans c3, (hN 5 rfl).trans c5, (hN 6 rfl).trans c6, (hN 9 rfl).trans c9, (hN 10 rfl).trans c10, (hN 20 rfl).trans c20⟩, (hN 7 rfl).trans d7, (hN 8 rfl).trans d8, (hN 11 rfl).trans d11, (hN 12 rfl).trans d12, (hN 13 rfl).trans d13, (hN 14 rfl).trans d14, (hN 15 rfl).trans d15, (hN 16 rfl).trans d16, (hN 17 rfl).trans d17, (hN 18 rfl).trans d18, (hN 19 rfl).trans d19⟩, ⟨?_, h73.trans p1, h74.trans p2⟩, ⟨?_, (cI_o h11).trans q1, (cI_o h11).trans q2, ?_, ?_, (cI_o h11).trans q5, ?_, ?_, (cI_o h11).trans q8, ?_⟩, fun i => (cI_o h13).trans (r i), fun i => (cI_o h12).trans (s i), ⟨(cI_o h8).trans t0, (cI_o h8).trans t1, (cI_o h8).trans t2, (cI_o h8).trans t3, ?_, ?_, ?_, ?_⟩, (hA 11 0 rfl (by omega)).trans t8⟩
  · rw [h72, p0, hA 19 0 rfl (by omega)]
  · rw [cR_o h11, q0, hA 12 0 rfl (by omega)]
  · rw [cR_o h11, q3, hA 7 0 rfl (by omega)]
  · rw [cR_o h11, q4, hA 16 0 rfl (by omega)]
  · rw [cR_o h11, q6, hA 8 0 rfl (by omega)]
  · rw [cR_o h11, q7, hA 17 0 rfl (by omega)]
  · rw [cR_o h11, q9, hA 13 0 rfl (by omega)]
  · rw [cR_o h8, t4, hA 14 0 rfl (by omega)]
  · rw [cR_o h8, t5, hA 14 1 rfl (by omega)]
  · rw [cR_o h8, t6, hA 14 2 rfl (by omega)]
  · rw [cR_o h8, t7, hA 15 0 rfl (by omega)]
theorem PR.st (h : PR xa ad C) (z : fO k g a ad C ad1 C1) : PR xa ad1 C1 := by
  obtain ⟨b1, b2, b3, -⟩ := z
  have e : ∀ f, gQ4 f = false → C1 f = C f := fun f hf => b3 f (fun q => by rw [q] at hf; cases hf) (fun q => by rw [q] at hf; cases hf) (fun q => by rw [q] at hf; cases hf) (fun q => by rw [q] at hf; cases hf)
  exact h.mn (fun f hf => cN_o (e f hf)) (fun f i _ hi => b1 f i hi) (e 8 rfl) (e 11 rfl) (e 12 rfl) (e 13 rfl) (cR_o (e 7 rfl)) (cI_o (e 7 rfl)) (cI_o (e 7 rfl))
/-- a kind is settled and appended -/
def apC (C2 : cw_C) (k x : Nat) : cw_C := cw_sI (cw_sR C2 18 0 k (some x)) 7 0 1 (nI (k + 1))
theorem apC_o {f x : Nat} (h7 : ¬ f = 7) (h18 : ¬ f = 18) : apC C2 k x f = C2 f := by unfold apC; rw [cw_sI_o h7, cw_sR_o h18]
theorem apC_N {f x : Nat} : cN (apC C2 k x) f = cN C2 f := by unfold apC; rw [cw_sI_N, cw_sR_N]
theorem PR.se (h : PR xa ad C) (y : stF C C2 M k) : PR xa ad (apC C2 k (ad 4 k)) := by
  have e : ∀ f, gQ4 f = false → C2 f = C f := fun f hf => y.1 f (fun q => by rw [q] at hf; cases hf) (fun q => by rw [q] at hf; cases hf)
  refine h.mn (fun f hf => by rw [apC_N, cN_o (e f hf)]) (fun _ _ _ _ => rfl) ((apC_o (by decide) (by decide)).trans (e 8 rfl)) ((apC_o (by decide) (by decide)).trans (e 11 rfl)) ((apC_o (by decide) (by decide)).trans (e 12 rfl)) ((apC_o (by decide) (by decide)).trans (e 13 rfl)) ?_ ?_ ?_
  · unfold apC; rw [cR_sI, cR_sR_n (by omega), cR_o (e 7 rfl)]
  · unfold apC; rw [cI_sI_n (by omega), cI_sR, cI_o (e 7 rfl)]
  · unfold apC; rw [cI_sI_n (by omega), cI_sR, cI_o (e 7 rfl)]
theorem RG.se (h : RG k ad C) (y : stF C C2 M k) (n4 : cN C 4 = k + 1) : RG (k + 1) ad (apC C2 k (ad 4 k)) := by
  obtain ⟨⟨n7, n18⟩, r0, r1, _, r2⟩ := h
  have e7 := y.1 7 (by decide) (by decide)
  have e18 := y.1 18 (by decide) (by decide)
  refine ⟨⟨by rw [apC_N, cN_o e7]; exact n7, by rw [apC_N, cN_o e18]; exact n18⟩, ?_, ?_, by rw [apC_N, y.2.1 4, n4]; exact Nat.le_refl _, fun i hi => ?_⟩
  · unfold apC; rw [cR_sI, cR_sR_n (by omega), cR_o e7, r0]
  · unfold apC; rw [cI_sI_e]
  · unfold apC
    rw [cR_sI]
    by_cases e : i = k
    · subst e; rw [cR_sR_e]
    · rw [cR_sR_n (by omega), cR_o e18, r2 i (by omega)]
theorem KO_c : KO M ab k g a ad C ↔ KO M ab k g a ad (nC gQ4 C) := Iff.rfl
theorem KO.se {x : Nat} (h : KO M ab k g a ad C) (y : stF C C2 M k) (n4 : cN C 4 = k + 1) (n21 : cN C 21 = k + 1) (hk : kSt ad C2 M ab k) (hB : ∀ i, i < k → hBm M i) (hg : kg M < 2 ^ 30) : KO M ab (k + 1) g a ad (apC C2 k x) := by
  obtain ⟨⟨m4, m21, m1, m0⟩, hS, hb, ha⟩ := h
  have e0 := y.1 0 (by decide) (by decide)
  have key : KO M ab (k + 1) g a ad C2 := by
    refine ⟨⟨by rw [y.2.1 4, n4]; exact Nat.le_refl _, by rw [y.2.1 21, n21]; exact Nat.le_refl _, by rw [y.2.1 1]; exact m1, by rw [y.2.1 0]; exact m0⟩, fun i hi => ?_, fun j hj => (hb j hj).st y, fun j hj => ?_⟩
    · by_cases e : i = k
      · subst e; exact hk
      · exact (hS i (by omega)).st y e (hB i (by omega)) hg
    · obtain ⟨a0, a1, a2, a3, a4, a5⟩ := ha j hj
      unfold aR
      rw [cI_o e0, cI_o e0, cI_o e0, cR_o e0, cR_o e0, cR_o e0, cN_o e0]
      exact ⟨a0, a1, a2, a3, a4, a5⟩
  refine KO_c.mpr ?_
  unfold apC
  rw [nC_sI rfl, nC_sR rfl]
  exact KO_c.mp key
theorem KO.ad_ {a' : Nat} (h : KO M ab k g a ad C) (n1 : g < cN C 1) (n0 : a' ≤ cN C 0) (hb : bdR ad C M g) (ha : ∀ j, a ≤ j → j < a' → aR ad C M j) : KO M ab k (g + 1) a' ad C := by
  obtain ⟨⟨m4, m21, m1, m0⟩, hS, hB, hA⟩ := h
  refine ⟨⟨m4, m21, n1, n0⟩, hS, fun j hj => ?_, fun j hj => ?_⟩
  · by_cases e : j = g
    · subst e; exact hb
    · exact hB j (by omega)
  · by_cases e : j < a
    · exact hA j e
    · exact ha j (by omega) hj
theorem bd_mk {q y : Nat} {r l n : Int32} (hB : BF k g q r l n (some (ad 0 y)) ad C) (e98 : yK M g = k) (n4 : k < cN C 4) (e99 : M.2.2.1 99 g = nI q) (e112 : M.2.2.1 112 g = r) (e113 : M.2.2.1 113 g = l) (e107 : M.2.2.1 107 g = 0) (e108 : M.2.2.1 108 g = nI y) (n0 : y < cN C 0) (e109 : M.2.2.1 109 g = n) : bdR ad C M g := by
  obtain ⟨b0, b1, b2, b3, b4, b5, b6⟩ := hB
  exact ⟨by rw [e98]; exact b0, by rw [e98]; exact n4, by rw [e99]; exact b1, by rw [e112]; exact b2, by rw [e113]; exact b3, by rw [e107]; exact b4, Or.inr ⟨y, n0, e108, b5⟩, by rw [e109]; exact b6⟩
theorem gv_pre {s q x : Nat} {W_ : Int64} {cur : Nat → Option Nat} {r l : Int32} (hK : KC k g s W_ cur ad C) : k < cN (bd9 (cw_new C 1) g (ad 4 k) (nI q) r l 0) 4 ∧ g < cN (bd9 (cw_new C 1) g (ad 4 k) (nI q) r l 0) 1 ∧ k < cN (bd9 (cw_new C 1) g (ad 4 k) (nI q) r l 0) 21 ∧ cR (bd9 (cw_new C 1) g (ad 4 k) (nI q) r l 0) 4 k 11 = some (cw_ad ad C 1 x 21 k) ∧ cI (bd9 (cw_new C 1) g (ad 4 k) (nI q) r l 0) 1 g 1 = nI q ∧ cR (bd9 (cw_new C 1) g (ad 4 k) (nI q) r l 0) 4 k 10 = (if s < g then some (cw_ad ad C 1 x 1 (g - 1)) else none) := by
  obtain ⟨⟨n4, n21, n1⟩, kw, k11, k10, kq⟩ := hK
  have eo : ∀ f, ¬ f = 1 → bd9 (cw_new C 1) g (ad 4 k) (nI q) r l 0 f = C f := fun f h => by unfold bd9; rw [cw_row_o h]; exact cw_ext_o h
  refine ⟨by rw [cN_o (eo 4 (by decide))]; omega, ?_, by rw [cN_o (eo 21 (by decide))]; omega, ?_, cI_row_e, ?_⟩
  · unfold bd9; rw [cw_row_N, show cN (cw_new C 1) 1 = cN C 1 + 1 from cN_ext]; omega
  · rw [cR_o (eo 4 (by decide)), k11, cw_ad_o (by omega)]
  · rw [cR_o (eo 4 (by decide)), k10]
    split
    · rw [cw_ad_o (by omega)]
    · rfl
theorem kdH_mk {s : Nat} {W_ : Int64} {cur : Nat → Option Nat} (hK : KC k g s W_ cur ad C) (h : ∀ q, q < 6 → (rm_has M q k = false ∧ cur q = none) ∨ (rm_has M q k = true ∧ ∃ g', g' < g ∧ M.2.2.1 97 (6 * k + q) = nI g' ∧ cur q = some g')) : kdH ad C M k := by
  obtain ⟨⟨n4, n21, n1⟩, kw, k11, k10, kq⟩ := hK
  intro q hq
  rw [kq q hq]
  rcases h q hq with ⟨z1, z2⟩ | ⟨z1, g', z2, z3, z4⟩
  · exact Or.inl ⟨z1, by rw [z2]; rfl⟩
  · exact Or.inr ⟨z1, g', by omega, z3, by rw [z4]; rfl⟩
theorem PRE.pr (h : PRE ad C) : PR (ad 11 0) ad C := by
  obtain ⟨⟨⟨c0, c1, c2, c3, c4, c5, c6, c9, c10, c20, c21⟩, d⟩, ⟨p0, p1, p2, p3, p4⟩, q1, q2, q3, q4⟩ := h
  exact ⟨⟨⟨c2, c3, c5, c6, c9, c10, c20⟩, d⟩, ⟨p2, p3, p4⟩, q1, q2, q3, q4, rfl⟩
end PRS

