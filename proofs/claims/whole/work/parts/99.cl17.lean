/-! an act under way: the class's run against the reference's memory -/
def ru1 (f j : Nat) : Bool := (Nat.beq f 8 && Nat.ble 7 j) || (Nat.beq f 9 && (Nat.beq j 1 || Nat.beq j 2 || Nat.beq j 99))
def ru2 (f j : Nat) : Bool := Nat.beq f 14 || Nat.beq f 15 || (Nat.beq f 8 && (Nat.beq j 1 || Nat.beq j 2 || Nat.beq j 3))
def ru3 (f j : Nat) : Bool := (Nat.beq f 8 && (Nat.beq j 4 || Nat.beq j 5 || Nat.beq j 6)) || (Nat.beq f 9 && (Nat.beq j 3 || Nat.beq j 4))
def ruF (f j : Nat) : Bool := !(Nat.beq f 14 || Nat.beq f 15 || (Nat.beq f 8 && (Nat.ble j 6 || Nat.beq j 11 || Nat.beq j 12 || Nat.beq j 13)) || (Nat.beq f 9 && (Nat.beq j 3 || Nat.beq j 4)))
def rg1 (j : Nat) : Bool := Nat.beq j 50 || Nat.beq j 62 || Nat.beq j 63
def rg2 (j : Nat) : Bool := Nat.ble 67 j && Nat.ble j 73
def rg3 (j : Nat) : Bool := Nat.ble 51 j && Nat.ble j 53
/-- what stands still in a run: its rows, the vessel, the act's number -/
def roO (ad : Nat → Nat → Nat) (C : cw_C) (M : mw_S) (app K : Nat) : Prop := (0 < cN C 8 ∧ app < cN C 9) ∧ (cR C 8 0 7 = some (ad 14 0) ∧ cR C 8 0 8 = some (ad 14 1) ∧ cR C 8 0 9 = some (ad 14 2) ∧ cR C 8 0 10 = some (ad 15 0)) ∧ cR C 8 0 11 = some (ad 9 app) ∧ cR C 9 app 1 = some (ad 4 K) ∧ (cI C 8 0 12 = M.1 62 ∧ cI C 8 0 13 = M.1 63) ∧ cI C 9 app 2 = M.2.2.1 50 app
/-- bodies run, numbers told, ticks -/
def rrR (C : cw_C) (M : mw_S) : Prop := (3 ≤ cN C 14 ∧ 0 < cN C 15) ∧ (cI C 8 0 1 = M.1 68 ∧ cI C 8 0 2 = M.1 72 ∧ cI C 8 0 3 = M.1 67) ∧ ∃ r s, (M.1 68 = nI r ∧ r ≤ 406) ∧ (M.1 72 = nI s ∧ s ≤ 400) ∧ (∀ i, i < r → cI C 14 0 i = M.2.2.1 69 i ∧ cI C 14 1 i = M.2.2.1 70 i ∧ cI C 14 2 i = M.2.2.1 71 i) ∧ ∀ i, i < s → cI C 15 0 i = M.2.2.1 73 i
abbrev rB_T : Type := (Int32 × Int32) × (Int64 × Int64 × Int64)
/-- water, heat and what was added, taken, warmed since B -/
def vvR (C : cw_C) (M : mw_S) (app : Nat) (B : rB_T) (T : Nat) : Prop := (cI C 9 app 3 = M.2.2.1 51 app ∧ cI C 9 app 4 = M.2.2.1 52 app) ∧ ∃ s1 s2 s4, (s1 ≤ 999 * T ∧ s2 ≤ 999 * T ∧ s4 ≤ 999 * T) ∧ (cI C 8 0 4 = nI s1 ∧ cI C 8 0 5 = nI s2 ∧ cI C 8 0 6 = nI s4) ∧ (M.2.2.2.1 53 1 = B.2.1 + Int64.ofNat s1 ∧ M.2.2.2.1 53 2 = B.2.2.1 + Int64.ofNat s2 ∧ M.2.2.2.1 53 4 = B.2.2.2 + Int64.ofNat s4) ∧ M.2.2.1 51 app = B.1.1 + (nI s1 - nI s2) ∧ M.2.2.1 52 app = B.1.2 + nI s4
def rX (ad : Nat → Nat → Nat) (C : cw_C) (M : mw_S) (ab : Nat → Option Nat) (nk app K : Nat) (B : rB_T) (T : Nat) : Prop := ckE ad C M ab nk ∧ roO ad C M app K ∧ rrR C M ∧ vvR C M app B T
def rF (app : Nat) (C C' : cw_C) : Prop := nD ruF C' = nD ruF C ∧ ∀ i, ¬ i = app → cI C' 9 i 3 = cI C 9 i 3 ∧ cI C' 9 i 4 = cI C 9 i 4
def wy (x : Int32) : Int32 := if x = 1 then 2 else if x = 2 then 1 else x
def rO (ad : Nat → Nat → Nat) (h0 h : mm_H) (C : cw_C) (ab : Nat → Option Nat) (nk app K : Nat) (B : rB_T) (res : Int32 × mw_S) (r : Option Value) (h1 : mm_H) : Prop := ∃ C' T, cw ad h0 C' h1 ∧ h1.2 = h.2 ∧ r = some (.int (wy res.1)) ∧ (res.2.1 67 = nI T ∧ T ≤ 400) ∧ rX ad C' res.2 ab nk app K B T ∧ rF app C C' ∧ ((res.1 = 1 ∨ res.1 = 2) → cI C' 8 0 0 = res.2.1 64)
section RUN
variable {ad : Nat → Nat → Nat} {C C1 C2 : cw_C} {M M1 : mw_S} {ab : Nat → Option Nat} {nk app K T T1 i j r s q k : Nat} {B : rB_T} {x n : Int32}
theorem roO_nd : roO ad C M app K ↔ roO ad (nD ru1 C) (nM rg1 M) app K := Iff.rfl
theorem rrR_nd : rrR C M ↔ rrR (nD ru2 C) (nM rg2 M) := Iff.rfl
theorem vvR_nd : vvR C M app B T ↔ vvR (nD ru3 C) (nM rg3 M) app B T := Iff.rfl
theorem roO.nd (h : roO ad C M app K) (b : nD ru1 C1 = nD ru1 C) (c : nM rg1 M1 = nM rg1 M) : roO ad C1 M1 app K := roO_nd.mpr (by rw [b, c]; exact roO_nd.mp h)
theorem rrR.nd (h : rrR C M) (b : nD ru2 C1 = nD ru2 C) (c : nM rg2 M1 = nM rg2 M) : rrR C1 M1 := rrR_nd.mpr (by rw [b, c]; exact rrR_nd.mp h)
theorem vvR.nd (h : vvR C M app B T) (b : nD ru3 C1 = nD ru3 C) (c : nM rg3 M1 = nM rg3 M) : vvR C1 M1 app B T := vvR_nd.mpr (by rw [b, c]; exact vvR_nd.mp h)
theorem vvR.more (h : vvR C M app B T) (hT : T ≤ T1) : vvR C M app B T1 := by
  obtain ⟨a, s1, s2, s4, ⟨b1, b2, b3⟩, c⟩ := h
  exact ⟨a, s1, s2, s4, ⟨by omega, by omega, by omega⟩, c⟩
theorem rX.more (h : rX ad C M ab nk app K B T) (hT : T ≤ T1) : rX ad C M ab nk app K B T1 := ⟨h.1, h.2.1, h.2.2.1, h.2.2.2.more hT⟩
theorem rF.refl : rF app C C := ⟨rfl, fun _ _ => ⟨rfl, rfl⟩⟩
theorem rF.trans (h : rF app C C1) (h1 : rF app C1 C2) : rF app C C2 := ⟨h1.1.trans h.1, fun i hi => ⟨((h1.2 i hi).1).trans (h.2 i hi).1, ((h1.2 i hi).2).trans (h.2 i hi).2⟩⟩
theorem rF_8 (h : ruF 8 j = false) : rF app C (cw_sI C 8 i j x) := ⟨nD_sI h, fun a _ => ⟨cI_o (cw_sI_o (by decide)), cI_o (cw_sI_o (by decide))⟩⟩
theorem rF_14 : rF app C (cw_sI C 14 i j x) := ⟨nD_sI rfl, fun a _ => ⟨cI_o (cw_sI_o (by decide)), cI_o (cw_sI_o (by decide))⟩⟩
theorem rF_15 : rF app C (cw_sI C 15 i j x) := ⟨nD_sI rfl, fun a _ => ⟨cI_o (cw_sI_o (by decide)), cI_o (cw_sI_o (by decide))⟩⟩
theorem rF_9 (h : ruF 9 j = false) : rF app C (cw_sI C 9 app j x) := ⟨nD_sI h, fun a ha => ⟨cI_sI_n (fun z => ha z.2.1), cI_sI_n (fun z => ha z.2.1)⟩⟩
theorem nI_p1 : nI s + 1 = nI (s + 1) := by rw [show (1 : Int32) = nI 1 by decide, nI_add]
/-- a number is left behind -/
theorem rX_fail (h : rX ad C M ab nk app K B T) : rX ad (cw_sI C 8 0 0 x) (mw_setS M 64 n) ab nk app K B T := ⟨h.1.nf rfl (nC_sI rfl) (nM_setS rfl), h.2.1.nd (nD_sI rfl) (nM_setS rfl), h.2.2.1.nd (nD_sI rfl) (nM_setS rfl), h.2.2.2.nd (nD_sI rfl) (nM_setS rfl)⟩
theorem rX_tick (h : rX ad C M ab nk app K B T) : rX ad (cw_sI C 8 0 3 (cI C 8 0 3 + 1)) (mw_setS M 67 (M.1 67 + 1)) ab nk app K B T := by
  refine ⟨h.1.nf rfl (nC_sI rfl) (nM_setS rfl), h.2.1.nd (nD_sI rfl) (nM_setS rfl), ?_, h.2.2.2.nd (nD_sI rfl) (nM_setS rfl)⟩
  obtain ⟨a, ⟨b1, b2, b3⟩, r, s, c1, c2, c3, c4⟩ := h.2.2.1
  refine ⟨by rw [cw_sI_N, cw_sI_N]; exact a, ⟨?_, ?_, ?_⟩, r, s, c1, c2, fun i hi => ?_, fun i hi => ?_⟩
  · rw [cI_sI_n (by decide)]; exact b1
  · rw [cI_sI_n (by decide)]; exact b2
  · rw [cI_sI_e, b3]; rfl
  · rw [cI_o (cw_sI_o (by decide)), cI_o (cw_sI_o (by decide)), cI_o (cw_sI_o (by decide))]; exact c3 i hi
  · rw [cI_o (cw_sI_o (by decide))]; exact c4 i hi
theorem rX_say (h : rX ad C M ab nk app K B T) (hs : M.1 72 = nI s) (hs4 : s < 400) : rX ad (cw_sI (cw_sI C 15 0 s n) 8 0 2 (cI C 8 0 2 + 1)) (mw_setS (mw_setV M 73 (M.1 72).toNatClampNeg n) 72 (M.1 72 + 1)) ab nk app K B T := by
  rw [hs, nI_clamp (show s < 2 ^ 31 by omega)]
  refine ⟨h.1.nf rfl ((nC_sI rfl).trans (nC_sI rfl)) ((nM_setS rfl).trans (nM_setV rfl)), h.2.1.nd ((nD_sI rfl).trans (nD_sI rfl)) ((nM_setS rfl).trans (nM_setV rfl)), ?_, h.2.2.2.nd ((nD_sI rfl).trans (nD_sI rfl)) ((nM_setS rfl).trans (nM_setV rfl))⟩
  obtain ⟨a, ⟨b1, b2, b3⟩, r, s', c1, c2, c3, c4⟩ := h.2.2.1
  have es : s' = s := (nI_eq (by omega) (by omega)).mp (c2.1.symm.trans hs)
  subst es
  have e8 : ∀ j, cI (cw_sI C 15 0 s' n) 8 0 j = cI C 8 0 j := fun j => cI_o (cw_sI_o (by decide))
  refine ⟨by rw [cw_sI_N, cw_sI_N, cw_sI_N, cw_sI_N]; exact a, ⟨?_, ?_, ?_⟩, r, s' + 1, c1, ⟨?_, by omega⟩, fun i hi => ?_, fun i hi => ?_⟩
  · rw [cI_sI_n (by decide), e8]; exact b1
  · rw [cI_sI_e, b2, hs]; rfl
  · rw [cI_sI_n (by decide), e8]; exact b3
  · exact show nI s' + 1 = nI (s' + 1) from nI_p1
  · rw [cI_o (cw_sI_o (by decide)), cI_o (cw_sI_o (by decide)), cI_o (cw_sI_o (by decide)), cI_o (cw_sI_o (by decide)), cI_o (cw_sI_o (by decide)), cI_o (cw_sI_o (by decide))]; exact c3 i hi
  · rw [cI_o (cw_sI_o (by decide))]
    show mw_u2 (C 15).1 0 s' n 0 i = mw_u2 M.2.2.1 73 s' n 73 i
    by_cases e : i = s'
    · rw [e, cu2_eq, cu2_eq]
    · rw [cu2_ne (fun z => e z.2), cu2_ne (fun z => e z.2)]; exact c4 i (by omega)
theorem rX_ent (h : rX ad C M ab nk app K B T) (hr : M.1 68 = nI r) (hr4 : r < 406) {y : Int32} (hy : M.1 65 = y) : rX ad (cw_sI (cw_sI (cw_sI (cw_sI C 14 0 r (nI k)) 14 1 r (nI q)) 14 2 r y) 8 0 1 (cI C 8 0 1 + 1)) (rm_ent M k q) ab nk app K B T := by
  subst hy
  unfold rm_ent
  rw [hr, nI_clamp (show r < 2 ^ 31 by omega)]
  refine ⟨h.1.nf rfl ((nC_sI rfl).trans ((nC_sI rfl).trans ((nC_sI rfl).trans (nC_sI rfl)))) ((nM_setS rfl).trans ((nM_setS rfl).trans ((nM_setV rfl).trans ((nM_setV rfl).trans (nM_setV rfl))))), h.2.1.nd ((nD_sI rfl).trans ((nD_sI rfl).trans ((nD_sI rfl).trans (nD_sI rfl)))) ((nM_setS rfl).trans ((nM_setS rfl).trans ((nM_setV rfl).trans ((nM_setV rfl).trans (nM_setV rfl))))), ?_, h.2.2.2.nd ((nD_sI rfl).trans ((nD_sI rfl).trans ((nD_sI rfl).trans (nD_sI rfl)))) ((nM_setS rfl).trans ((nM_setS rfl).trans ((nM_setV rfl).trans ((nM_setV rfl).trans (nM_setV rfl)))))⟩
  obtain ⟨a, ⟨b1, b2, b3⟩, r', s, c1, c2, c3, c4⟩ := h.2.2.1
  have es : r' = r := (nI_eq (by omega) (by omega)).mp (c1.1.symm.trans hr)
  subst es
  have e8 : ∀ j, cI (cw_sI (cw_sI (cw_sI C 14 0 r' (nI k)) 14 1 r' (nI q)) 14 2 r' (M.1 65)) 8 0 j = cI C 8 0 j := fun j => (cI_o (cw_sI_o (by decide))).trans ((cI_o (cw_sI_o (by decide))).trans (cI_o (cw_sI_o (by decide))))
  refine ⟨by rw [cw_sI_N, cw_sI_N, cw_sI_N, cw_sI_N, cw_sI_N, cw_sI_N, cw_sI_N, cw_sI_N]; exact a, ⟨?_, ?_, ?_⟩, r' + 1, s, ⟨?_, by omega⟩, c2, fun i hi => ?_, fun i hi => ?_⟩
  · rw [cI_sI_e, b1, hr]; rfl
  · rw [cI_sI_n (by decide), e8]; exact b2
  · rw [cI_sI_n (by decide), e8]; exact b3
  · exact show nI r' + 1 = nI (r' + 1) from nI_p1
  · have g14 : ∀ a l, cI (cw_sI (cw_sI (cw_sI (cw_sI C 14 0 r' (nI k)) 14 1 r' (nI q)) 14 2 r' (M.1 65)) 8 0 1 (cI C 8 0 1 + 1)) 14 a l = cI (cw_sI (cw_sI (cw_sI C 14 0 r' (nI k)) 14 1 r' (nI q)) 14 2 r' (M.1 65)) 14 a l := fun a l => cI_o (cw_sI_o (by decide))
    refine ⟨(g14 0 i).trans ?_, (g14 1 i).trans ?_, (g14 2 i).trans ?_⟩
    · rw [cI_sI_n (fun z => absurd z.2.1 (by decide)), cI_sI_n (fun z => absurd z.2.1 (by decide))]
      show _ = mw_u2 (mw_u2 (mw_u2 M.2.2.1 69 r' (nI k)) 70 r' (nI q)) 71 r' (M.1 65) 69 i
      rw [cu2_ne (fun z => absurd z.1 (by decide)), cu2_ne (fun z => absurd z.1 (by decide))]
      by_cases e : i = r'
      · rw [e, cI_sI_e, cu2_eq]
      · rw [cI_sI_n (fun z => e z.2.2), cu2_ne (fun z => e z.2)]; exact (c3 i (by omega)).1
    · rw [cI_sI_n (fun z => absurd z.2.1 (by decide))]
      show _ = mw_u2 (mw_u2 (mw_u2 M.2.2.1 69 r' (nI k)) 70 r' (nI q)) 71 r' (M.1 65) 70 i
      rw [cu2_ne (fun z => absurd z.1 (by decide))]
      by_cases e : i = r'
      · rw [e, cI_sI_e, cu2_eq]
      · rw [cI_sI_n (fun z => e z.2.2), cu2_ne (fun z => e z.2), cI_sI_n (fun z => e z.2.2), cu2_ne (fun z => e z.2)]; exact (c3 i (by omega)).2.1
    · show _ = mw_u2 (mw_u2 (mw_u2 M.2.2.1 69 r' (nI k)) 70 r' (nI q)) 71 r' (M.1 65) 71 i
      by_cases e : i = r'
      · rw [e, cI_sI_e, cu2_eq]
      · rw [cI_sI_n (fun z => e z.2.2), cu2_ne (fun z => e z.2), cI_sI_n (fun z => e z.2.2), cu2_ne (fun z => e z.2), cI_sI_n (fun z => e z.2.2), cu2_ne (fun z => e z.2)]; exact (c3 i (by omega)).2.2
  · rw [cI_o (cw_sI_o (by decide)), cI_o (cw_sI_o (by decide)), cI_o (cw_sI_o (by decide)), cI_o (cw_sI_o (by decide))]; exact c4 i hi
theorem mwa {a c : Nat} {y : Int32} {z : Int64} : (mw_setW (mw_setV M a i y) 53 c z).2.2.1 a i = y := @setV_eq M a i y
theorem mwb {a c l : Nat} {y : Int32} {z : Int64} (h : ¬ l = a) : (mw_setW (mw_setV M a i y) 53 c z).2.2.1 l k = M.2.2.1 l k := @setV_ne M a i l k y (fun w => h w.1)
theorem mwc {c : Nat} {z : Int64} : (mw_setW M 53 c z).2.2.2.1 53 c = z := @mw_setW_eq M 53 c z
theorem mwd {a c l : Nat} {y : Int32} {z : Int64} (h : ¬ l = c) : (mw_setW (mw_setV M a i y) 53 c z).2.2.2.1 53 l = M.2.2.2.1 53 l := mw_u2_ne _ _ (fun w => h w.2)
theorem v64 {b : Int64} {s v : Nat} (h : v ≤ 999) : b + Int64.ofNat s + (nI v).toInt64 = b + Int64.ofNat (s + v) := by rw [nI_64 (by omega), Int64.add_assoc, ← Int64.ofNat_add]
theorem v32a {b x y z : Int32} : b + (x - y) + z = b + (x + z - y) := by grind
theorem v32b {b x y z : Int32} : b + (x - y) - z = b + (x - (y + z)) := by grind
theorem v32c {b x z : Int32} : b + x + z = b + (x + z) := by grind
theorem rX_add {v : Nat} (h : rX ad C M ab nk app K B T) (hv : v ≤ 999) : rX ad (cw_sI (cw_sI C 9 app 3 (cI C 9 app 3 + nI v)) 8 0 4 (cI C 8 0 4 + nI v)) (mw_setW (mw_setV M 51 app (M.2.2.1 51 app + nI v)) 53 1 (M.2.2.2.1 53 1 + (nI v).toInt64)) ab nk app K B (T + 1) := by
  refine ⟨h.1.nf rfl ((nC_sI rfl).trans (nC_sI rfl)) ((nM_setW rfl).trans (nM_setV rfl)), h.2.1.nd ((nD_sI rfl).trans (nD_sI rfl)) ((nM_setW rfl).trans (nM_setV rfl)), h.2.2.1.nd ((nD_sI rfl).trans (nD_sI rfl)) ((nM_setW rfl).trans (nM_setV rfl)), ?_⟩
  obtain ⟨⟨a1, a2⟩, s1, s2, s4, ⟨b1, b2, b3⟩, ⟨c1, c2, c3⟩, ⟨d1, d2, d3⟩, e1, e2⟩ := h.2.2.2
  refine ⟨⟨?_, ?_⟩, s1 + v, s2, s4, ⟨by omega, by omega, by omega⟩, ⟨?_, ?_, ?_⟩, ⟨?_, ?_, ?_⟩, ?_, ?_⟩
  · rw [cI_o (cw_sI_o (by decide)), cI_sI_e, a1]; exact mwa.symm
  · rw [cI_o (cw_sI_o (by decide)), cI_sI_n (fun z => absurd z.2.2 (by decide)), a2]; exact (mwb (by decide)).symm
  · rw [cI_sI_e, c1, nI_add]
  · rw [cI_sI_n (by decide), cI_o (cw_sI_o (by decide))]; exact c2
  · rw [cI_sI_n (by decide), cI_o (cw_sI_o (by decide))]; exact c3
  · exact mwc.trans (by rw [d1]; exact v64 hv)
  · exact (mwd (by decide)).trans d2
  · exact (mwd (by decide)).trans d3
  · exact mwa.trans (by rw [e1, ← nI_add]; exact v32a)
  · exact (mwb (by decide)).trans e2
theorem rX_take {v : Nat} (h : rX ad C M ab nk app K B T) (hv : v ≤ 999) : rX ad (cw_sI (cw_sI C 9 app 3 (cI C 9 app 3 - nI v)) 8 0 5 (cI C 8 0 5 + nI v)) (mw_setW (mw_setV M 51 app (M.2.2.1 51 app - nI v)) 53 2 (M.2.2.2.1 53 2 + (nI v).toInt64)) ab nk app K B (T + 1) := by
  refine ⟨h.1.nf rfl ((nC_sI rfl).trans (nC_sI rfl)) ((nM_setW rfl).trans (nM_setV rfl)), h.2.1.nd ((nD_sI rfl).trans (nD_sI rfl)) ((nM_setW rfl).trans (nM_setV rfl)), h.2.2.1.nd ((nD_sI rfl).trans (nD_sI rfl)) ((nM_setW rfl).trans (nM_setV rfl)), ?_⟩
  obtain ⟨⟨a1, a2⟩, s1, s2, s4, ⟨b1, b2, b3⟩, ⟨c1, c2, c3⟩, ⟨d1, d2, d3⟩, e1, e2⟩ := h.2.2.2
  refine ⟨⟨?_, ?_⟩, s1, s2 + v, s4, ⟨by omega, by omega, by omega⟩, ⟨?_, ?_, ?_⟩, ⟨?_, ?_, ?_⟩, ?_, ?_⟩
  · rw [cI_o (cw_sI_o (by decide)), cI_sI_e, a1]; exact mwa.symm
  · rw [cI_o (cw_sI_o (by decide)), cI_sI_n (fun z => absurd z.2.2 (by decide)), a2]; exact (mwb (by decide)).symm
  · rw [cI_sI_n (by decide), cI_o (cw_sI_o (by decide))]; exact c1
  · rw [cI_sI_e, c2, nI_add]
  · rw [cI_sI_n (by decide), cI_o (cw_sI_o (by decide))]; exact c3
  · exact (mwd (by decide)).trans d1
  · exact mwc.trans (by rw [d2]; exact v64 hv)
  · exact (mwd (by decide)).trans d3
  · exact mwa.trans (by rw [e1, ← nI_add]; exact v32b)
  · exact (mwb (by decide)).trans e2
theorem rX_warm {v : Nat} (h : rX ad C M ab nk app K B T) (hv : v ≤ 999) : rX ad (cw_sI (cw_sI C 9 app 4 (cI C 9 app 4 + nI v)) 8 0 6 (cI C 8 0 6 + nI v)) (mw_setW (mw_setV M 52 app (M.2.2.1 52 app + nI v)) 53 4 (M.2.2.2.1 53 4 + (nI v).toInt64)) ab nk app K B (T + 1) := by
  refine ⟨h.1.nf rfl ((nC_sI rfl).trans (nC_sI rfl)) ((nM_setW rfl).trans (nM_setV rfl)), h.2.1.nd ((nD_sI rfl).trans (nD_sI rfl)) ((nM_setW rfl).trans (nM_setV rfl)), h.2.2.1.nd ((nD_sI rfl).trans (nD_sI rfl)) ((nM_setW rfl).trans (nM_setV rfl)), ?_⟩
  obtain ⟨⟨a1, a2⟩, s1, s2, s4, ⟨b1, b2, b3⟩, ⟨c1, c2, c3⟩, ⟨d1, d2, d3⟩, e1, e2⟩ := h.2.2.2
  refine ⟨⟨?_, ?_⟩, s1, s2, s4 + v, ⟨by omega, by omega, by omega⟩, ⟨?_, ?_, ?_⟩, ⟨?_, ?_, ?_⟩, ?_, ?_⟩
  · rw [cI_o (cw_sI_o (by decide)), cI_sI_n (fun z => absurd z.2.2 (by decide)), a1]; exact (mwb (by decide)).symm
  · rw [cI_o (cw_sI_o (by decide)), cI_sI_e, a2]; exact mwa.symm
  · rw [cI_sI_n (by decide), cI_o (cw_sI_o (by decide))]; exact c1
  · rw [cI_sI_n (by decide), cI_o (cw_sI_o (by decide))]; exact c2
  · rw [cI_sI_e, c3, nI_add]
  · exact (mwd (by decide)).trans d1
  · exact (mwd (by decide)).trans d2
  · exact mwc.trans (by rw [d3]; exact v64 hv)
  · exact (mwb (by decide)).trans e1
  · exact mwa.trans (by rw [e2, ← nI_add]; exact v32c)
end RUN
