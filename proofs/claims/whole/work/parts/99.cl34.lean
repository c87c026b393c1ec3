/-! pack: the ways that join nothing -/
def ghM (M M' : mw_S) : mw_S := (fun j => if j < 74 then M'.1 j else M.1 j, M'.2.1, fun j => if j < 74 then M'.2.2.1 j else M.2.2.1 j, fun j => if j < 74 then M'.2.2.2.1 j else M.2.2.2.1 j, M'.2.2.2.2)
section GHO
variable {m : Nat} {ad : Nat → Nat} {h0 h : mm_H} {M M' M2 : mw_S} {j : Nat}
theorem ghM_S (h : j < 74) : (ghM M M').1 j = M'.1 j := if_pos h
theorem ghM_V (h : j < 74) : (ghM M M').2.2.1 j = M'.2.2.1 j := if_pos h
theorem ghM_W (h : j < 74) : (ghM M M').2.2.2.1 j = M'.2.2.2.1 j := if_pos h
theorem ghM_s (h : 74 ≤ j) : (ghM M M').1 j = M.1 j := if_neg (Nat.not_lt.mpr h)
theorem ghM_v (h : 74 ≤ j) : (ghM M M').2.2.1 j = M.2.2.1 j := if_neg (Nat.not_lt.mpr h)
theorem ghM_w (h : 74 ≤ j) : (ghM M M').2.2.2.1 j = M.2.2.2.1 j := if_neg (Nat.not_lt.mpr h)
theorem mw_k_big (h : 74 ≤ j) : mw_k j = 0 := by
  unfold mw_k
  rw [List.getD_eq_getElem?_getD, List.getElem?_eq_none (by show 74 ≤ j; exact h)]
  rfl
/-- the window looks at the first 74 fields alone -/
theorem mw_W.re74 (hW : mw_W m ad h0 M h) (hS : ∀ j, j < 74 → M2.1 j = M.1 j) (hN : M2.2.1 = M.2.1) (hV : ∀ j, j < 74 → M2.2.2.1 j = M.2.2.1 j) (hX : ∀ j, j < 74 → M2.2.2.2.1 j = M.2.2.2.1 j) (hU : ∀ j, j < 74 → M2.2.2.2.2 j = M.2.2.2.2 j) : mw_W m ad h0 M2 h := by
  obtain ⟨w1, w2, w3, w4, w5, w6, w7, w8, w9, w10⟩ := hW
  refine ⟨?_, fun j hj hk => ?_, w3, w4, w5, w6, w7, w8, w9, fun j i hk => ?_, fun j hk => ?_⟩
  · rw [w1]
    congr 2
    refine List.map_congr_left (fun j hj => ?_)
    have hj : j < 74 := List.mem_range.mp hj
    unfold mw_f
    rw [hS j hj, hN]
  · rw [w2 j hj hk]
    unfold mw_c
    rw [hV j hj, hX j hj, hU j hj]
  · rcases Nat.lt_or_ge j 74 with z | z
    · rw [hV j z]; exact w10.1 j i hk
    · rw [mw_k_big z] at hk; cases hk
  · rcases Nat.lt_or_ge j 74 with z | z
    · rw [hS j z]; exact w10.2 j hk
    · rw [mw_k_big z] at hk; cases hk
theorem mw_W.ghm (hW : mw_W m ad h0 M' h) : mw_W m ad h0 (ghM M M') h := hW.re74 (fun _ z => ghM_S z) rfl (fun _ z => ghM_V z) (fun _ z => ghM_W z) (fun _ _ => rfl)
end GHO
section PKA
variable {G : mm_G} {L : Nat × Nat} {d : Nat} {ad ad1 : Nat → Nat → Nat} {C C1 : cw_C} {M M' : mw_S} {ab : Nat → Option Nat} {h h0 hb h1 : mm_H} {nk np na ne nb nt a0 g0 f i j n : Nat} {H : hS} {x : Int32} {tb : Nat → Nat}
theorem pI_0 (hs1 : M.1 1 = nI n) (hn7 : n ≤ 700) (htp : tp M tb) (hs13 : M.1 13 = nI a0) (ha0 : 2 * a0 + n ≤ 4200) : pI tb n a0 (rm_word (pkM0 M) tb n (qs tb n 0)) 0 :=
  ⟨⟨hs1, hn7, htp, rfl, rfl, rfl, rfl⟩, rfl, ha0, ⟨a0, hs13, Nat.le_refl _, Nat.le_add_right _ _⟩, ⟨0, rfl, Nat.zero_le _⟩, n47 _, ⟨0, rfl, Nat.zero_le _⟩⟩
theorem gI_0 (hg0 : M.1 111 = nI g0) (hg1 : g0 ≤ 20000) : gI tb n g0 (rm_word (pkM0 M) tb n (qs tb n 0)) 0 := ⟨hg1, g0, hg0, Nat.le_refl _, Nat.le_add_right _ _⟩
theorem pkM0_S (h : kkS j) : (pkM0 M).1 j = M.1 j := by
  unfold kkS kbS kpS at h
  unfold pkM0
  show mw_u (mw_u (mw_u (mw_u (mw_u (mw_u (mw_u M.1 26 0) 30 1) 31 0) 35 0) 37 0) 41 0) 24 (-1) j = M.1 j
  rw [mw_u_ne _ _ (by omega), mw_u_ne _ _ (by omega), mw_u_ne _ _ (by omega), mw_u_ne _ _ (by omega), mw_u_ne _ _ (by omega), mw_u_ne _ _ (by omega), mw_u_ne _ _ (by omega)]
theorem kk0 : kk nk a0 g0 M (pkM0 M) := ⟨fun j h => pkM0_S h, rfl, rfl, fun _ _ _ _ _ => rfl, fun _ _ _ => rfl⟩
/-- from the memory as it was, with the tape empty and the place told, to the memory behind a reading -/
theorem kk_fin (hK : kk nk a0 g0 M M') {y z : Int32} : kk nk a0 g0 (mw_setS (mw_setS M 1 0) 24 x) (mUN M.2.2.2.2 M.2.1 (ghM M (mw_setS (mw_setS (mw_setS M' 1 0) 13 y) 24 z))) := by
  refine ⟨fun j hj => ?_, rfl, rfl, fun j i a b c => ?_, fun j i hv => ?_⟩
  · show (ghM M _).1 j = mw_u (mw_u M.1 1 0) 24 x j
    have hk := hj
    unfold kkS kbS kpS at hj
    rw [mw_u_ne _ _ (by omega)]
    rcases Nat.lt_or_ge j 74 with l | l
    · rw [ghM_S l]
      show mw_u (mw_u (mw_u M'.1 1 0) 13 y) 24 z j = _
      rw [mw_u_ne _ _ (by omega), mw_u_ne _ _ (by omega)]
      by_cases e : j = 1
      · rw [e, mw_u_eq, mw_u_eq]
      · rw [mw_u_ne _ _ e, mw_u_ne _ _ e]; exact hK.1 j hk
    · rw [ghM_s l, mw_u_ne _ _ (by omega)]
  · show (ghM M _).2.2.2.1 j i = M.2.2.2.1 j i
    rcases Nat.lt_or_ge j 74 with l | l
    · rw [ghM_W l]; exact hK.2.2.2.1 j i a b c
    · rw [ghM_w l]
  · show (ghM M _).2.2.1 j i = M.2.2.1 j i
    rcases Nat.lt_or_ge j 74 with l | l
    · rw [ghM_V l]; exact hK.2.2.2.2 j i hv
    · rw [ghM_v l]
theorem rsR.fin (R : rsR ad C M ab nk np na ne nb nt H) (hK : kk nk a0 g0 M M') (ha : cN C 0 = a0) (hg : kg M = g0) (h13 : M.1 13 = nI a0) : rsR ad (pkC C x) (ghM M (mw_setS (mw_setS (mw_setS M' 1 0) 13 (nI a0)) 24 x)) ab nk np na ne nb nt H := by
  have h1 := (R.pkc (x := x)).kkm (kk_fin (x := x) (y := nI a0) (z := x) hK) (by rw [pkC_N (by decide)]; exact ha) hg (by
    show (ghM M _).1 13 = M.1 13
    rw [ghM_S (by decide), h13]; rfl) (by
    show (ghM M _).1 24 = _
    rw [ghM_S (by decide)]; rfl) rfl (fun j hj => ghM_v (M := M) (M' := mw_setS (mw_setS (mw_setS M' 1 0) 13 (nI a0)) 24 x) hj)
  exact h1
theorem pk_hr (o : oK (cN C) ad C ad1 C1) {y z : Int32} : ∀ f i, ¬ f = 11 → i < cN C f → i < cN (cw_sI (cw_sI C1 11 0 1 y) 11 0 2 z) f ∧ ad1 f i = ad f i ∧ ((cw_sI (cw_sI C1 11 0 1 y) 11 0 2 z) f).1 i = (C f).1 i ∧ (¬ f = 0 → ((cw_sI (cw_sI C1 11 0 1 y) 11 0 2 z) f).2.1 i = (C f).2.1 i) ∧ ((cw_sI (cw_sI C1 11 0 1 y) 11 0 2 z) f).2.2.1 i = (C f).2.2.1 i := by
  intro f i hf hi
  have e : (cw_sI (cw_sI C1 11 0 1 y) 11 0 2 z) f = C1 f := (cw_sI_o hf).trans (cw_sI_o hf)
  rw [cN_o e, e]
  exact ⟨Nat.lt_of_lt_of_le hi (o f).1, ((o f).2 i hi)⟩
theorem pkT.back {a b p : Nat} {r : Option Value} (z : pkT ad h0 C a b p r h1) (n11 : 0 < cN C 11) : cw ad h1 (pkC C (nI p)) h1 ∧ (h1.2.1 ≤ a ∧ h1.2.2 ≤ b) ∧ r = some (.int 1) := by
  obtain ⟨ad1, C1, o, hC, hb, hr⟩ := z
  have o11 := (o 11).2 0 n11
  refine ⟨pk_back hC (pk_hr o) o11.1 (by rw [cw_sI_N, cw_sI_N]; exact Nat.lt_of_lt_of_le n11 (o 11).1) (by rw [cI_sI_n (by decide), cI_sI_e]) cI_sI_e (fun j j1 j2 => by rw [cI_sI_n (fun z => j2 z.2.2), cI_sI_n (fun z => j1 z.2.2)]; exact congrFun o11.2.1 j) (fun j => ?_), hb, hr⟩
  have e : cR (cw_sI (cw_sI C1 11 0 1 0) 11 0 2 (nI p)) 11 0 j = cR C1 11 0 j := by unfold cR; rw [cw_sI_f, cw_sI_f]
  rw [e]
  exact congrFun o11.2.2.2 j
theorem rsR.rk (R : rsR ad C M ab nk np na ne nb nt H) : rlK ad C M ab nk np := ⟨R.rg, R.ck, R.cn.1⟩
theorem rsR.na0 (R : rsR ad C M ab nk np na ne nb nt H) (h13 : M.1 13 = nI a0) (h : a0 ≤ 4000) : cN C 0 = a0 := (nI_eq (by have := R.ck.2.2.2.2.2.2.1; omega) (by omega)).mp (R.ck.2.2.2.2.2.1.symm.trans h13)
theorem kg_of (h : M.1 111 = nI g0) (hg : g0 ≤ 20000) : kg M = g0 := by unfold kg; rw [h, nI_clamp (by omega)]
theorem tpC_of (R : rsR ad C M ab nk np na ne nb nt H) (htp : tp M tb) : tpC C tb := ⟨fun i => (htp i).1, R.o.1.2.1, fun i hi => (R.o.2.2.2.2.2.2.2 i hi).trans (htp i).2⟩
theorem pk_aL (R : rsR ad C M ab nk np na ne nb nt H) (hn : M.1 1 = nI n) (hn7 : 700 < n) (hn8 : n ≤ 800) (h13 : M.1 13 = nI a0) (ha0 : a0 ≤ 4000) (h111 : M.1 111 = nI g0) (hg1 : g0 ≤ 20000) (hL1 : h.2.1 + 4 ≤ L.1) (hL2 : h.2.2 + 25 ≤ L.2) (hC : cw ad h0 C h) : mm_Ok G mX11_pack L (d + 3) [.ref (ad 11 0)] h (aft ad h 4 25 ab nk np (.int 1) (ghM M (mw_setS (mw_setS (mw_setS (mw_setS (pkM0 M) 30 0) 1 0) 13 (nI a0)) 24 700))) := by
  refine mm_Ok.post (pk_L (d := d) R.rk R.o hn ⟨rfl, rfl⟩ hn7 hn8 hL1 hL2 hC) (fun r h1 z => ?_)
  obtain ⟨z1, z2, z3⟩ := z.back R.o.1.1
  exact ⟨z3, h1, ad, _, na, ne, nb, nt, H, z1, R.fin (x := nI 700) (g0 := g0) (kk0.sS (j := 30) (x := 0) (fun z => z.1.1.2.2.2.2.2.2.1 rfl)) (R.na0 h13 ha0) (kg_of h111 hg1) h13, rfl, z2.1, z2.2⟩
theorem pk_aF (R : rsR ad C M ab nk np na ne nb nt H) (hlt : lt_ G h0) (hn : M.1 1 = nI n) (hn7 : n ≤ 700) (htp : tp M tb) (h13 : M.1 13 = nI a0) (ha0 : 2 * a0 + n ≤ 4200) (ha4 : a0 ≤ 4000) (h111 : M.1 111 = nI g0) (hg1 : g0 ≤ 20000) (hr : (pPack tb n (pkM0 M)).1 = 0) (hL1 : h.2.1 + 2 * n + 7 ≤ L.1) (hL2 : h.2.2 + 14 * n + 48 ≤ L.2) (hC : cw ad h0 C h) : mm_Ok G mX11_pack L (d + 20) [.ref (ad 11 0)] h (aft ad h (2 * n + 7) (14 * n + 48) ab nk np (.int 1) (ghM M (mw_setS (mw_setS (mw_setS (pPack tb n (pkM0 M)).2.1 1 0) 13 (nI a0)) 24 ((pPack tb n (pkM0 M)).2.1.1 24)))) := by
  have hI := pI_0 hn hn7 htp h13 ha0
  have hg := gI_0 (tb := tb) (n := n) h111 hg1
  have hK := kk0.trans (kk.pack (np := np) (M := pkM0 M) R.s.1 R.rg.2.1.1 R.s.2 R.rg.2.1.2 hI hg rfl)
  refine mm_Ok.post (pk_F (d := d) R.rk R.o hn ⟨rfl, rfl⟩ (fun i => (htp i).1) (tpC_of R htp) hlt hn7 hI hg R.s.1 R.s.2 hr hL1 hL2 hC) (fun r h1 z => ?_)
  obtain ⟨p, p1, p2, z⟩ := z
  obtain ⟨z1, z2, z3⟩ := z.back R.o.1.1
  rw [p1]
  exact ⟨z3, h1, ad, _, na, ne, nb, nt, H, z1, R.fin (x := nI p) hK (R.na0 h13 ha4) (kg_of h111 hg1) h13, rfl, by have := z2.1; omega, by have := z2.2; omega⟩
end PKA
