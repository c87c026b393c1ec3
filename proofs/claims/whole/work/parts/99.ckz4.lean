/-! make: the relation at rest again -/
section MK
variable {p : Nat → Nat → Bool} {q : Nat → Bool} {ad : Nat → Nat → Nat} {C : cw_C} {M : mw_S} {ab : Nat → Option Nat} {i j k x nk np na ne nb nt : Nat} {s : Int32} {H : hS}
theorem nM_make {y : Int32} (h48 : q 48 = false) (h49 : q 49 = false) (h50 : q 50 = false) (h51 : q 51 = false) (h52 : q 52 = false) : nM q (rm_make M na y s) = nM q M := (nM_setS h48).trans ((nM_setV h52).trans ((nM_setV h51).trans ((nM_setV h50).trans (nM_setV h49))))
theorem nC_mk (h9 : q 9 = false) (h11 : q 11 = false) (h16 : q 16 = false) : nC q (mkC ad C na k s x) = nC q C := (nC_sI h11).trans ((nC_sR h16).trans ((nC_row h9).trans (nC_new h9)))
theorem nD_mk (h9 : ∀ j, p 9 j = false) (h11 : p 11 5 = false) (h16 : ∀ j, p 16 j = false) : nD p (mkC ad C na k s x) = nD p C := (nD_sI h11).trans ((nD_sR (h16 na)).trans ((nD_row h9).trans (nD_new h9)))
theorem mk_o {f : Nat} (h9 : ¬ f = 9) (h11 : ¬ f = 11) (h16 : ¬ f = 16) : mkC ad C na k s x f = C f := (cw_sI_o h11).trans ((cw_sR_o h16).trans ((cw_row_o h9).trans (cw_ext_o h9)))
theorem mk_9 : mkC ad C na k s x 9 = cw_row (cw_new C 9) 9 na (fun j => [nI na, 0, s, 0, 0].getD j 0) (fun _ => 0) (fun j => [none, some (cw_ad ad C 9 x 4 k)].getD j none) 9 := (cw_sI_o (by decide)).trans (cw_sR_o (by decide))
theorem mk_N {f : Nat} (h : ¬ f = 9) : cN (mkC ad C na k s x) f = cN C f := by
  unfold mkC
  rw [cw_sI_N, cw_sR_N, cw_row_N]
  exact cN_ext_o h
theorem mk_N9 : cN (mkC ad C na k s x) 9 = cN C 9 + 1 := by
  unfold mkC
  rw [cw_sI_N, cw_sR_N, cw_row_N]
  exact cN_ext
theorem mk_In : cI (mkC ad C na k s x) 9 na j = [nI na, 0, s, 0, 0].getD j 0 := by
  rw [cI_o mk_9]; unfold cI; rw [cw_row_f]; exact congrFun cu_eq j
theorem mk_Rn : cR (mkC ad C na k s x) 9 na j = [none, some (cw_ad ad C 9 x 4 k)].getD j none := by
  rw [cR_o mk_9]; unfold cR; rw [cw_row_f]; exact congrFun cu_eq j
theorem mk_Ii (h9 : cN C 9 = na) (h : i < na) : cI (mkC ad C na k s x) 9 i j = cI C 9 i j := by
  rw [cI_o mk_9]
  have e : cI (cw_new C 9) 9 i j = cI C 9 i j := cI_ext_o (by omega)
  rw [← e]
  unfold cI; rw [cw_row_f]; exact congrFun (cu_ne (by omega)) j
theorem mk_Ri (h9 : cN C 9 = na) (h : i < na) : cR (mkC ad C na k s x) 9 i j = cR C 9 i j := by
  rw [cR_o mk_9]
  have e : cR (cw_new C 9) 9 i j = cR C 9 i j := cR_ext_o (by omega)
  rw [← e]
  unfold cR; rw [cw_row_f]; exact congrFun (cu_ne (by omega)) j
theorem mk_16 (h9 : cN C 9 = na) : cR (mkC ad C na k s x) 16 0 na = some (cw_ad ad C 9 x 9 na) := by
  unfold mkC
  rw [cR_o (cw_sI_o (by decide)), cR_sR_e]
theorem mk_16i (h : ¬ i = na) : cR (mkC ad C na k s x) 16 0 i = cR C 16 0 i := by
  unfold mkC
  rw [cR_o (cw_sI_o (by decide)), cR_sR_n (fun z => h z.2.2), cR_o (cw_row_o (by decide))]
  exact cR_o (cw_ext_o (by decide))
theorem mk_11R : cR (mkC ad C na k s x) 11 0 j = cR C 11 0 j := by
  unfold mkC
  have e : cR (cw_sR (cw_row (cw_new C 9) 9 na (fun j => [nI na, 0, s, 0, 0].getD j 0) (fun _ => 0) (fun j => [none, some (cw_ad ad C 9 x 4 k)].getD j none)) 16 0 na (some (cw_ad ad C 9 x 9 na))) 11 0 j = cR C 11 0 j := (cR_o (cw_sR_o (by decide))).trans ((cR_o (cw_row_o (by decide))).trans (cR_o (cw_ext_o (by decide))))
  rw [← e]
  unfold cR
  rw [cw_sI_f]
def mkH (H : hS) (na : Nat) : hS := (fun e i => if i = na then 0 else H.1 e i, fun e i => if i = na then 0 else H.2.1 e i, H.2.2)
theorem mk_rs (h : rsR ad C M ab nk np na ne nb nt H) (hn : na < 20) (hk : k < nk) : rsR (cw_ad ad C 9 x) (mkC ad C na k s x) (rm_make M na (nI k) s) ab nk np (na + 1) ne nb nt (mkH H na) := by
  have h9 : cN C 9 = na := h.cn.2.1
  have a9 : ∀ i, i < na → cw_ad ad C 9 x 9 i = ad 9 i := fun i hi => cw_ad_o (by omega)
  have ao : ∀ f, ¬ f = 9 → ∀ i, cw_ad ad C 9 x f i = ad f i := fun f hf i => cu2_ne (fun z => hf z.1)
  refine ⟨h.rg.nf (nA_ad rfl) (nC_mk rfl rfl rfl) (nM_make rfl rfl rfl rfl rfl), h.ck.nf (nA_ad rfl) (nC_mk rfl rfl rfl) (nM_make rfl rfl rfl rfl rfl), ?_, ?_, h.t.nf (nM_make rfl rfl rfl rfl rfl), h.s, ?_, ?_, ?_, ?_⟩
  · obtain ⟨⟨c1, c2, c3, c4, c5, c6, c7⟩, c8, c9⟩ := h.cn
    exact ⟨⟨by rw [mk_N (by decide)]; exact c1, by rw [mk_N (by decide)]; exact c2, by rw [mk_N (by decide)]; exact c3, by rw [mk_N (by decide)]; exact c4, by rw [mk_N (by decide)]; exact c5, by rw [mk_N (by decide)]; exact c6, by rw [mk_N (by decide)]; exact c7⟩, by rw [mk_N9, c8], by rw [mk_N (by decide)]; exact c9⟩
  · exact h.o.nd (nA_ad rfl) (nD_mk (fun _ => rfl) rfl (fun _ => rfl)) (nM_make rfl rfl rfl rfl rfl)
  · obtain ⟨⟨v11, n16, n9⟩, hn20, v0, v1, s48, hV⟩ := h.v
    refine ⟨⟨by rw [mk_N (by decide)]; exact v11, by rw [mk_N (by decide)]; exact n16, by rw [mk_N9, h9]; exact Nat.le_refl _⟩, by omega, by rw [mk_11R, ao 16 (by decide)]; exact v0, by unfold mkC; exact cI_sI_e, rfl, fun i hi => ?_⟩
    by_cases e : i = na
    · subst e
      refine ⟨mk_16 h9, mk_In, ⟨k, hk, ?_, mk_Rn⟩, ?_, ?_, ?_⟩
      · exact if_pos ⟨rfl, rfl⟩
      · exact mk_In.trans (if_pos ⟨rfl, rfl⟩).symm
      · exact mk_In.trans (if_pos ⟨rfl, rfl⟩).symm
      · exact mk_In.trans (if_pos ⟨rfl, rfl⟩).symm
    · have hi : i < na := by omega
      obtain ⟨p0, p1, ⟨k', hk', p2, p3⟩, p4, p5, p6⟩ := hV i hi
      have u : ∀ l, (rm_make M na (nI k) s).2.2.1 l i = M.2.2.1 l i := fun l => by
        unfold rm_make
        show mw_u2 (mw_u2 (mw_u2 (mw_u2 M.2.2.1 49 na _) 50 na _) 51 na _) 52 na _ l i = _
        rw [cu2_ne (fun z => e z.2), cu2_ne (fun z => e z.2), cu2_ne (fun z => e z.2), cu2_ne (fun z => e z.2)]
      rw [mk_16i e, mk_Ii h9 hi, mk_Ii h9 hi, mk_Ii h9 hi, mk_Ii h9 hi, mk_Ri h9 hi, a9 i hi, u, u, u, u]
      exact ⟨p0, p1, ⟨k', hk', p2, by rw [ao 4 (by decide)]; exact p3⟩, p4, p5, p6⟩
  · obtain ⟨⟨n17, n3⟩, hn512, z7, z8, s54, hN⟩ := h.e
    have z : mkC ad C na k s x 3 = C 3 := mk_o (by decide) (by decide) (by decide)
    have z' : mkC ad C na k s x 17 = C 17 := mk_o (by decide) (by decide) (by decide)
    have z11 : cI (mkC ad C na k s x) 11 0 8 = cI C 11 0 8 := by
      unfold mkC
      rw [cI_sI_n (by decide), cI_o (cw_sR_o (by decide)), cI_o (cw_row_o (by decide))]
      exact cI_o (cw_ext_o (by decide))
    refine ⟨⟨by rw [mk_N (by decide)]; exact n17, by rw [mk_N (by decide)]; exact n3⟩, hn512, by rw [mk_11R, ao 17 (by decide)]; exact z7, by rw [z11]; exact z8, s54, fun i hi => ?_⟩
    obtain ⟨p0, p1, ⟨v, hv, p2, p3⟩, p4⟩ := hN i hi
    rw [cR_o z', cI_o z, cI_o z, cR_o z, ao 3 (by decide)]
    exact ⟨p0, p1, ⟨v, by omega, p2, by rw [a9 v hv]; exact p3⟩, p4⟩
  · obtain ⟨d1, d2, d3⟩ := h.d
    have z : mkC ad C na k s x 3 = C 3 := mk_o (by decide) (by decide) (by decide)
    refine ⟨fun i hi => ?_, d2, fun e he => ?_⟩
    · by_cases y : i = na
      · subst y
        exact ⟨(if_pos rfl).trans (if_pos ⟨rfl, rfl⟩).symm, (if_pos rfl).trans (if_pos ⟨rfl, rfl⟩).symm⟩
      · have u : ∀ l, (rm_make M na (nI k) s).2.2.1 l i = M.2.2.1 l i := fun l => by
          unfold rm_make
          show mw_u2 (mw_u2 (mw_u2 (mw_u2 M.2.2.1 49 na _) 50 na _) 51 na _) 52 na _ l i = _
          rw [cu2_ne (fun z => y z.2), cu2_ne (fun z => y z.2), cu2_ne (fun z => y z.2), cu2_ne (fun z => y z.2)]
        rw [u, u]
        exact ⟨(if_neg y).trans (d1 i (by omega)).1, (if_neg y).trans (d1 i (by omega)).2⟩
    · obtain ⟨a, b, ha, hb, e1, e2, ⟨e3, e4, e5, e6⟩, e7, e8, e9, e10, e11⟩ := d3 e he
      have wa : ∀ e, (mkH H na).1 e a = H.1 e a := fun e => if_neg (by omega)
      have wb : ∀ e, (mkH H na).1 e b = H.1 e b := fun e => if_neg (by omega)
      have ta : ∀ e, (mkH H na).2.1 e a = H.2.1 e a := fun e => if_neg (by omega)
      have tb : ∀ e, (mkH H na).2.1 e b = H.2.1 e b := fun e => if_neg (by omega)
      refine ⟨a, b, by omega, by omega, e1, e2, ?_, ?_, ?_, ?_, ?_, ?_⟩
      · rw [wa, ta, wb, tb]; exact ⟨e3, e4, e5, e6⟩
      · rw [cR_o z, a9 b hb]; exact e7
      · rw [wa, wa, ta, ta, cI_o z, cI_o z, cI_o z]; exact e8
      · rw [wb, wb, tb, tb, cI_o z, cI_o z, cI_o z]; exact e9
      · intro i hi na_ nb_
        by_cases y : i = na
        · exact ⟨(if_pos y).trans (if_pos y).symm, (if_pos y).trans (if_pos y).symm⟩
        · have := e10 i (by omega) na_ nb_
          exact ⟨(if_neg y).trans (this.1.trans (if_neg y).symm), (if_neg y).trans (this.2.trans (if_neg y).symm)⟩
      · rw [cI_o z, cI_o z, cI_o z, cI_o z]; exact e11
  · exact h.r.nd (nA_ad rfl) (nD_mk (fun _ => rfl) rfl (fun _ => rfl)) (nM_make rfl rfl rfl rfl rfl)
end MK
