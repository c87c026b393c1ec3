/-! act: the relation at rest again -/
def ac_B (M : mw_S) (app : Nat) : rB_T := ((M.2.2.1 51 app, M.2.2.1 52 app), (M.2.2.2.1 53 1, M.2.2.2.1 53 2, M.2.2.2.1 53 4))
section ACS
variable {p : Nat → Nat → Bool} {q : Nat → Bool} {ad ad1 : Nat → Nat → Nat} {C C1 C' : cw_C} {M M0 M1 M' Mf : mw_S} {ab : Nat → Option Nat} {oK oQ : Nat → Nat} {app K nk np na nA ne nb nt n e v y f i j : Nat} {B : rB_T} {T : Nat} {a x z : Int32} {w : Int32 × mw_S} {H : hS}
/-- the tale of the act -/
theorem ac_tale (hX : rX ad C' Mf ab nk app K B T) (c8 : C1 8 = C' 8) (c14 : C1 14 = C' 14) (c15 : C1 15 = C' 15) (a8 : ad1 8 0 = ad 8 0) (a14 : ∀ i, ad1 14 i = ad 14 i) (a15 : ad1 15 0 = ad 15 0) (t6 : cR C1 11 0 6 = some (ad1 8 0)) (h0 : cI C' 8 0 0 = z) (m66 : M1.1 66 = z) (ms : M1.1 67 = Mf.1 67 ∧ M1.1 68 = Mf.1 68 ∧ M1.1 72 = Mf.1 72) (mv : ∀ j, 69 ≤ j → M1.2.2.1 j = Mf.2.2.1 j) : ∃ nb nt, rnR ad1 C1 M1 nb nt := by
  obtain ⟨-, ⟨⟨n8, n9⟩, ⟨r7, r8, r9, r10⟩, -⟩, ⟨⟨n14, n15⟩, ⟨b1, b2, b3⟩, r, s, ⟨c1, c2⟩, ⟨d1, d2⟩, e1, e2⟩, -⟩ := hX
  refine ⟨r, s, ⟨by rw [cN_o c8]; exact n8, by rw [cN_o c14]; exact n14, by rw [cN_o c15]; exact n15⟩, ⟨c2, d2⟩, t6, ⟨?_, ?_, ?_, ?_⟩, ⟨ms.2.1.trans c1, ms.2.2.trans d1⟩, ⟨?_, ?_, ?_, ?_⟩, fun i hi => ?_, fun i hi => ?_⟩
  · rw [cI_o c8, h0, m66]
  · rw [cI_o c8, b1, ms.2.1]
  · rw [cI_o c8, b2, ms.2.2]
  · rw [cI_o c8, b3, ms.1]
  · rw [cR_o c8, a14]; exact r7
  · rw [cR_o c8, a14]; exact r8
  · rw [cR_o c8, a14]; exact r9
  · rw [cR_o c8, a15]; exact r10
  · rw [cI_o c14, cI_o c14, cI_o c14, mv 69 (by decide), mv 70 (by decide), mv 71 (by decide)]; exact e1 i hi
  · rw [cI_o c15, mv 73 (by decide)]; exact e2 i hi
/-- the record of an act -/
theorem ac_M (fs : fsame app (ac0 M ne app a) Mf) (vv : vvR C' Mf app (ac_B M app) T) (hT : T ≤ 400) : enM M (mw_setS Mf 54 (nI (ne + 1))) na ne app app 0 a (cI C' 8 0 4) (cI C' 8 0 5) (cI C' 8 0 6) := by
  obtain ⟨-, s1, s2, s4, ⟨b1, b2, b3⟩, ⟨c1, c2, c3⟩, ⟨d1, d2, d3⟩, e1, e2⟩ := vv
  have V : ∀ j i, 55 ≤ j → j ≤ 59 → (mw_setS Mf 54 (nI (ne + 1))).2.2.1 j i = (ac0 M ne app a).2.2.1 j i := fun j i h1 h2 => fs.2.1 j i (by omega) (by omega) (by omega) (by omega) (Or.inl ⟨by omega, by omega⟩)
  have W : ∀ i, (mw_setS Mf 54 (nI (ne + 1))).2.2.2.1 60 i = (ac0 M ne app a).2.2.2.1 60 i := fun i => fs.2.2 60 i (Or.inl (by decide))
  refine ⟨rfl, ⟨?_, ?_, ?_, ?_⟩, fun e he => ⟨?_, ?_, ?_, ?_⟩, ⟨?_, ?_, ?_, ?_⟩, fun i hi => ?_, fun c hc => ⟨?_, ?_⟩, fun i hi => ?_, ⟨?_, ?_⟩, fun z => absurd rfl z, fun i hi ia ib => ⟨?_, ?_⟩⟩
  · rw [V _ _ (by decide) (by decide), ac0_Vf]; simp
  · rw [V _ _ (by decide) (by decide), ac0_Vf]; simp
  · rw [V _ _ (by decide) (by decide), ac0_Vf]; simp
  · rw [V _ _ (by decide) (by decide), ac0_Vf]; simp
  · rw [V _ _ (by decide) (by decide), ac0_Vf]; simp [show ¬ e = ne by omega]
  · rw [V _ _ (by decide) (by decide), ac0_Vf]; simp [show ¬ e = ne by omega]
  · rw [V _ _ (by decide) (by decide), ac0_Vf]; simp [show ¬ e = ne by omega]
  · rw [V _ _ (by decide) (by decide), ac0_Vf]; simp [show ¬ e = ne by omega]
  · rw [V _ _ (by decide) (by decide), ac0_Vf]; simp
  · rw [V _ _ (by decide) (by decide), ac0_Vf]; simp
  · rw [V _ _ (by decide) (by decide), ac0_Vf]; simp
  · rw [V _ _ (by decide) (by decide), ac0_Vf]; simp
  · rw [V _ _ (by decide) (by decide), ac0_Vf]; simp [show ¬ i = 4 * ne + 3 by omega, show ¬ i = 4 * ne + 2 by omega, show ¬ i = 4 * ne + 1 by omega, show ¬ i = 4 * ne by omega]
  · rw [W, ac0_Wf]; simp [hc]
  · show Mf.2.2.2.1 53 c = _
    unfold ctr
    rw [if_neg (by decide), if_pos rfl]
    match c, hc with
    | 0, _ => rw [if_neg (by decide), if_neg (by decide), if_neg (by decide), Int64.add_zero]; exact (fs.2.2 53 0 (Or.inr (by decide))).trans (ac0_Wo (by decide))
    | 1, _ => rw [if_pos rfl, d1, c1, nI_64 (by omega)]; rfl
    | 2, _ => rw [if_neg (by decide), if_pos rfl, d2, c2, nI_64 (by omega)]; rfl
    | 3, _ => rw [if_neg (by decide), if_neg (by decide), if_neg (by decide), Int64.add_zero]; exact (fs.2.2 53 3 (Or.inr (by decide))).trans (ac0_Wo (by decide))
    | 4, _ => rw [if_neg (by decide), if_neg (by decide), if_pos rfl, d3, c3, nI_64 (by omega)]; rfl
    | c + 5, hc => exact absurd hc (by omega)
  · rw [W, ac0_Wf]; simp [show ¬ 5 * ne ≤ i by omega]
  · show Mf.2.2.1 51 app = _
    rw [e1, c1, c2]; rfl
  · show Mf.2.2.1 52 app = _
    rw [e2, c3]; rfl
  · exact (fs.2.1 51 i (by decide) (by decide) (by decide) (by decide) (Or.inr ia)).trans (ac0_Vo (by decide))
  · exact (fs.2.1 52 i (by decide) (by decide) (by decide) (by decide) (Or.inr ia)).trans (ac0_Vo (by decide))
theorem ac_rs1 (h : rsR ad C M ab nk np na ne nb nt H) (ha : app < na) (hn : ne < 512) (fs : fsame app (ac0 M ne app a) Mf) (hX : rX ad C' Mf ab nk app K (ac_B M app) T) (hT : T ≤ 400) (hF : rF app C C') (h00 : cI C' 8 0 0 = 0) : ∃ nb' nt', rsR (cw_ad ad C' 3 y) (etC ad C' ne (acI a (cI C' 8 0 4) (cI C' 8 0 5) (cI C' 8 0 6)) (chR (ad 9 app)) y) (mw_setS Mf 54 (nI (ne + 1))) ab nk np na (ne + 1) nb' nt' (etH (mw_setS Mf 54 (nI (ne + 1))) H ne) := by
  have h3 : cN C' 3 = ne := (hF.N rfl).trans h.cn.2.2
  have ao : ∀ f, ¬ f = 3 → ∀ i, cw_ad ad C' 3 y f i = ad f i := fun f hf i => cu2_ne (fun z => hf z.1)
  have o : ∀ f, ¬ f = 3 → ¬ f = 11 → ¬ f = 17 → etC ad C' ne (acI a (cI C' 8 0 4) (cI C' 8 0 5) (cI C' 8 0 6)) (chR (ad 9 app)) y f = C' f := fun f a b c => etC_o a b c
  have N : ∀ f, ¬ f = 3 → ruF f 99 = true → cN (etC ad C' ne (acI a (cI C' 8 0 4) (cI C' 8 0 5) (cI C' 8 0 6)) (chR (ad 9 app)) y) f = cN C f := fun f hf hu => by rw [et_N hf, hF.N hu]
  have nm : ∀ {q : Nat → Bool}, q 54 = false → (∀ j, j < 74 → 51 ≤ j → q j = false) → nM q (mw_setS Mf 54 (nI (ne + 1))) = nM q M := fun h1 h2 => (nM_setS h1).trans (nM_ac fs h2)
  have m66 : (mw_setS Mf 54 (nI (ne + 1))).1 66 = 0 := (fs.1 66 (by decide)).trans rfl
  obtain ⟨nb', nt', hT'⟩ := ac_tale (ad1 := cw_ad ad C' 3 y) (M1 := mw_setS Mf 54 (nI (ne + 1))) hX (o 8 (by decide) (by decide) (by decide)) (o 14 (by decide) (by decide) (by decide)) (o 15 (by decide) (by decide) (by decide)) (ao 8 (by decide) 0) (fun i => ao 14 (by decide) i) (ao 15 (by decide) 0) (by rw [et_11R, nD_R hF.1 rfl, ao 8 (by decide)]; exact h.r.2.2.1) h00 m66 ⟨rfl, rfl, rfl⟩ (fun _ _ => rfl)
  refine ⟨nb', nt', h.rg.nf (nA_ad rfl) ((nC_et rfl rfl rfl).trans (hF.nC rfl rfl rfl rfl)) (nm rfl (by decide)), h.ck.nf (nA_ad rfl) ((nC_et rfl rfl rfl).trans (hF.nC rfl rfl rfl rfl)) (nm rfl (by decide)), ?_, h.o.nd (nA_ad rfl) ((nD_et (fun _ => rfl) rfl (fun _ => rfl)).trans (hF.nD (fun _ => rfl) (fun _ => rfl) (fun _ => rfl) (fun _ => rfl))) (nm rfl (by decide)), h.t.nf (nm rfl (by decide)), ⟨((fs.1 3 (by decide)).trans rfl).trans h.s.1, ((fs.1 19 (by decide)).trans rfl).trans h.s.2⟩, ?_, ?_, ?_, hT'⟩
  · obtain ⟨⟨c1, c2, c3, c4, c5, c6, c7⟩, c8, c9⟩ := h.cn
    exact ⟨⟨by rw [N _ (by decide) rfl]; exact c1, by rw [N _ (by decide) rfl]; exact c2, by rw [N _ (by decide) rfl]; exact c3, by rw [N _ (by decide) rfl]; exact c4, by rw [N _ (by decide) rfl]; exact c5, by rw [N _ (by decide) rfl]; exact c6, by rw [N _ (by decide) rfl]; exact c7⟩, by rw [N _ (by decide) rfl]; exact c8, by rw [et_N3, h3]⟩
  · obtain ⟨⟨v11, n16, n9⟩, hn20, v0, v1, s48, hV⟩ := h.v
    have z5 : cI (etC ad C' ne (acI a (cI C' 8 0 4) (cI C' 8 0 5) (cI C' 8 0 6)) (chR (ad 9 app)) y) 11 0 5 = cI C 11 0 5 := by
      unfold etC
      rw [cI_sI_n (by decide), cI_o (cw_sR_o (by decide)), cI_o (cw_row_o (by decide)), show cI (cw_new C' 3) 11 0 5 = cI C' 11 0 5 from cI_o (cw_ext_o (by decide)), nD_I hF.1 rfl]
    refine ⟨⟨by rw [N _ (by decide) rfl]; exact v11, by rw [N _ (by decide) rfl]; exact n16, by rw [N _ (by decide) rfl]; exact n9⟩, hn20, by rw [et_11R, nD_R hF.1 rfl, ao 16 (by decide)]; exact v0, by rw [z5]; exact v1, ((fs.1 48 (by decide)).trans rfl).trans s48, fun i hi => ?_⟩
    obtain ⟨p0, p1, ⟨k, hk, p2, p3⟩, p4, p5, p6⟩ := hV i hi
    have u9 := o 9 (by decide) (by decide) (by decide)
    have u16 := o 16 (by decide) (by decide) (by decide)
    have mv : ∀ j, 49 ≤ j → j ≤ 50 → (mw_setS Mf 54 (nI (ne + 1))).2.2.1 j i = M.2.2.1 j i := fun j h1 h2 => (fs.2.1 j i (by omega) (by omega) (by omega) (by omega) (Or.inl ⟨by omega, by omega⟩)).trans (ac0_Vo (by omega))
    rw [cR_o u16, cI_o u9, cI_o u9, cI_o u9, cI_o u9, cR_o u9, nD_R hF.1 rfl, nD_R hF.1 rfl, nD_I hF.1 rfl, nD_I hF.1 rfl, ao 9 (by decide), mv 49 (by decide) (by decide), mv 50 (by decide) (by decide)]
    refine ⟨p0, p1, ⟨k, hk, p2, by rw [ao 4 (by decide)]; exact p3⟩, p4, ?_⟩
    by_cases e : i = app
    · subst e
      exact hX.2.2.2.1
    · have q := hF.2 i e
      have m51 : (mw_setS Mf 54 (nI (ne + 1))).2.2.1 51 i = M.2.2.1 51 i := (fs.2.1 51 i (by decide) (by decide) (by decide) (by decide) (Or.inr e)).trans (ac0_Vo (by decide))
      have m52 : (mw_setS Mf 54 (nI (ne + 1))).2.2.1 52 i = M.2.2.1 52 i := (fs.2.1 52 i (by decide) (by decide) (by decide) (by decide) (Or.inr e)).trans (ac0_Vo (by decide))
      rw [q.1, q.2, m51, m52]
      exact ⟨p5, p6⟩
  · exact et_e (h.e.nd rfl (hF.nD (fun _ => rfl) (fun _ => rfl) (fun _ => rfl) (fun _ => rfl)) rfl) h3 hn ha (ac_M (na := na) fs hX.2.2.2 hT) rfl
  · exact et_d (h.d.n3 (hF.nC rfl rfl rfl rfl)) h3 ha ha (ac_M (na := na) fs hX.2.2.2 hT) (if_pos rfl).symm
theorem ac_rs2 (h : rsR ad C M ab nk np na ne nb nt H) (ha : app < na) (fs : fsame app (ac0 M ne app a) Mf) (hX : rX ad C' Mf ab nk app K (ac_B M app) T) (hF : rF app C C') (h00 : cI C' 8 0 0 = x) : ∃ nb' nt', rsR ad (cw_sI (cw_sI C' 9 app 3 (cI C 9 app 3)) 9 app 4 (cI C 9 app 4)) (mw_setS (rm_rst Mf ne app app) 66 x) ab nk np na ne nb' nt' H := by
  have o : ∀ f, ¬ f = 9 → cw_sI (cw_sI C' 9 app 3 (cI C 9 app 3)) 9 app 4 (cI C 9 app 4) f = C' f := fun f a => (cw_sI_o a).trans (cw_sI_o a)
  have N : ∀ f, ruF f 99 = true → cN (cw_sI (cw_sI C' 9 app 3 (cI C 9 app 3)) 9 app 4 (cI C 9 app 4)) f = cN C f := fun f hu => by rw [cw_sI_N, cw_sI_N, hF.N hu]
  have nm : ∀ {q : Nat → Bool}, q 66 = false → q 51 = false → q 52 = false → q 53 = false → (∀ j, j < 74 → 51 ≤ j → q j = false) → nM q (mw_setS (rm_rst Mf ne app app) 66 x) = nM q M := fun h1 h2 h3 h4 h5 => (nM_setS h1).trans ((nM_rst h2 h3 h4).trans (nM_ac fs h5))
  have V : ∀ l k, ¬ l = 51 → ¬ l = 52 → (mw_setS (rm_rst Mf ne app app) 66 x).2.2.1 l k = Mf.2.2.1 l k := fun l k l1 l2 => by
    show (rm_rst Mf ne app app).2.2.1 l k = _
    rw [rst_V]; simp [l1, l2]
  have VM : ∀ l k, 55 ≤ l → l ≤ 59 → (mw_setS (rm_rst Mf ne app app) 66 x).2.2.1 l k = (ac0 M ne app a).2.2.1 l k := fun l k l1 l2 => (V l k (by omega) (by omega)).trans (fs.2.1 l k (by omega) (by omega) (by omega) (by omega) (Or.inl ⟨by omega, by omega⟩))
  have VE : ∀ l e, 55 ≤ l → l ≤ 58 → e < ne → (mw_setS (rm_rst Mf ne app app) 66 x).2.2.1 l e = M.2.2.1 l e := fun l e l1 l2 he => by
    rw [VM l e l1 (by omega), ac0_Vf, if_neg (by omega), if_neg (by omega), if_neg (by omega), if_neg (by omega), if_neg (by omega), if_neg (by omega), if_neg (by omega), if_neg (by omega)]
  have V9 : ∀ i, i < 4 * ne → (mw_setS (rm_rst Mf ne app app) 66 x).2.2.1 59 i = M.2.2.1 59 i := fun i hi => by
    rw [VM 59 i (by decide) (by decide), ac0_Vf, if_neg (by omega), if_neg (by omega), if_neg (by omega), if_neg (by omega), if_neg (by omega), if_neg (by omega), if_neg (by omega), if_neg (by omega)]
  have W : ∀ i, i < na → (mw_setS (rm_rst Mf ne app app) 66 x).2.2.1 51 i = M.2.2.1 51 i ∧ (mw_setS (rm_rst Mf ne app app) 66 x).2.2.1 52 i = M.2.2.1 52 i := by
    intro i hi
    show (rm_rst Mf ne app app).2.2.1 51 i = _ ∧ (rm_rst Mf ne app app).2.2.1 52 i = _
    rw [rst_V, rst_V]
    have g59 : ∀ i, Mf.2.2.1 59 i = (ac0 M ne app a).2.2.1 59 i := fun i => fs.2.1 59 i (by decide) (by decide) (by decide) (by decide) (Or.inl (by decide))
    by_cases ia : i = app
    · subst ia
      rw [g59, g59, g59, g59, ac0_Vf, ac0_Vf, ac0_Vf, ac0_Vf]
      simp
    · simp [ia]
      exact ⟨(fs.2.1 51 i (by decide) (by decide) (by decide) (by decide) (Or.inr ia)).trans (ac0_Vo (by decide)), (fs.2.1 52 i (by decide) (by decide) (by decide) (by decide) (Or.inr ia)).trans (ac0_Vo (by decide))⟩
  have g60 : ∀ i, (mw_setS (rm_rst Mf ne app app) 66 x).2.2.2.1 60 i = (ac0 M ne app a).2.2.2.1 60 i := fun i => by
    show (rm_rst Mf ne app app).2.2.2.1 60 i = _
    rw [rst_W, if_neg (fun z => absurd z.1 (by decide))]
    exact fs.2.2 60 i (Or.inl (by decide))
  have g53 : ∀ c, c < 5 → (mw_setS (rm_rst Mf ne app app) 66 x).2.2.2.1 53 c = M.2.2.2.1 53 c := fun c hc => by
    show (rm_rst Mf ne app app).2.2.2.1 53 c = _
    rw [rst_W, if_pos ⟨rfl, hc⟩, fs.2.2 60 _ (Or.inl (by decide)), ac0_Wf, if_pos ⟨rfl, by omega, by omega⟩, show 5 * ne + c - 5 * ne = c by omega]
  have S : ∀ j, ¬ j = 66 → ¬ (j = 63 ∨ j = 64 ∨ j = 65 ∨ j = 67 ∨ j = 68 ∨ j = 72) → (j < 61 ∨ 72 < j) → (mw_setS (rm_rst Mf ne app app) 66 x).1 j = M.1 j := fun j j1 j2 j3 => (show (mw_setS (rm_rst Mf ne app app) 66 x).1 j = Mf.1 j from if_neg j1).trans ((fs.1 j j2).trans (ac0_So (by omega)))
  obtain ⟨nb', nt', hT'⟩ := ac_tale (ad1 := ad) (C1 := cw_sI (cw_sI C' 9 app 3 (cI C 9 app 3)) 9 app 4 (cI C 9 app 4)) (M1 := mw_setS (rm_rst Mf ne app app) 66 x) hX (o 8 (by decide)) (o 14 (by decide)) (o 15 (by decide)) rfl (fun _ => rfl) rfl (by rw [cR_o (o 11 (by decide)), nD_R hF.1 rfl]; exact h.r.2.2.1) h00 rfl ⟨rfl, rfl, rfl⟩ (fun j hj => funext fun i => V j i (by omega) (by omega))
  refine ⟨nb', nt', h.rg.nf rfl ((nC_sI rfl).trans ((nC_sI rfl).trans (hF.nC rfl rfl rfl rfl))) (nm rfl rfl rfl rfl (by decide)), h.ck.nf rfl ((nC_sI rfl).trans ((nC_sI rfl).trans (hF.nC rfl rfl rfl rfl))) (nm rfl rfl rfl rfl (by decide)), ?_, h.o.nd rfl ((nD_sI rfl).trans ((nD_sI rfl).trans (hF.nD (fun _ => rfl) (fun _ => rfl) (fun _ => rfl) (fun _ => rfl)))) (nm rfl rfl rfl rfl (by decide)), h.t.nf (nm rfl rfl rfl rfl (by decide)), ⟨(S 3 (by decide) (by decide) (by decide)).trans h.s.1, (S 19 (by decide) (by decide) (by decide)).trans h.s.2⟩, ?_, ?_, ?_, hT'⟩
  · obtain ⟨⟨c1, c2, c3, c4, c5, c6, c7⟩, c8, c9⟩ := h.cn
    exact ⟨⟨by rw [N _ rfl]; exact c1, by rw [N _ rfl]; exact c2, by rw [N _ rfl]; exact c3, by rw [N _ rfl]; exact c4, by rw [N _ rfl]; exact c5, by rw [N _ rfl]; exact c6, by rw [N _ rfl]; exact c7⟩, by rw [N _ rfl]; exact c8, by rw [N _ rfl]; exact c9⟩
  · obtain ⟨⟨v11, n16, n9⟩, hn20, v0, v1, s48, hV⟩ := h.v
    refine ⟨⟨by rw [N _ rfl]; exact v11, by rw [N _ rfl]; exact n16, by rw [N _ rfl]; exact n9⟩, hn20, by rw [cR_o (o 11 (by decide)), nD_R hF.1 rfl]; exact v0, by rw [cI_o (o 11 (by decide)), nD_I hF.1 rfl]; exact v1, (S 48 (by decide) (by decide) (by decide)).trans s48, fun i hi => ?_⟩
    obtain ⟨p0, p1, ⟨k, hk, p2, p3⟩, p4, p5, p6⟩ := hV i hi
    have mv : ∀ j, 49 ≤ j → j ≤ 50 → (mw_setS (rm_rst Mf ne app app) 66 x).2.2.1 j i = M.2.2.1 j i := fun j h1 h2 => (V j i (by omega) (by omega)).trans ((fs.2.1 j i (by omega) (by omega) (by omega) (by omega) (Or.inl ⟨by omega, by omega⟩)).trans (ac0_Vo (by omega)))
    have q9 : ∀ j, cR (cw_sI (cw_sI C' 9 app 3 (cI C 9 app 3)) 9 app 4 (cI C 9 app 4)) 9 i j = cR C' 9 i j := fun j => by unfold cR; rw [cw_sI_f, cw_sI_f]
    have j9 : ∀ j, ¬ j = 3 → ¬ j = 4 → cI (cw_sI (cw_sI C' 9 app 3 (cI C 9 app 3)) 9 app 4 (cI C 9 app 4)) 9 i j = cI C' 9 i j := fun j j3 j4 => by rw [cI_sI_n (fun z => j4 z.2.2), cI_sI_n (fun z => j3 z.2.2)]
    rw [cR_o (o 16 (by decide)), nD_R hF.1 rfl, j9 0 (by decide) (by decide), j9 2 (by decide) (by decide), q9, nD_I hF.1 rfl, nD_I hF.1 rfl, nD_R hF.1 rfl, mv 49 (by decide) (by decide), mv 50 (by decide) (by decide), (W i hi).1, (W i hi).2]
    refine ⟨p0, p1, ⟨k, hk, p2, p3⟩, p4, ?_⟩
    by_cases e : i = app
    · subst e
      rw [cI_sI_n (fun z => absurd z.2.2 (by decide)), cI_sI_e, cI_sI_e]
      exact ⟨p5, p6⟩
    · have q := hF.2 i e
      rw [cI_sI_n (fun z => e z.2.1), cI_sI_n (fun z => e z.2.1), cI_sI_n (fun z => e z.2.1), cI_sI_n (fun z => e z.2.1), q.1, q.2]
      exact ⟨p5, p6⟩
  · obtain ⟨⟨n17, n3⟩, hn512, z7, z8, s54, hN⟩ := h.e
    refine ⟨⟨by rw [N _ rfl]; exact n17, by rw [N _ rfl]; exact n3⟩, hn512, by rw [cR_o (o 11 (by decide)), nD_R hF.1 rfl]; exact z7, by rw [cI_o (o 11 (by decide)), nD_I hF.1 rfl]; exact z8, (S 54 (by decide) (by decide) (by decide)).trans s54, fun i hi => ?_⟩
    rw [cR_o (o 17 (by decide)), cI_o (o 3 (by decide)), cI_o (o 3 (by decide)), cR_o (o 3 (by decide)), nD_R hF.1 rfl, nD_R hF.1 rfl, nD_I hF.1 rfl, nD_I hF.1 rfl, VE 55 i (by decide) (by decide) hi, VE 56 i (by decide) (by decide) hi, VE 57 i (by decide) (by decide) hi]
    exact hN i hi
  · obtain ⟨d1, d2, d3⟩ := h.d
    refine ⟨fun i hi => by rw [(W i hi).1, (W i hi).2]; exact d1 i hi, fun c hc => by rw [g53 c hc]; exact d2 c hc, fun e he => ?_⟩
    obtain ⟨a2, b2, k1, k2, k3, k4, ⟨k5, k6, k7, k8⟩, k9, k10, k11, k12, k13⟩ := d3 e he
    unfold enH
    rw [cR_o (o 3 (by decide)), cI_o (o 3 (by decide)), cI_o (o 3 (by decide)), cI_o (o 3 (by decide)), cI_o (o 3 (by decide)), nD_R hF.1 rfl, nD_I hF.1 rfl, nD_I hF.1 rfl, nD_I hF.1 rfl, nD_I hF.1 rfl]
    refine ⟨a2, b2, k1, k2, (VE 56 e (by decide) (by decide) he).trans k3, (VE 58 e (by decide) (by decide) he).trans k4, ?_, k9, k10, k11, k12, fun c hc => ?_⟩
    · rw [V9 _ (by omega), V9 _ (by omega), V9 _ (by omega), V9 _ (by omega)]
      exact ⟨k5, k6, k7, k8⟩
    · rw [g60, ac0_Wf, if_neg (by omega)]
      exact k13 c hc
end ACS
