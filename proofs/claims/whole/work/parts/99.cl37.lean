/-! pack: all its ways when the text was read -/
section PKR
variable {G : mm_G} {L : Nat × Nat} {d : Nat} {ad ad3 : Nat → Nat → Nat} {C C1 C3 C9 : cw_C} {M R : mw_S} {ab ab' : Nat → Option Nat} {h h0 hb h1 : mm_H} {nk np na ne nb nt nn a0 g0 f i j n y v : Nat} {H : hS} {ho : Int32} {fp : fp_T} {tb : Nat → Nat}
theorem pk_rg (hpv : pvC ad3 C1 R ab' nk nn np nn ho) (had : adR ad3 (cw_sI C1 11 0 2 (-1)) C9 nk nn np) (d5 : dF np C3 C1) (hn5 : cL C3 5 np 0 = R.2.2.2.1 102 0) (h55 : cI C3 5 np 5 = 0) (h34 : R.1 34 = ho) (hy : R.1 23 = nI y) (hy1 : 1 ≤ y) (hy2 : y ≤ 100) (hv : v ≤ y) (hho : ho = nI v) (r1 : np < 12) (r2 : nk + nn ≤ 40) : rgR ad3 C9 (pkX R fp nk nn np) (nk + nn) (np + 1) := by
  obtain ⟨hE, hG, hD, hA, hnm, -, -, ho4, -⟩ := hpv
  obtain ⟨b1, b2, b3, b4, b5, b6, b7, b8⟩ := had
  obtain ⟨⟨m7, m18, m19, m4, m5⟩, hkp, q0, q1, q2, q3, q4, hKn, hP⟩ := hG
  have o : ∀ f, ¬ f = 11 → cw_sI C1 11 0 2 (-1) f = C1 f := fun f hf => cw_sI_o hf
  have o9 : ∀ f, ¬ f = 7 → ¬ f = 11 → ¬ f = 18 → ¬ f = 19 → C9 f = C1 f := fun f a b c d => (b1 f a c d).trans (o f b)
  have N : ∀ f, cN C9 f = cN C1 f := fun f => (b2 f).trans cw_sI_N
  have e5 := o9 5 (by decide) (by decide) (by decide) (by decide)
  have e4 := o9 4 (by decide) (by decide) (by decide) (by decide)
  have m4' : nk + nn ≤ cN C1 4 := by
    by_cases z : nk + nn = 0
    · omega
    · have := (hnm (nk + nn - 1) (by omega)).1; omega
  refine ⟨⟨by rw [N]; exact m7, by rw [N]; exact m18, by rw [N]; exact m19, by rw [N]; exact m4', by rw [N]; exact hD.1⟩, ⟨r2, by omega⟩, ?_, b4, ?_, b5, ?_, fun i hi => ⟨?_, ?_⟩, fun p hp => ?_⟩
  · rw [b3, cR_o (o 7 (by decide))]; exact q0
  · rw [b3, cR_o (o 7 (by decide))]; exact q2
  · rw [b6, cI_o (o 7 (by decide)), cI_o (o 5 (by decide)), ho4, hho]
    have c74 : cI C1 7 0 4 = nI (y - 1) := by
      have e : cI C1 7 0 4 + 1 = nI (y - 1) + 1 := by rw [q4, hy, nI_p1, show y - 1 + 1 = y by omega]
      have e2 := congrArg (fun z => z - 1) e
      have e3 : ∀ x : Int32, x + 1 - 1 = x := fun x => un_x3
      rw [e3, e3] at e2
      exact e2
    show _ = (pkX R fp nk nn np).1 23
    rw [pkX_S, mw_u_ne _ _ (by decide), mw_u_eq, h34, hho, hy, c74]
    by_cases z : v = y
    · rw [if_pos ((nI_ltI (by omega) (by omega)).mpr (by omega)), if_pos (by rw [z]), z]
    · rw [if_neg (fun w => absurd ((nI_ltI (by omega) (by omega)).mp w) (by omega)), if_neg (nI_ne z (by omega) (by omega)), nI_p1, show y - 1 + 1 = y by omega, Int32.add_zero]
  · rw [b7]
    by_cases z : nk ≤ i
    · rw [if_pos ⟨z, hi⟩]
    · rw [if_neg (fun w => z w.1), cR_o (o 18 (by decide))]; exact (hKn i (by omega)).1
  · rw [cL_o e4, pkX_W, if_neg (fun z => absurd z.1 (by decide))]; exact (hnm i hi).2.2
  · unfold pkK
    rw [b8, cL_o e5, cI_o e5, cI_o e5, cR_o (o 19 (by decide)), pkX_W, pkX_V, pkX_V]
    by_cases z : p = np
    · subst z
      rw [if_pos rfl, if_pos ⟨rfl, rfl⟩, if_neg (fun z => absurd z.1 (by decide)), if_pos ⟨rfl, rfl⟩, if_pos ⟨rfl, rfl⟩]
      exact ⟨rfl, (d5.2.1 0).trans hn5, ho4.trans h34.symm, (d5.2.2 5 (by decide)).trans h55⟩
    · rw [if_neg z, if_neg (fun w => z w.2), if_neg (fun w => z w.2), if_neg (fun w => z w.2), if_neg (fun w => z w.2), if_neg (fun w => z w.2)]
      exact hP p (by omega)
def pkO (ad : Nat → Nat → Nat) (h : mm_H) (n1 n2 : Nat) (M R : mw_S) (fp : fp_T) (ab ab' : Nat → Option Nat) (nk nn np a0 : Nat) (r : Option Value) (h1 : mm_H) : Prop :=
  (¬ fp.1 = 0 ∧ (0 < fp.1 ∧ aft ad h n1 n2 ab nk np (.int fp.1) (ghM M (mw_setS (mw_setS (mw_setS (setF R fp) 1 0) 13 (nI a0)) 24 fp.2)) r h1)) ∨
  (fp.1 = 0 ∧ ¬ (np < 12 ∧ nk + nn ≤ 40) ∧ aft ad h n1 n2 ab nk np (.int (-3)) (ghM (rm_ans M 3) (mw_setS (mw_setS (mw_setS (rm_ans (setF R fp) 3) 1 0) 13 (nI a0)) 24 (-1))) r h1) ∨
  (fp.1 = 0 ∧ (np < 12 ∧ nk + nn ≤ 40) ∧ aft ad h n1 n2 ab' (nk + nn) (np + 1) (.int 0) (pkX R fp nk nn np) r h1)
/-- homes: numbers below the next one -/
def hmP (M : mw_S) (np : Nat) : Prop := ∃ y, M.1 23 = nI y ∧ 1 ≤ y ∧ y ≤ np + 1 ∧ ∀ p, p < np → ∃ v, v < y ∧ M.2.2.1 21 p = nI v
theorem hoI_of (h : hmP R np) (hnp : np ≤ 12) (h0 : 0 ≤ hoI R np) : ∃ y v, R.1 23 = nI y ∧ 1 ≤ y ∧ y ≤ np + 1 ∧ v ≤ y ∧ hoI R np = nI v := by
  obtain ⟨y, y1, y2, y3, y4⟩ := h
  refine ⟨y, ?_⟩
  unfold hoI at h0 ⊢
  by_cases z : R.1 101 = 1
  · rw [if_pos z] at h0 ⊢
    unfold hmI at h0 ⊢
    by_cases w : R.2.2.2.1 104 0 = spL [104, 111, 117, 115, 101]
    · rw [if_pos w]; exact ⟨0, y1, y2, y3, Nat.zero_le _, rfl⟩
    · rw [if_neg w] at h0 ⊢
      cases e : klA (R.2.2.2.1 101) (R.2.2.2.1 104 0) np with
      | none => rw [e] at h0; exact absurd h0 (by show ¬ (0 : Int32) ≤ -1; decide)
      | some p =>
        obtain ⟨v, v1, v2⟩ := y4 p (klA_s _ _ e).1
        exact ⟨v, y1, y2, y3, by omega, v2⟩
  · rw [if_neg z]; exact ⟨y, y1, y2, y3, Nat.le_refl _, y1⟩
theorem hmP.kk (h : hmP M np) (hK : kk nk a0 g0 M R) : hmP R np := by
  obtain ⟨y, y1, y2, y3, y4⟩ := h
  refine ⟨y, (hK.1 23 (by unfold kkS kbS kpS; omega)).trans y1, y2, y3, fun p hp => ?_⟩
  rw [hK.2.2.2.2 21 p (by unfold kkV; omega)]; exact y4 p hp
end PKR
theorem pk_aS {G : mm_G} {L : Nat × Nat} {d : Nat} {ad : Nat → Nat → Nat} {C : cw_C} {M : mw_S} {ab : Nat → Option Nat} {h h0 : mm_H} {nk np na ne nb nt a0 g0 n : Nat} {H : hS} {tb : Nat → Nat} (Rr : rsR ad C M ab nk np na ne nb nt H) (hlt : lt_ G h0) (hn : M.1 1 = nI n) (hn7 : n ≤ 700) (htp : tp M tb) (h13 : M.1 13 = nI a0) (ha0 : 2 * a0 + n ≤ 4200) (ha4 : a0 ≤ 4000) (h111 : M.1 111 = nI g0) (hg1 : g0 ≤ 20000) (hP : hmP M np) (hB : ∀ i, M.2.2.1 10 i = 0 ∨ M.2.2.1 10 i = 1) (hr : ¬ (pPack tb n (pkM0 M)).1 = 0) (hL1 : h.2.1 + 2 * n + 8 ≤ L.1) (hL2 : h.2.2 + 14 * n + 52 ≤ L.2) (hC : cw ad h0 C h) : mm_Ok G mX11_pack L (d + 20) [.ref (ad 11 0)] h (fun r h1 => ∃ nn, (1 ≤ nn ∧ nn ≤ 10 ∧ (pPack tb n (pkM0 M)).2.1.1 35 = nI nn) ∧ pkO ad h (2 * n + 8) (14 * n + 52) M (pPack tb n (pkM0 M)).2.1 (jdg (pPack tb n (pkM0 M)).2.1 (abN (pPack tb n (pkM0 M)).2.1 nk ab) (kd_ (pPack tb n (pkM0 M)).2.1) (ku (pPack tb n (pkM0 M)).2.1) (fpOf (pPack tb n (pkM0 M)).2.1)) ab (abN (pPack tb n (pkM0 M)).2.1 nk ab) nk nn np a0 r h1) := by
  have hI := pI_0 hn hn7 htp h13 ha0
  have hg := gI_0 (tb := tb) (n := n) h111 hg1
  have hK0 := kk.pack (np := np) (M := pkM0 M) Rr.s.1 Rr.rg.2.1.1 Rr.s.2 Rr.rg.2.1.2 hI hg rfl
  have hK : kk nk a0 g0 M (pPack tb n (pkM0 M)).2.1 := kk0.trans hK0
  obtain ⟨-, nn, nn1, nn2, nn3, hRI, hIe, hge⟩ := pPack_ri (M := pkM0 M) Rr.s.1 Rr.rg.2.1.1 Rr.s.2 Rr.rg.2.1.2 hI hg rfl rfl h13 h111 rfl rfl hr
  have h21 : ∀ p, p < np → 0 ≤ M.2.2.1 21 p := fun p hp => by
    obtain ⟨y, -, -, y3, y4⟩ := hP
    obtain ⟨v, v1, v2⟩ := y4 p hp
    rw [v2]; exact Int32.not_lt.mp (nI_pos (by have := Rr.rg.2.1.2; omega))
  have h23 : 0 ≤ M.1 23 := by
    obtain ⟨y, y1, -, y3, -⟩ := hP
    rw [y1]; exact Int32.not_lt.mp (nI_pos (by have := Rr.rg.2.1.2; omega))
  obtain ⟨nh, p0, nh1, nh2, hZ, hj01, hoP, hoN⟩ := pk_home (M := pkM0 M) (tb := tb) (n := n) Rr.s.1 Rr.rg.2.1.1 Rr.s.2 Rr.rg.2.1.2 hI hg rfl h21 h23 hK0 hr
  have enh : nh = nn := (nI_eq (by omega) (by omega)).mp (nh1.symm.trans nn3)
  subst enh
  have hb10 := Clo_10.pack (tb := tb) (n := n) (M := pkM0 M) (fun _ _ h => h) hB
  have h24 : (pPack tb n (pkM0 M)).2.1.1 24 = -1 := (Clo_24 (x := -1)).pack (tb := tb) (n := n) (M := pkM0 M) (fun _ _ h => h) (fun _ => rfl) hIe.2.1
  have hT := hRI.T (M0 := pkM0 M) (ab := ab) Rr.t hK0 (by have := Rr.rg.2.1.1; omega)
  have hJ := jdg_FF hRI hIe hT.1 (by have := Rr.rg.2.1.1; omega)
  have hab : ∀ i, nk ≤ i → i < nk + nh → abN (pPack tb n (pkM0 M)).2.1 nk ab i = kfi ((pPack tb n (pkM0 M)).2.1.2.2.2.1 100) ((pPack tb n (pkM0 M)).2.1.2.2.2.1 103 i) i := fun i h1 _ => if_neg (by omega)
  have hk50 : nk + nh ≤ 50 := by have := Rr.rg.2.1.1; omega
  have hac := Rr.na0 h13 ha4
  have hkg := kg_of h111 hg1
  refine mm_Ok.post (pk_S (d := d) Rr.rk Rr.o hn ⟨rfl, rfl⟩ (fun i => (htp i).1) (tpC_of Rr htp) hlt hn7 hI hg Rr.s.1 Rr.s.2 h13 h111 Rr.t h21 h23 hb10 hr nn3 nn2 hL1 hL2 hC) (fun r h1 z => ⟨nh, ⟨nn1, nn2, nn3⟩, ?_⟩)
  obtain ⟨R, hRe⟩ : ∃ R, R = (pPack tb n (pkM0 M)).2.1 := ⟨_, rfl⟩
  rw [← hRe] at z hK hb10 h24 hT hJ hab hRI hIe hge hZ hj01 hoP hoN ⊢
  obtain ⟨ad3, C3, hb, hx, ok3, hu, ⟨C1, o1, e1, d5, z⟩, ba, bb, q5, q55⟩ := z
  have hu : hus ad C ad3 C3 := hu
  have e11 : C1 11 = C3 11 := d5.1 11 (by decide) (by decide) (by decide) (by decide)
  have hb1 : h1.2.1 ≤ h.2.1 + (2 * n + 8) := by rw [e1]; omega
  have hb2 : h1.2.2 ≤ h.2.2 + (14 * n + 52) := by rw [e1]; omega
  rcases z with ⟨x0, rfl, hC1, hq⟩ | ⟨hp0, hks, hpv, z⟩
  · have hF : MinF (FF R (abN R nk ab) nk np g0 a0 (nk + nh)) (cI C1 2 0 0, cI C1 2 0 1) := by
      rcases hq with ⟨q1, q2, q3⟩ | ⟨q1, q2⟩
      · obtain ⟨-, p, p1, p2, p3⟩ := hoN q1
        rw [q2, q3, p3.2.2]
        exact cls_FW hRI hIe hk50 hZ hab p3 p1 p2
      · exact cls_FF hRI hIe hk50 hZ hab hb10 (hoP q1).2 q2
    rcases MinF.same hF hJ with ⟨w, -⟩ | ⟨-, w⟩
    · exact absurd w x0
    · rw [← w]
      refine Or.inl ⟨x0, ?_, rfl, h1, ad, _, na, ne, nb, nt, H, pk_bF ok3 hu o1 e11 hC1, Rr.fin hK.setF hac hkg h13, rfl, hb1, hb2⟩
      rcases hF with ⟨w, -⟩ | ⟨p, f, w, f1, f7, -⟩
      · exact absurd w x0
      · rw [show cI C1 2 0 0 = nI f from congrArg Prod.fst w]
        exact (nI_ltI (a := 0) (by decide) (by omega)).mpr (by omega)
  · have hF : MinF (FF R (abN R nk ab) nk np g0 a0 (nk + nh)) ((0 : Int32), -1) := cls_FF hRI hIe hk50 hZ hab hb10 (hoP hp0).2 hks
    have j0 : (jdg R (abN R nk ab) (kd_ R) (ku R) (fpOf R)).1 = 0 := by
      rcases MinF.same hF hJ with ⟨-, w⟩ | ⟨w, -⟩
      · exact w
      · exact absurd rfl w
    rcases z with ⟨rm, rfl, hC1⟩ | ⟨rm, rfl, C9, hC9, had⟩
    · refine Or.inr (Or.inl ⟨j0, rm, rfl, h1, ad, _, na, ne, nb, nt, H, pk_bN Rr.o.1.2.2 ok3 hu o1 e11 hC1, (Rr.ans (c := 3) (by decide)).fin hK.setF.ans3 ?_ ?_ ?_, rfl, hb1, hb2⟩)
      · rw [show cAns C 3 = cw_sI C 13 0 3 (cI C 13 0 3 + 1) from if_neg (by decide), cw_sI_N]; exact hac
      · exact hkg
      · exact h13
    · have hP' := hP.kk hK
      obtain ⟨y, v, y1, y2, y3, v1, v2⟩ := hoI_of hP' Rr.rg.2.1.2 hp0
      have hG := pk_rg (fp := jdg R (abN R nk ab) (kd_ R) (ku R) (fpOf R)) hpv had d5 q5 q55 (hoP hp0).1 y1 y2 (by have := Rr.rg.2.1.2; omega) v1 v2 rm.1 rm.2
      obtain ⟨b1, b2, b3, b4, b5, b6, b7, b8⟩ := had
      have o9 : ∀ f, ¬ f = 7 → ¬ f = 11 → ¬ f = 18 → ¬ f = 19 → C9 f = C1 f := fun f a b c d => (b1 f a c d).trans (cw_sI_o b)
      have N9 : ∀ f, cN C9 f = cN C1 f := fun f => (b2 f).trans cw_sI_N
      have hr3 := pk_hr3 ok3 o1
      have hw : rwS ad C ad3 C9 := fun f i f7 f11 f18 f19 hi => by
        obtain ⟨a1, a2, a3, a4, a5⟩ := hr3 f i f11 hi
        refine ⟨by rw [N9]; exact a1, a2, fun j => ?_, fun j => ?_⟩
        · rw [cI_o (o9 f f7 f11 f18 f19)]; exact congrFun a3 j
        · rw [cR_o (o9 f f7 f11 f18 f19)]; exact congrFun a5 j
      have c11 : C9 11 = cw_sI C1 11 0 2 (-1) 11 := b1 11 (by decide) (by decide) (by decide)
      have hu9 : hus ad C ad3 C9 := by
        obtain ⟨u1, u2, u3, u4, u5, u6⟩ := hu
        refine ⟨u1, by rw [N9, cN_o e11]; exact u2, by rw [cI_o c11, cI_sI_n (by decide), cI_o e11]; exact u3, by rw [cI_o c11, cI_sI_e], fun j j1 j2 => by rw [cI_o c11, cI_sI_n (fun z => j2 z.2.2), cI_o e11]; exact u5 j j1 j2, fun j => ?_⟩
        have e : cR (cw_sI C1 11 0 2 (-1)) 11 0 j = cR C1 11 0 j := by unfold cR; rw [cw_sI_f]
        rw [cR_o c11, e, cR_o e11]; exact u6 j
      have a7 : ad3 7 0 = ad 7 0 := (hr3 7 0 (by decide) Rr.rg.1.1).2.1
      have q0 := o9 0 (by decide) (by decide) (by decide) (by decide)
      have q1 := o9 1 (by decide) (by decide) (by decide) (by decide)
      have q4 := o9 4 (by decide) (by decide) (by decide) (by decide)
      have q21 := o9 21 (by decide) (by decide) (by decide) (by decide)
      have hE9 : ckE ad3 C9 R (abN R nk ab) (nk + nh) := hpv.1.same q0 q1 q4 q21
      have hyK : ∀ g, g < cN C9 1 → yK R g < nk + nh := fun g hg_ => by
        rw [hE9.2.2.2.1.1] at hg_
        by_cases gg : g < g0
        · have b := (Rr.ck.2.2.1 g (by rw [Rr.ck.2.2.2.1.1, hkg]; exact gg)).2.1
          rw [Rr.cn.1.1] at b
          unfold yK at b ⊢
          rw [hK.2.2.2.2 98 g (by unfold kkV; omega)]
          omega
        · exact (hRI.2.1 g (by omega) hg_).2.1.2.1
      have rs := pk_rs (fp := jdg R (abN R nk ab) (kd_ R) (ku R) (fpOf R)) Rr hw hu9 a7 hE9 hG hK hT h24 hyK hE9.1.2.2.1 hE9.1.2.2.2
      refine Or.inr (Or.inr ⟨j0, rm, rfl, h1, ad3, _, na, ne, nb, nt, H, fgN_cw hC9 (fun f => ?_), rs, hu9.1, hb1, hb2⟩)
      unfold pkN
      split
      · rename_i e; rcases e with e | e <;> subst e
        · exact hE9.1.2.2.1
        · exact hE9.1.2.2.2
      · split
        · rename_i e; rcases e with e | e <;> subst e
          · rw [N9]; exact hpv.2.2.1.1
          · rw [N9]; exact hpv.2.2.1.2.1
        · split
          · exact Nat.zero_le _
          · split
            · rename_i e; subst e
              have := (o1 9).1
              rw [N9, ← Rr.cn.2.1]; exact this
            · split
              · rename_i e; subst e
                have := (o1 3).1
                rw [N9, ← Rr.cn.2.2]; exact this
              · exact Nat.le_refl _
