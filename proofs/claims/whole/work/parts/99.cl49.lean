/-! both calls: pack -/
section TPK
variable {M M' R : mw_S} {ab : Nat → Option Nat} {nk np k nn a0 : Nat} {u : Nat → Nat → Option Nat} {y : Option Nat} {g : Nat → Int32} {fp : fp_T} {x c : Int32}
theorem PX.un (h : PX M ab nk np k) : PX (mUN u y M) ab nk np k := by
  obtain ⟨na, ne, a, b, h⟩ := h
  exact ⟨na, ne, a, b, h.1.nf rfl rfl (fun _ _ _ => rfl), h.2.1.nf rfl, h.2.2.1.nf rfl, h.2.2.2.1.nf rfl, h.2.2.2.2.1.nf rfl, h.2.2.2.2.2⟩
theorem PX.ans0 (h : PX M ab nk np k) : PX (rm_ans M 3) ab nk np k := by
  obtain ⟨na, ne, a, b, h⟩ := h
  have e : rm_ans M 3 = mw_setV M 2 3 (M.2.2.1 2 3 + 1) := if_neg (by decide)
  rw [e]
  exact ⟨na, ne, a, b, h.1.nf (nM_setV rfl) rfl (fun j a b => mw_u2_row (by omega)), h.2.1.nf (nM_setV rfl), h.2.2.1.nf (nM_setV rfl), h.2.2.2.1.nf (nM_setV rfl), h.2.2.2.2.1.nf (nM_setV rfl), h.2.2.2.2.2⟩
theorem rsR_un {ad : Nat → Nat → Nat} {C : cw_C} {na ne nb nt : Nat} {H : hS} : rsR ad C M ab nk np na ne nb nt H ↔ rsR ad C (mUN u y M) ab nk np na ne nb nt H := Iff.rfl
/-- the order of three scalars does not matter -/
theorem mw_u3 {f : Nat → Int32} {a b c : Int32} (j : Nat) : mw_u (mw_u (mw_u f 1 a) 13 b) 24 c j = mw_u (mw_u (mw_u f 24 c) 1 a) 13 b j := by
  unfold mw_u
  by_cases h1 : j = 1
  · subst h1; rfl
  · by_cases h2 : j = 13
    · subst h2; rfl
    · by_cases h3 : j = 24
      · subst h3; rfl
      · simp [h1, h2, h3]
theorem mw_u5 {f : Nat → Int32} {a b c d e : Int32} (j : Nat) : mw_u (mw_u (mw_u (mw_u (mw_u f 31 d) 32 e) 1 a) 13 b) 24 c j = mw_u (mw_u (mw_u (mw_u (mw_u f 1 a) 31 d) 32 e) 13 b) 24 c j := by
  unfold mw_u
  by_cases h1 : j = 1
  · subst h1; rfl
  · by_cases h2 : j = 31
    · subst h2; rfl
    · by_cases h3 : j = 32
      · subst h3; rfl
      · simp [h1, h2, h3]
theorem mw_u24 {f : Nat → Int32} {a b d e : Int32} (j : Nat) (h : f 24 = c) : mw_u (mw_u (mw_u (mw_u (mw_u f 31 d) 32 e) 1 a) 13 b) 24 c j = mw_u (mw_u (mw_u (mw_u f 1 a) 31 d) 32 e) 13 b j := by
  unfold mw_u
  by_cases h1 : j = 1
  · subst h1; rfl
  · by_cases h2 : j = 31
    · subst h2; rfl
    · by_cases h3 : j = 32
      · subst h3; rfl
      · by_cases h4 : j = 24
        · subst h4; simp [h]
        · simp [h1, h2, h3, h4]
theorem mw_u24' {f : Nat → Int32} {a b : Int32} (j : Nat) (h : f 24 = c) : mw_u (mw_u (mw_u f 1 a) 13 b) 24 c j = mw_u (mw_u f 1 a) 13 b j := by
  unfold mw_u
  by_cases h4 : j = 24
  · subst h4; simp [h]
  · simp [h4]
theorem bk_1 {x y z n B k c : Nat} (e : x ≤ y + 300) (b : y ≤ z + (2 * n + c)) (hc : c ≤ 8) (hb : z + 2 * n ≤ B + 330 * k) : x + 2 * 0 ≤ B + 330 * (k + 1) := by
  have q : x ≤ B + 330 * k + 330 := by omega
  rw [Nat.mul_zero, Nat.add_zero, Nat.mul_add, Nat.mul_one, ← Nat.add_assoc]; exact q
theorem bk_2 {x y z n B k c : Nat} (e : x ≤ y + 2400) (b : y ≤ z + (14 * n + c)) (hc : c ≤ 52) (hb : z + 14 * n ≤ B + 2460 * k) : x + 14 * 0 ≤ B + 2460 * (k + 1) := by
  have q : x ≤ B + 2460 * k + 2460 := by omega
  rw [Nat.mul_zero, Nat.add_zero, Nat.mul_add, Nat.mul_one, ← Nat.add_assoc]; exact q
theorem gh_w {X : mw_S} {j i : Nat} (h : 74 ≤ j) : (mUN u y (ghM M X)).2.2.2.1 j i = M.2.2.2.1 j i := congrFun (ghM_w h) i
theorem gh_wr {X : mw_S} {j i : Nat} (h : 74 ≤ j) : (mUN u y (mw_r25 (ghM M X) g)).2.2.2.1 j i = M.2.2.2.1 j i := congrFun (ghM_w h) i
theorem gh_w3 {X : mw_S} {j i : Nat} (h : 74 ≤ j) : (mUN u y (mw_r25 (ghM (rm_ans M 3) X) g)).2.2.2.1 j i = M.2.2.2.1 j i := by
  rw [gh_wr h, ans_W]
theorem rm_T.an3 (h : rm_T M nk ab) : rm_T (rm_ans M 3) nk ab := by
  have e : rm_ans M 3 = mw_setV M 2 3 (M.2.2.1 2 3 + 1) := if_neg (by decide)
  rw [e]; exact h.nf (nM_setV rfl)
end TPK
theorem T_pack {G : mm_G} {L B : Nat × Nat} {m b xa k : Nat} {am : Nat → Nat} {scr : List Value} {h : mm_H} (I : INV G m am b scr xa B k h) (hk : k < 512) (hL1 : B.1 + 330 * k + 400 ≤ L.1) (hL2 : B.2 + 2460 * k + 3000 ≤ L.2) : TWO G m am b scr xa B k L mX11_pack mX12_pack [] h := by
  obtain ⟨M, ab, nk, np, hM, hPX, n, hn, hn8, hb1, hb2⟩ := I
  obtain ⟨ad, C, na, ne, nb, nt, H, hC, rfl, RR, hRV⟩ := hM
  obtain ⟨na_, ne_, ⟨p48, p20⟩, p54, PJm⟩ := id hPX
  obtain ⟨⟨tb, htp⟩, ⟨n1, a0, q1, q2, q3, q4⟩, g0, g1, g2⟩ := PJm.2.1
  have en : n1 = n := (nI_eq (by omega) (by omega)).mp (q1.symm.trans hn)
  subst en
  have hnp := RR.rg.2.1.2
  have hnk := RR.rg.2.1.1
  have ha4 : a0 ≤ 4000 := by omega
  have hg1 : g0 ≤ 20000 := by omega
  have hac := RR.na0 q3 ha4
  have hkg := kg_of g1 hg1
  by_cases h7 : 700 < n1
  · -- too long
    refine step_c (n1 := 4) (n2 := 25) hC rfl hRV (mm_Ok.post (pk_aL (d := 1207) RR hn h7 hn8 q3 ha4 g1 hg1 (by show h.2.1 + 4 ≤ L.1; omega) (by show h.2.2 + 25 ≤ L.2; omega) (cw_view hC)) (fun r h1 z => ⟨_, _, ab, nk, np, z, fun hh _ hM b1 b2 => ⟨_, rfl, (by show ∃ x, _ = Value.int x; exact ⟨_, rfl⟩), hM.sc, ?_⟩⟩))
    obtain ⟨ad1, C1, na1, ne1, nb1, nt1, H1, hC1, hx1, hRs1, hRV1⟩ := hM
    refine step_r hC1 hRV1 (mm_Ok.post (ok_packL (d := 1208) hn hn8 q3 h7 hRV1.1) (fun r h2 z => ?_))
    obtain ⟨hW, e2, rfl⟩ := z
    have hW2 : mw_W m am (hdr (clS ad1 C1) hh) (ghM M (mw_setS (mw_setS (mw_setS (mw_setS (pkM0 M) 30 0) 1 0) 13 (nI a0)) 24 700)) h2 := hW.re74 (fun j hj => by rw [ghM_S hj]; exact mw_u3 j) rfl (fun j hj => ghM_V hj) (fun j hj => ghM_W hj) (fun _ _ => rfl)
    have PF := hPX.fin (x := 700) RR.t (kk0.sS (a0 := a0) (g0 := g0) (j := 30) (x := 0) (fun z => z.1.1.2.2.2.2.2.2.1 rfl)) q3 ha4 (by omega)
    refine ⟨_, hW2, fun h3 eh hC3 hd => ⟨rfl, _, ab, nk, np, ⟨ad1, C1, na1, ne1, nb1, nt1, H1, hC3, hx1, hRs1, ?_⟩, PF, 0, rfl, by omega, ?_, ?_⟩⟩
    · rw [hd]; exact hRV1.next hW2 rfl (fun j hj => ghM_w (by omega))
    · rw [eh, e2]; show hh.2.1 + _ ≤ _; omega
    · rw [eh, e2]; show hh.2.2 + _ ≤ _; omega
  · have h7 : n1 ≤ 700 := by omega
    have ha0 : 2 * a0 + n1 ≤ 4200 := by omega
    have hI := pI_0 hn h7 htp q3 ha0
    have hg := gI_0 (tb := tb) (n := n1) g1 hg1
    have hK0 := kk.pack (np := np) (M := pkM0 M) RR.s.1 hnk RR.s.2 hnp hI hg rfl
    have hK : kk nk a0 g0 M (pPack tb n1 (pkM0 M)).2.1 := kk0.trans hK0
    by_cases hr : (pPack tb n1 (pkM0 M)).1 = 0
    · -- a fault of the text
      refine step_c (n1 := 2 * n1 + 7) (n2 := 14 * n1 + 48) hC rfl hRV (mm_Ok.post (pk_aF (d := 1190) RR (lt_view hRV.2.2.2.1) hn h7 htp q3 ha0 ha4 g1 hg1 hr (by show h.2.1 + 2 * n1 + 7 ≤ L.1; omega) (by show h.2.2 + 14 * n1 + 48 ≤ L.2; omega) (cw_view hC)) (fun r h1 z => ⟨_, _, ab, nk, np, z, fun hh _ hM b1 b2 => ⟨_, rfl, (by show ∃ x, _ = Value.int x; exact ⟨_, rfl⟩), hM.sc, ?_⟩⟩))
      obtain ⟨ad1, C1, na1, ne1, nb1, nt1, H1, hC1, hx1, hRs1, hRV1⟩ := hM
      refine step_r hC1 hRV1 (mm_Ok.post (ok_packF (d := 1178) hn htp q3 ha0 g1 hg1 RR.s.1 hnk RR.s.2 hnp hRV1.2.1 hRV1.2.2.1 hRV1.2.2.2.1 h7 (by show hh.2.1 + 300 ≤ L.1; omega) (by show hh.2.2 + 2400 ≤ L.2; omega) hr hRV1.1) (fun r h2 z => ?_))
      obtain ⟨u, y, hW, e1, e2, rfl, hu⟩ := z
      have PF := hPX.fin (x := (pPack tb n1 (pkM0 M)).2.1.1 24) RR.t hK q3 ha4 (by omega)
      have hW2 : mw_W m am (hdr (clS ad1 C1) hh) (mUN u y (ghM M (mw_setS (mw_setS (mw_setS (pPack tb n1 (pkM0 M)).2.1 1 0) 13 (nI a0)) 24 ((pPack tb n1 (pkM0 M)).2.1.1 24)))) h2 := hW.re74 (fun j hj => by
          show (ghM M _).1 j = _
          rw [ghM_S hj]; exact mw_u24' j rfl) rfl (fun j hj => ghM_V hj) (fun j hj => ghM_W hj) (fun _ _ => rfl)
      obtain ⟨-, n4, n20, hLT, hsb, ho⟩ := hRV1
      refine ⟨_, hW2, fun h3 eh hC3 hd => ⟨rfl, _, ab, nk, np, ⟨ad1, C1, na1, ne1, nb1, nt1, H1, hC3, hx1, (rsR_un (u := u) (y := y)).mp hRs1, ?_⟩, PF.un (u := u) (y := y), 0, rfl, by omega, ?_, ?_⟩⟩
      · rw [hd]
        refine ⟨hW2.re, (n4.keep hW2).same (fun i hi => hu 4 i (by omega)) (fun i _ => gh_w (by decide)), (n20.keep hW2).same (fun i hi => hu 20 i (by omega)) (fun i _ => gh_w (by decide)), hLT.re hW2, ?_, ho.1, ho.2.1, ?_⟩
        · rw [← hsb]; exact hW2.2.2.2.2.1 b ho.1 ho.2.1 ho.2.2
        · have := hW2.2.2.2.2.2.1; have := ho.2.2; omega
      · rw [eh]; exact bk_1 e1 b1 (by decide) hb1
      · rw [eh]; exact bk_2 e2 b2 (by decide) hb2
    · -- the text was read
      obtain ⟨-, nn, nn1, nn2, nn3, hRI, hIe, hge⟩ := pPack_ri (M := pkM0 M) RR.s.1 hnk RR.s.2 hnp hI hg rfl rfl q3 g1 rfl rfl hr
      have hT := hRI.T (M0 := pkM0 M) (ab := ab) RR.t hK0 (by omega)
      have hJF := jdg_FF hRI hIe hT.1 (by omega)
      have hB10 : ∀ i, M.2.2.1 10 i = 0 ∨ M.2.2.1 10 i = 1 := fun i => hRV.1.2.2.2.2.2.2.2.2.2.1 10 i rfl
      have h24 : (pPack tb n1 (pkM0 M)).2.1.1 24 = -1 := (Clo_24 (x := -1)).pack (tb := tb) (n := n1) (M := pkM0 M) (fun _ _ h => h) (fun _ => rfl) hIe.2.1
      have h102 := pPack_102 (M := pkM0 M) hr
      have hP := PJm.2.2.1.1
      have h21 : ∀ p, p < np → 0 ≤ M.2.2.1 21 p := fun p hp => by
        obtain ⟨y, -, -, y3, y4⟩ := hP
        obtain ⟨v, v1, v2⟩ := y4 p hp
        rw [v2]; exact Int32.not_lt.mp (nI_pos (by omega))
      have h23 : 0 ≤ M.1 23 := by
        obtain ⟨y, y1, -, y3, -⟩ := hP
        rw [y1]; exact Int32.not_lt.mp (nI_pos (by omega))
      obtain ⟨nh, p0, nh1, nh2, hZ, hj01, hoP, hoN⟩ := pk_home (M := pkM0 M) (tb := tb) (n := n1) RR.s.1 hnk RR.s.2 hnp hI hg rfl h21 h23 hK0 hr
      refine step_c (n1 := 2 * n1 + 8) (n2 := 14 * n1 + 52) hC rfl hRV (mm_Ok.post (pk_aS (d := 1190) RR (lt_view hRV.2.2.2.1) hn h7 htp q3 ha0 ha4 g1 hg1 hP hB10 hr (by show h.2.1 + 2 * n1 + 8 ≤ L.1; omega) (by show h.2.2 + 14 * n1 + 52 ≤ L.2; omega) (cw_view hC)) (fun r h1 z => ?_))
      obtain ⟨nn', ⟨nx1, nx2, nx3⟩, z⟩ := z
      have enn : nn' = nn := (nI_eq (by omega) (by omega)).mp (nx3.symm.trans nn3)
      subst enn
      obtain ⟨R_, hRe⟩ : ∃ R_, R_ = pPack tb n1 (pkM0 M) := ⟨_, rfl⟩
      rw [← hRe] at z hK hT hJF h24 h102 hRI hIe hge nn3 hr hoP hoN
      have hrows := hRI.jRows hIe
      have h3R : R_.2.1.1 3 = nI nk := (hK.1 3 (by unfold kkS kbS kpS; omega)).trans RR.s.1
      have h19R : R_.2.1.1 19 = nI np := (hK.1 19 (by unfold kkS kbS kpS; omega)).trans RR.s.2
      -- the reference's part, in common
      have ref : ∀ (v : Int32) (Mx : mw_S) (abx : Nat → Option Nat) (nkx npx : Nat) (hh : mm_H), MID G m am b scr (ad 11 0) M nk np Mx abx nkx npx hh → hh.2.1 ≤ h.2.1 + (2 * n1 + 8) → hh.2.2 ≤ h.2.2 + (14 * n1 + 52) → Mx.1 1 = 0 → PX Mx abx nkx npx (k + 1) →
          (∀ u a g (h2 : mm_H) (h' : mm_H), mw_W m am h' (pkR (jM (mUN u (some a) (mw_setS R_.2.1 1 0)) (jdg R_.2.1 (abN R_.2.1 nk ab) (kd_ R_.2.1) (ku R_.2.1) (fpOf R_.2.1)) g) nk nn' np a0).2 h2 → nmT m am h' M 4 100 nk → nmT m am h' M 20 101 np → (∀ j i, ¬ (j = 4 ∧ nk ≤ i) → u j i = M.2.2.2.2 j i) → nmT m am h2 (mUN u (some a) R_.2.1) 4 100 (nk + nn') → sO m am h2 a ((wo tb n1 1).map nI) → ltr (wo tb n1 1) → (pkR (jM (mUN u (some a) (mw_setS R_.2.1 1 0)) (jdg R_.2.1 (abN R_.2.1 nk ab) (kd_ R_.2.1) (ku R_.2.1) (fpOf R_.2.1)) g) nk nn' np a0).1 = v ∧ ∃ u', mw_W m am h' (mUN u' (some a) (mw_r25 Mx g)) h2 ∧ nmT m am h2 (mUN u' (some a) (mw_r25 Mx g)) 4 100 nkx ∧ nmT m am h2 (mUN u' (some a) (mw_r25 Mx g)) 20 101 npx) →
          mm_Ok G mX12_pack L 1210 [.ref m] hh (fun r' h2 => r' = some (.int v) ∧ INV G m am b scr (ad 11 0) B (k + 1) h2) := by
        intro v Mx abx nkx npx hh hM b1 b2 hs1 hPx hkey
        obtain ⟨ad1, C1, na1, ne1, nb1, nt1, H1, hC1, hx1, hRs1, hRV1⟩ := hM
        refine step_r hC1 hRV1 (mm_Ok.post (ok_packS (d := 1178) (R_ := R_) (nn := nn') (nb := kd_ R_.2.1) (nu_ := ku R_.2.1) (ab_ := abN R_.2.1 nk ab) hn htp q3 ha0 g1 hg1 RR.s.1 hnk RR.s.2 hnp hRV1.2.1 hRV1.2.2.1 hRV1.2.2.2.1 h7 (by show hh.2.1 + 300 ≤ L.1; omega) (by show hh.2.2 + 2400 ≤ L.2; omega) hRe hr hT hrows nn3 nx2 h3R h19R hRV1.1) (fun r h2 z => ?_))
        obtain ⟨u, a, g, hW, e1, e2, rfl, hu, hn4, hso, hltr⟩ := z
        rw [jdg_S] at hW ⊢
        obtain ⟨-, n4, n20, hLT, hsb, ho⟩ := hRV1
        obtain ⟨ev, u', hW2, m4, m20⟩ := hkey u a g h2 _ hW n4 n20 hu hn4 hso hltr
        refine ⟨_, hW2, fun h3 eh hC3 hd => ⟨by rw [ev], _, abx, nkx, npx, ⟨ad1, C1, na1, ne1, nb1, nt1, H1, hC3, hx1, (rsR_U (u := u') (y := some a) (g := g)).mp hRs1, ?_⟩, (hPx.r25 (g := g)).un (u := u') (y := some a), 0, hs1, by omega, ?_, ?_⟩⟩
        · rw [hd]
          refine ⟨hW2.re, m4, m20, hLT.re hW2, ?_, ho.1, ho.2.1, ?_⟩
          · rw [← hsb]; exact hW2.2.2.2.2.1 b ho.1 ho.2.1 ho.2.2
          · have := hW2.2.2.2.2.2.1; have := ho.2.2; omega
        · rw [eh]; exact bk_1 e1 b1 (by decide) hb1
        · rw [eh]; exact bk_2 e2 b2 (by decide) hb2
      obtain ⟨fp, hfp⟩ : ∃ fp, fp = jdg R_.2.1 (abN R_.2.1 nk ab) (kd_ R_.2.1) (ku R_.2.1) (fpOf R_.2.1) := ⟨_, rfl⟩
      rw [← hfp] at z hJF ref
      rcases z with ⟨f1, f2, z⟩ | ⟨f0, fr, z⟩ | ⟨f0, fr, z⟩
      · have PF := hPX.fin (x := fp.2) RR.t (hK.setF (fp := fp)) q3 ha4 (by omega)
        refine ⟨_, _, ab, nk, np, z, fun hh _ hM b1 b2 => ⟨_, rfl, (by show ∃ x, _ = Value.int x; exact ⟨_, rfl⟩), hM.sc, ref fp.1 _ ab nk np hh hM b1 b2 rfl PF (fun u a g h2 h' hW n4 n20 hu hn4 hso hltr => ?_)⟩⟩
        have eR : pkR (jM (mUN u (some a) (mw_setS R_.2.1 1 0)) fp g) nk nn' np a0 = (fp.1, mw_setS (mw_setS (jM (mUN u (some a) (mw_setS R_.2.1 1 0)) fp g) 13 (nI a0)) 24 fp.2) := if_neg (Int32.not_le.mpr f2)
        rw [eR] at hW ⊢
        have hW2 : mw_W m am h' (mUN u (some a) (mw_r25 (ghM M (mw_setS (mw_setS (mw_setS (setF R_.2.1 fp) 1 0) 13 (nI a0)) 24 fp.2)) g)) h2 := hW.re74 (fun j hj => by
            show (ghM M _).1 j = _
            rw [ghM_S hj]; exact mw_u5 j) rfl (fun j hj => by
            funext i
            show (if j = 25 then g i else (ghM M _).2.2.1 j i) = (if j = 25 then g i else _)
            rw [ghM_V hj]; rfl) (fun j hj => ghM_W hj) (fun _ _ => rfl)
        exact ⟨rfl, u, hW2, (n4.keep hW2).same (fun i hi => hu 4 i (by omega)) (fun i _ => gh_wr (by decide)), (n20.keep hW2).same (fun i hi => hu 20 i (by omega)) (fun i _ => gh_wr (by decide))⟩
      · have PF0 : PX (ghM (rm_ans M 3) (mw_setS (mw_setS (mw_setS (rm_ans (setF R_.2.1 fp) 3) 1 0) 13 (nI a0)) 24 (-1))) ab nk np (k + 1) := hPX.ans0.fin (x := -1) (rm_T.an3 RR.t) (hK.setF (fp := fp)).ans3 ((congrFun ans_S 13).trans q3) ha4 (by omega)
        refine ⟨_, _, ab, nk, np, z, fun hh _ hM b1 b2 => ⟨_, rfl, (by show ∃ x, _ = Value.int x; exact ⟨_, rfl⟩), hM.sc, ref (-3) _ ab nk np hh hM b1 b2 rfl PF0 (fun u a g h2 h' hW n4 n20 hu hn4 hso hltr => ?_)⟩⟩
        have eR : pkR (jM (mUN u (some a) (mw_setS R_.2.1 1 0)) fp g) nk nn' np a0 = (-3, rm_ans (mw_setS (jM (mUN u (some a) (mw_setS R_.2.1 1 0)) fp g) 13 (nI a0)) 3) := by
          unfold pkR
          rw [if_pos (show (jM (mUN u (some a) (mw_setS R_.2.1 1 0)) fp g).1 31 ≤ 0 by show fp.1 ≤ 0; rw [f0]; decide)]
          by_cases c : 40 < nk + nn'
          · rw [if_pos c]
          · rw [if_neg c, if_pos (by omega)]
        rw [eR] at hW ⊢
        have e3 : ∀ X : mw_S, rm_ans X 3 = mw_setV X 2 3 (X.2.2.1 2 3 + 1) := fun X => if_neg (by decide)
        rw [e3] at hW
        have hW2 : mw_W m am h' (mUN u (some a) (mw_r25 (ghM (rm_ans M 3) (mw_setS (mw_setS (mw_setS (rm_ans (setF R_.2.1 fp) 3) 1 0) 13 (nI a0)) 24 (-1))) g)) h2 := by
          rw [e3, e3]
          refine hW.re74 (fun j hj => ?_) rfl (fun j hj => ?_) (fun j hj => ghM_W hj) (fun _ _ => rfl)
          · show (ghM _ _).1 j = _
            rw [ghM_S hj]; exact mw_u24 j h24
          · funext i
            show (if j = 25 then g i else (ghM _ _).2.2.1 j i) = mw_u2 (fun j i => if j = 25 then g i else R_.2.1.2.2.1 j i) 2 3 _ j i
            rw [ghM_V hj]
            by_cases c : j = 2 ∧ i = 3
            · obtain ⟨rfl, rfl⟩ := c
              rw [cu2_eq, if_neg (by decide)]
              show mw_u2 R_.2.1.2.2.1 2 3 (R_.2.1.2.2.1 2 3 + 1) 2 3 = R_.2.1.2.2.1 2 3 + 1
              exact cu2_eq
            · rw [cu2_ne c]
              show (if j = 25 then g i else mw_u2 R_.2.1.2.2.1 2 3 _ j i) = _
              rw [cu2_ne c]
        have eU : (rm_ans M 3).2.2.2.2 = M.2.2.2.2 := ans_U
        exact ⟨rfl, u, hW2, (n4.keep hW2).same (fun i hi => hu 4 i (by omega)) (fun i _ => gh_w3 (by decide)), (n20.keep hW2).same (fun i hi => hu 20 i (by omega)) (fun i _ => gh_w3 (by decide))⟩
      · have enh : nh = nn' := (nI_eq (by omega) (by omega)).mp (nh1.symm.trans (by rw [← hRe]; exact nn3))
        subst enh
        have hF : ∀ p f, ¬ FF R_.2.1 (abN R_.2.1 nk ab) nk np g0 a0 (nk + nh) p f := by
          rcases hJF with ⟨-, w⟩ | ⟨p, f, w, w1, w2, -⟩
          · exact w
          · rw [w] at f0
            have := (nI_eq (b := 0) (by omega) (by decide)).mp f0
            omega
        have hp0 : 0 ≤ hoI R_.2.1 np := by
          by_cases w : hoI R_.2.1 np < 0
          · obtain ⟨-, p, p1, p2, p3⟩ := hoN w
            exact absurd (Or.inl ⟨p2, Or.inl ⟨rfl, p3.2.1.1, p3.2.1.2.1, p3.2.1.2.2, p3.2.2⟩⟩) (hF p 2)
          · exact Int32.not_lt.mp w
        obtain ⟨y, v, y1, y2, y3, v1, v2⟩ := hoI_of (hP.kk hK) hnp hp0
        have PF := hPX.join (fp := fp) (by omega) RR.t hK q3 ha4 g1 hn h7 fr.2 fr.1 hRI hIe hge hT hF h19R y1 v1 ((hoP hp0).1.trans v2) y3
        refine ⟨_, _, abN R_.2.1 nk ab, nk + nh, np + 1, z, fun hh _ hM b1 b2 => ⟨_, rfl, (by show ∃ x, _ = Value.int x; exact ⟨_, rfl⟩), hM.sc, ref 0 _ _ _ _ hh hM b1 b2 rfl PF (fun u a g h2 h' hW n4 n20 hu hn4 hso hltr => ?_)⟩⟩
        have eR : pkR (jM (mUN u (some a) (mw_setS R_.2.1 1 0)) fp g) nk nh np a0 = (0, pkDone (jM (mUN u (some a) (mw_setS R_.2.1 1 0)) fp g) nk nh np) := by
          unfold pkR
          rw [if_pos (show (jM (mUN u (some a) (mw_setS R_.2.1 1 0)) fp g).1 31 ≤ 0 by show fp.1 ≤ 0; rw [f0]; decide), if_neg (by omega), if_neg (by omega)]
        rw [eR] at hW ⊢
        have hW2 : mw_W m am h' (mUN (mw_u2 u 20 np (some a)) (some a) (mw_r25 (pkX R_.2.1 fp nk nh np) g)) h2 := by
          refine hW.re74 (fun j hj => rfl) rfl (fun j hj => ?_) (fun j hj => ?_) (fun _ _ => rfl)
          · funext i
            show (if j = 25 then g i else (pkX R_.2.1 fp nk nh np).2.2.1 j i) = mw_u2 (mw_u2 (fun j i => if j = 25 then g i else R_.2.1.2.2.1 j i) 21 np (R_.2.1.1 34)) 22 np 0 j i
            rw [pkX_V]
            unfold mw_u2
            by_cases c : j = 25
            · subst c; rfl
            · rw [if_neg c]
              show _ = if j = 22 ∧ i = np then 0 else if j = 21 ∧ i = np then R_.2.1.1 34 else if j = 25 then g i else R_.2.1.2.2.1 j i
              rw [if_neg c]
          · funext i
            show (pkX R_.2.1 fp nk nh np).2.2.2.1 j i = R_.2.1.2.2.2.1 j i
            rw [pkX_W, if_neg (by omega)]
        refine ⟨rfl, _, hW2, ?_, fun i hi => ?_⟩
        · refine hn4.same (fun i hi => ?_) (fun i hi => ?_)
          · show mw_u2 u 20 np (some a) 4 i = u 4 i
            exact cu2_ne (fun z => absurd z.1 (by decide))
          · show (pkX R_.2.1 fp nk nh np).2.2.2.1 100 i = R_.2.1.2.2.2.1 100 i
            rw [pkX_W, if_neg (fun z => absurd z.1 (by decide))]
        · by_cases e : i = np
          · subst e
            exact ⟨a, wo tb n1 1, cu2_eq, hso, hltr, by
              show (pkX R_.2.1 fp nk nh i).2.2.2.1 101 i = _
              rw [pkX_W, if_pos ⟨rfl, rfl⟩]; exact h102⟩
          · obtain ⟨a', bs, s1, s2, s3, s4⟩ := (n20.keep hW2) i (by omega)
            refine ⟨a', bs, ?_, s2, s3, ?_⟩
            · show mw_u2 u 20 np (some a) 20 i = some a'
              rw [cu2_ne (fun z => e z.2), hu 20 i (by omega)]; exact s1
            · show (pkX R_.2.1 fp nk nh np).2.2.2.1 101 i = _
              rw [pkX_W, if_neg (fun z => e z.2), hK.2.2.2.1 101 i (by omega) (by decide) (by decide)]; exact s4
