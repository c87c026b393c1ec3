theorem an_S {M : mw_S} {c : Nat} {v : Int32} : ((v, rm_ans M c) : Int32 × mw_S).2.1 = M.1 := ans_S
theorem an_U {M : mw_S} {c : Nat} {v : Int32} : ((v, rm_ans M c) : Int32 × mw_S).2.2.2.2.2 = M.2.2.2.2 := ans_U
theorem an_W {M : mw_S} {c : Nat} {v : Int32} : ((v, rm_ans M c) : Int32 × mw_S).2.2.2.2.1 = M.2.2.2.1 := ans_W
theorem nM_Wj {M M' : mw_S} {j : Nat} (h : nM (fun l => Nat.ble 74 l) M' = nM (fun l => Nat.ble 74 l) M) (hj : 74 ≤ j) : M'.2.2.2.1 j = M.2.2.2.1 j := by
  have e := congrArg (fun z : mw_S => z.2.2.2.1 j) h
  have e : (bif Nat.ble 74 j then M'.2.2.2.1 j else fun _ => 0) = (bif Nat.ble 74 j then M.2.2.2.1 j else fun _ => 0) := e
  rw [Nat.ble_eq_true_of_le hj] at e
  exact e
theorem or_a {M : mw_S} {v : Int32} {c : Nat} {Q : Prop} : (∃ c', ((v, rm_ans M c) : Int32 × mw_S).2 = rm_ans M c') ∨ Q := Or.inl ⟨c, rfl⟩
theorem make_or {M : mw_S} {na : Nat} {i s : Int32} : (∃ c, (sp_make M na i s).2 = rm_ans M c) ∨ ∃ a x y, (sp_make M na i s).2 = rm_make M a x y := by
  unfold sp_make sp_makeR
  repeat' split
  all_goals first | exact or_a | exact Or.inr ⟨_, _, _, rfl⟩
theorem charge_or {M : mw_S} {n : Nat} {i w x : Int32} : (∃ c, (sp_charge M n i w x).2 = rm_ans M c) ∨ ∃ a y z, (sp_charge M n i w x).2 = rm_charge M n a y z := by
  unfold sp_charge
  repeat' split
  all_goals first | exact or_a | exact Or.inr ⟨_, _, _, rfl⟩
theorem pour_or {M : mw_S} {n : Nat} {i j x : Int32} : (∃ c, (sp_pour M n i j x).2 = rm_ans M c) ∨ ∃ a b y z, (sp_pour M n i j x).2 = rm_pour M n a b y z := by
  unfold sp_pour
  repeat' split
  all_goals first | exact or_a | exact Or.inr ⟨_, _, _, _, rfl⟩

theorem T_place {G : mm_G} {L B : Nat × Nat} {m b xa k : Nat} {am : Nat → Nat} {scr : List Value} {h : mm_H} (I : INV G m am b scr xa B k h) (hk : k < 512) (hL1 : B.1 + 330 * k + 400 ≤ L.1) (hL2 : B.2 + 2460 * k + 3000 ≤ L.2) : TWO G m am b scr xa B k L mX11_place mX12_place [] h := by
  obtain ⟨M, ab, nk, np, hM, hPX, n, hn, hn8, hb1, hb2⟩ := I
  obtain ⟨ad_, C_, na, ne, nb, nt, H_, -, -, RR, -⟩ := id hM
  have h20 := RR.v.2.1
  have s48 : M.1 48 = nI na := RR.v.2.2.2.2.1
  have s54 : M.1 54 = nI ne := RR.e.2.2.2.2.1
  have hk40 := RR.rg.2.1.1
  refine two_s (v := .int (M.1 24)) (M' := M) (n' := n) hM hn hb1 hb2 hL1 hL2 (fun ad C na ne nb nt H h' R hC l1 l2 => ?_) (fun h' hW => ?_) (hPX.k1) rfl (fun _ _ => rfl) hn (by omega) hn8
  · refine mm_Ok.post (pl_ok R.o.1.1 R.o.2.2.2.1 hC) (fun r h1 z => ?_)
    obtain ⟨rfl, rfl⟩ := z
    exact ⟨rfl, _, ad, C, na, ne, nb, nt, H, hC, R, rfl, Nat.le_add_right _ _, Nat.le_add_right _ _⟩
  · refine mm_Ok.post (ok_X12_place hW) (fun r h1 z => ?_)
    obtain ⟨rfl, rfl⟩ := z
    exact ⟨⟨_, by rw [mw_r25_self]; exact hW⟩, rfl, rfl⟩


theorem T_retire {G : mm_G} {L B : Nat × Nat} {m b xa k : Nat} {am : Nat → Nat} {scr : List Value} {h : mm_H} {i : Int32} (I : INV G m am b scr xa B k h) (hk : k < 512) (hL1 : B.1 + 330 * k + 400 ≤ L.1) (hL2 : B.2 + 2460 * k + 3000 ≤ L.2) : TWO G m am b scr xa B k L mX11_retire mX12_retire [.int i] h := by
  obtain ⟨M, ab, nk, np, hM, hPX, n, hn, hn8, hb1, hb2⟩ := I
  obtain ⟨ad_, C_, na, ne, nb, nt, H_, -, -, RR, -⟩ := id hM
  have h20 := RR.v.2.1
  have s48 : M.1 48 = nI na := RR.v.2.2.2.2.1
  have s54 : M.1 54 = nI ne := RR.e.2.2.2.2.1
  have hk40 := RR.rg.2.1.1
  obtain ⟨ad0, C0, _, _, _, _, _, -, -, -, hRV⟩ := id hM
  have hB22 : ∀ p, M.2.2.1 22 p = 0 ∨ M.2.2.1 22 p = 1 := fun p => hRV.1.2.2.2.2.2.2.2.2.2.1 22 p rfl
  have hnp := RR.rg.2.1.2
  by_cases hi : sp_in i (nI np) = 0
  · refine two_s (v := .int (-1)) (M' := rm_ans M 1) (n' := n) hM hn hb1 hb2 hL1 hL2 (fun ad C na ne nb nt H h' R hC l1 l2 => ?_) (fun h' hW => ?_) (hPX.ans) ans_U (fun j _ => by rw [ans_W]) (by rw [ans_S]; exact hn) (by omega) hn8
    · exact rt_aftB R hi hC
    · refine mm_Ok.post (ok_X12_retireB RR.s.2 (by
        unfold sp_in at hi
        by_cases z : i < 0
        · exact Or.inl z
        · rw [if_neg z] at hi
          by_cases w : nI np ≤ i
          · exact Or.inr (Int32.not_lt.mpr w)
          · rw [if_neg w] at hi; exact absurd hi (by decide)) hW) (fun r h1 z => ?_)
      exact ⟨⟨_, by rw [mw_r25_self]; exact z.1⟩, z.2.1, z.2.2⟩
  · obtain ⟨p, hp, rfl⟩ := sp_in_of hi rfl (by omega)
    refine two_s (v := .int (if M.2.2.1 22 p = 0 then 1 else 0)) (M' := mw_setV M 22 p 1) (n' := n) hM hn hb1 hb2 hL1 hL2 (fun ad C na ne nb nt H h' R hC l1 l2 => ?_) (fun h' hW => ?_) (hPX.ret) rfl (fun _ _ => rfl) hn (by omega) hn8
    · exact rt_aft R hp (hB22 p) hC
    · refine mm_Ok.post (ok_X12_retire RR.s.2 hnp hp hW) (fun r h1 z => ?_)
      exact ⟨⟨_, by rw [mw_r25_self]; exact z.1⟩, z.2.1, z.2.2⟩


theorem T_make {G : mm_G} {L B : Nat × Nat} {m b xa k : Nat} {am : Nat → Nat} {scr : List Value} {h : mm_H} {i s : Int32} (I : INV G m am b scr xa B k h) (hk : k < 512) (hL1 : B.1 + 330 * k + 400 ≤ L.1) (hL2 : B.2 + 2460 * k + 3000 ≤ L.2) : TWO G m am b scr xa B k L mX11_make mX12_make [.int i, .int s] h := by
  obtain ⟨M, ab, nk, np, hM, hPX, n, hn, hn8, hb1, hb2⟩ := I
  obtain ⟨ad_, C_, na, ne, nb, nt, H_, -, -, RR, -⟩ := id hM
  have h20 := RR.v.2.1
  have s48 : M.1 48 = nI na := RR.v.2.2.2.2.1
  have s54 : M.1 54 = nI ne := RR.e.2.2.2.2.1
  have hk40 := RR.rg.2.1.1
  obtain ⟨na_, ne_, ⟨p48, p20⟩, p54, PJm⟩ := id hPX
  have hne : ne_ < 512 := by have := PJm.2.2.2.2.2; omega
  have eA : (sp_make M na_ i s).2.2.2.2.2 = M.2.2.2.2 ∧ (∀ l, 100 ≤ l → (sp_make M na_ i s).2.2.2.2.1 l = M.2.2.2.1 l) ∧ (sp_make M na_ i s).2.1 1 = M.1 1 := by
    rcases make_or (M := M) (na := na_) (i := i) (s := s) with ⟨c, e⟩ | ⟨_, _, _, e⟩
    · rw [e]; exact ⟨ans_U, fun l _ => congrFun ans_W l, congrFun ans_S 1⟩
    · rw [e]; exact ⟨rfl, fun l hl => nM_Wj ((nM_setS rfl).trans ((nM_setV rfl).trans ((nM_setV rfl).trans ((nM_setV rfl).trans (nM_setV rfl))))) (by omega), rfl⟩
  obtain ⟨eU, eW, eS⟩ := eA
  have h7 := PJm.2.2.1.2
  refine two_s (v := .int (sp_make M na_ i s).1) (M' := (sp_make M na_ i s).2) (n' := n) hM hn hb1 hb2 hL1 hL2 (fun ad C na ne nb nt H h' R hC l1 l2 => ?_) (fun h' hW => ?_) (hPX.make p48 p20 RR.s.1 (by omega)) eU eW (eS.trans hn) (by omega) hn8
  · have en : na = na_ := (nI_eq (by have := R.v.2.1; omega) (by omega)).mp (R.v.2.2.2.2.1.symm.trans p48)
    subst en
    exact mm_Ok.post (mk_aft R h7 l1 (by omega) hC) (fun r h1 z => z.le (by decide) (by decide))
  · refine mm_Ok.post (ok_X12_make RR.s.1 (by omega) p48 p20 (fun k hk => (h7 k hk).imp id (fun ⟨p, p1, p2⟩ => ⟨p, by have := RR.rg.2.1.2; omega, p2⟩)) hW) (fun r h1 z => ?_)
    exact ⟨⟨_, by rw [mw_r25_self]; exact z.1⟩, z.2.1, z.2.2⟩


theorem T_charge {G : mm_G} {L B : Nat × Nat} {m b xa k : Nat} {am : Nat → Nat} {scr : List Value} {h : mm_H} {i w x : Int32} (I : INV G m am b scr xa B k h) (hk : k < 512) (hL1 : B.1 + 330 * k + 400 ≤ L.1) (hL2 : B.2 + 2460 * k + 3000 ≤ L.2) : TWO G m am b scr xa B k L mX11_charge mX12_charge [.int i, .int w, .int x] h := by
  obtain ⟨M, ab, nk, np, hM, hPX, n, hn, hn8, hb1, hb2⟩ := I
  obtain ⟨ad_, C_, na, ne, nb, nt, H_, -, -, RR, -⟩ := id hM
  have h20 := RR.v.2.1
  have s48 : M.1 48 = nI na := RR.v.2.2.2.2.1
  have s54 : M.1 54 = nI ne := RR.e.2.2.2.2.1
  have hk40 := RR.rg.2.1.1
  obtain ⟨na_, ne_, ⟨p48, p20⟩, p54, PJm⟩ := id hPX
  have hne : ne_ < 512 := by have := PJm.2.2.2.2.2; omega
  have eA : (sp_charge M ne_ i w x).2.2.2.2.2 = M.2.2.2.2 ∧ (∀ l, 100 ≤ l → (sp_charge M ne_ i w x).2.2.2.2.1 l = M.2.2.2.1 l) ∧ (sp_charge M ne_ i w x).2.1 1 = M.1 1 := by
    rcases charge_or (M := M) (n := ne_) (i := i) (w := w) (x := x) with ⟨c, e⟩ | ⟨_, _, _, e⟩
    · rw [e]; exact ⟨ans_U, fun l _ => congrFun ans_W l, congrFun ans_S 1⟩
    · rw [e]; exact ⟨rfl, fun l hl => nM_Wj (nM_chg rfl rfl rfl rfl rfl rfl rfl rfl rfl rfl) (by omega), rfl⟩
  obtain ⟨eU, eW, eS⟩ := eA
  refine two_s (v := .int (sp_charge M ne_ i w x).1) (M' := (sp_charge M ne_ i w x).2) (n' := n) hM hn hb1 hb2 hL1 hL2 (fun ad C na ne nb nt H h' R hC l1 l2 => ?_) (fun h' hW => ?_) (hPX.charge p48 p20 p54 (by omega) (by omega)) eU eW (eS.trans hn) (by omega) hn8
  · have en : na = na_ := (nI_eq (by have := R.v.2.1; omega) (by omega)).mp (R.v.2.2.2.2.1.symm.trans p48)
    have en2 : ne = ne_ := (nI_eq (by have := R.e.2.1; omega) (by omega)).mp (R.e.2.2.2.2.1.symm.trans p54)
    subst en; subst en2
    exact cg_aft R PJm.2.2.2.1 hne l1 l2 hC
  · refine mm_Ok.post (ok_X12_charge p48 p20 p54 (by omega) hW) (fun r h1 z => ?_)
    exact ⟨⟨_, by rw [mw_r25_self]; exact z.1⟩, z.2.1, z.2.2⟩


theorem T_pour {G : mm_G} {L B : Nat × Nat} {m b xa k : Nat} {am : Nat → Nat} {scr : List Value} {h : mm_H} {i j x : Int32} (I : INV G m am b scr xa B k h) (hk : k < 512) (hL1 : B.1 + 330 * k + 400 ≤ L.1) (hL2 : B.2 + 2460 * k + 3000 ≤ L.2) : TWO G m am b scr xa B k L mX11_pour mX12_pour [.int i, .int j, .int x] h := by
  obtain ⟨M, ab, nk, np, hM, hPX, n, hn, hn8, hb1, hb2⟩ := I
  obtain ⟨ad_, C_, na, ne, nb, nt, H_, -, -, RR, -⟩ := id hM
  have h20 := RR.v.2.1
  have s48 : M.1 48 = nI na := RR.v.2.2.2.2.1
  have s54 : M.1 54 = nI ne := RR.e.2.2.2.2.1
  have hk40 := RR.rg.2.1.1
  obtain ⟨na_, ne_, ⟨p48, p20⟩, p54, PJm⟩ := id hPX
  have hne : ne_ < 512 := by have := PJm.2.2.2.2.2; omega
  have eA : (sp_pour M ne_ i j x).2.2.2.2.2 = M.2.2.2.2 ∧ (∀ l, 100 ≤ l → (sp_pour M ne_ i j x).2.2.2.2.1 l = M.2.2.2.1 l) ∧ (sp_pour M ne_ i j x).2.1 1 = M.1 1 := by
    rcases pour_or (M := M) (n := ne_) (i := i) (j := j) (x := x) with ⟨c, e⟩ | ⟨_, _, _, _, e⟩
    · rw [e]; exact ⟨ans_U, fun l _ => congrFun ans_W l, congrFun ans_S 1⟩
    · rw [e]; exact ⟨rfl, fun l hl => nM_Wj (nM_pour rfl rfl rfl rfl rfl rfl rfl rfl rfl) (by omega), rfl⟩
  obtain ⟨eU, eW, eS⟩ := eA
  refine two_s (v := .int (sp_pour M ne_ i j x).1) (M' := (sp_pour M ne_ i j x).2) (n' := n) hM hn hb1 hb2 hL1 hL2 (fun ad C na ne nb nt H h' R hC l1 l2 => ?_) (fun h' hW => ?_) (hPX.pour p48 p20 p54 (by omega) (by omega)) eU eW (eS.trans hn) (by omega) hn8
  · have en : na = na_ := (nI_eq (by have := R.v.2.1; omega) (by omega)).mp (R.v.2.2.2.2.1.symm.trans p48)
    have en2 : ne = ne_ := (nI_eq (by have := R.e.2.1; omega) (by omega)).mp (R.e.2.2.2.2.1.symm.trans p54)
    subst en; subst en2
    exact pr_aft R PJm.2.2.2.1 hne l1 l2 hC
  · refine mm_Ok.post (ok_X12_pour p48 p20 p54 (by omega) hW) (fun r h1 z => ?_)
    exact ⟨⟨_, by rw [mw_r25_self]; exact z.1⟩, z.2.1, z.2.2⟩


theorem T_all {G : mm_G} {L B : Nat × Nat} {m b xa k : Nat} {am : Nat → Nat} {scr : List Value} {h : mm_H} {w : Int32} (I : INV G m am b scr xa B k h) (hk : k < 512) (hL1 : B.1 + 330 * k + 400 ≤ L.1) (hL2 : B.2 + 2460 * k + 3000 ≤ L.2) : TWO G m am b scr xa B k L mX11_all mX12_all [.int w] h := by
  obtain ⟨M, ab, nk, np, hM, hPX, n, hn, hn8, hb1, hb2⟩ := I
  obtain ⟨ad_, C_, na, ne, nb, nt, H_, -, -, RR, -⟩ := id hM
  have h20 := RR.v.2.1
  have s48 : M.1 48 = nI na := RR.v.2.2.2.2.1
  have s54 : M.1 54 = nI ne := RR.e.2.2.2.2.1
  have hk40 := RR.rg.2.1.1
  obtain ⟨na_, ne_, ⟨p48, p20⟩, p54, PJm⟩ := id hPX
  have hne : ne_ < 512 := by have := PJm.2.2.2.2.2; omega
  refine two_s (v := .long (sp_all M na_ w).1) (M' := rm_ans M (sp_all M na_ w).2) (n' := n) hM hn hb1 hb2 hL1 hL2 (fun ad C na ne nb nt H h' R hC l1 l2 => ?_) (fun h' hW => ?_) (hPX.ans) ans_U (fun j _ => by rw [ans_W]) (by rw [ans_S]; exact hn) (by omega) hn8
  · have en : na = na_ := (nI_eq (by have := R.v.2.1; omega) (by omega)).mp (R.v.2.2.2.2.1.symm.trans p48)
    subst en
    exact mm_Ok.post (al_aft R hC) (fun r h1 z => z.le (by decide) (by decide))
  · refine mm_Ok.post (ok_X12_all p48 p20 hW) (fun r h1 z => ?_)
    exact ⟨⟨_, by rw [mw_r25_self]; exact z.1⟩, z.2.1, z.2.2⟩


theorem T_undo {G : mm_G} {L B : Nat × Nat} {m b xa k : Nat} {am : Nat → Nat} {scr : List Value} {h : mm_H} (I : INV G m am b scr xa B k h) (hk : k < 512) (hL1 : B.1 + 330 * k + 400 ≤ L.1) (hL2 : B.2 + 2460 * k + 3000 ≤ L.2) : TWO G m am b scr xa B k L mX11_undo mX12_undo [] h := by
  obtain ⟨M, ab, nk, np, hM, hPX, n, hn, hn8, hb1, hb2⟩ := I
  obtain ⟨ad_, C_, na, ne, nb, nt, H_, -, -, RR, -⟩ := id hM
  have h20 := RR.v.2.1
  have s48 : M.1 48 = nI na := RR.v.2.2.2.2.1
  have s54 : M.1 54 = nI ne := RR.e.2.2.2.2.1
  have hk40 := RR.rg.2.1.1
  obtain ⟨na_, ne_, ⟨p48, p20⟩, p54, PJm⟩ := id hPX
  have hne : ne_ < 512 := by have := PJm.2.2.2.2.2; omega
  rcases Nat.eq_zero_or_pos ne_ with e0 | e0
  · subst e0
    refine two_s (v := .int (-2)) (M' := rm_ans M 2) (n' := n) hM hn hb1 hb2 hL1 hL2 (fun ad C na ne nb nt H h' R hC l1 l2 => ?_) (fun h' hW => ?_) (hPX.ans) ans_U (fun j _ => by rw [ans_W]) (by rw [ans_S]; exact hn) (by omega) hn8
    · have en2 : ne = 0 := (nI_eq (by have := R.e.2.1; omega) (by decide)).mp (R.e.2.2.2.2.1.symm.trans p54)
      exact mm_Ok.post (un_no R.g R.v R.e en2 hC) (fun r h1 z => z.aft R (by decide))
    · refine mm_Ok.post (ok_X12_undoN p54 hW) (fun r h1 z => ?_)
      exact ⟨⟨_, by rw [mw_r25_self]; exact z.1⟩, z.2.1, z.2.2⟩
  · obtain ⟨mm, rfl⟩ : ∃ mm, ne_ = mm + 1 := ⟨ne_ - 1, by omega⟩
    obtain ⟨ua, ub, u1, u2, u3, u4, u5⟩ := hPX.undo p48 p20 p54 (by omega) (by omega)
    refine two_s (v := .int (nI mm)) (M' := rm_rst (mw_setS M 54 (nI mm)) mm ua ub) (n' := n) hM hn hb1 hb2 hL1 hL2 (fun ad C na ne nb nt H h' R hC l1 l2 => ?_) (fun h' hW => ?_) (u5) rfl (fun j hj => funext fun l => if_neg (by omega)) hn (by omega) hn8
    · have en : na = na_ := (nI_eq (by have := R.v.2.1; omega) (by omega)).mp (R.v.2.2.2.2.1.symm.trans p48)
      have en2 : ne = mm + 1 := (nI_eq (by have := R.e.2.1; omega) (by omega)).mp (R.e.2.2.2.2.1.symm.trans p54)
      subst en; subst en2
      exact mm_Ok.post (un_aft R u3 u4 u1 u2 hC) (fun r h1 z => z.le (by decide) (by decide))
    · refine mm_Ok.post (ok_X12_undo p54 (by omega) u3 u4 (by omega) (by omega) hW) (fun r h1 z => ?_)
      exact ⟨⟨_, by rw [mw_r25_self]; exact z.1⟩, z.2.1, z.2.2⟩


theorem T_feed {G : mm_G} {L B : Nat × Nat} {m b xa k : Nat} {am : Nat → Nat} {scr : List Value} {h : mm_H} {w : Int64} {x : Int32} (I : INV G m am b scr xa B k h) (hk : k < 512) (hL1 : B.1 + 330 * k + 400 ≤ L.1) (hL2 : B.2 + 2460 * k + 3000 ≤ L.2) : TWO G m am b scr xa B k L mX11_feed mX12_feed [.long w, .int x] h := by
  obtain ⟨M, ab, nk, np, hM, hPX, n, hn, hn8, hb1, hb2⟩ := I
  obtain ⟨ad_, C_, na, ne, nb, nt, H_, -, -, RR, -⟩ := id hM
  have h20 := RR.v.2.1
  have s48 : M.1 48 = nI na := RR.v.2.2.2.2.1
  have s54 : M.1 54 = nI ne := RR.e.2.2.2.2.1
  have hk40 := RR.rg.2.1.1
  have fU : ∀ c, (fdM M w n c).2.2.2 = M.2.2.2 := fun c => by
    induction c with
    | zero => rfl
    | succ c ih => exact ih
  have eU : (sp_feed M n w x).2.2.2.2.2 = M.2.2.2.2 ∧ (∀ j, 100 ≤ j → (sp_feed M n w x).2.2.2.2.1 j = M.2.2.2.1 j) ∧ ∃ n', (sp_feed M n w x).2.1 1 = nI n' ∧ n' ≤ n + 8 ∧ n' ≤ 800 := by
    unfold sp_feed
    by_cases x1 : x < 1
    · rw [if_pos x1]; exact ⟨an_U, fun j _ => congrFun an_W j, n, (congrFun an_S 1).trans hn, by omega, hn8⟩
    · rw [if_neg x1]
      by_cases x8 : x ≤ 8
      · rw [if_pos x8]
        obtain ⟨c, c1, c8, rfl⟩ := nI_of8 x1 x8
        rw [nI_clamp (by omega)]
        by_cases hc : n + c ≤ 800
        · rw [if_pos hc]
          exact ⟨congrArg (fun z => z.2) (fU c), fun j _ => congrArg (fun z => z.1 j) (fU c), n + c, fdM_1 M w n c hn, by omega, hc⟩
        · rw [if_neg hc]; exact ⟨an_U, fun j _ => congrFun an_W j, n, (congrFun an_S 1).trans hn, by omega, hn8⟩
      · rw [if_neg x8]; exact ⟨an_U, fun j _ => congrFun an_W j, n, (congrFun an_S 1).trans hn, by omega, hn8⟩
  obtain ⟨eU, eW, n', e1, e2, e3⟩ := eU
  refine two_s (v := .int (sp_feed M n w x).1) (M' := (sp_feed M n w x).2) (n' := n') hM hn hb1 hb2 hL1 hL2 (fun ad C na ne nb nt H h' R hC l1 l2 => ?_) (fun h' hW => ?_) (hPX.feed hn hn8) eU eW e1 e2 e3
  · exact mm_Ok.post (fe_aft R hn hn8 hC) (fun r h1 z => z.le (by decide) (by decide))
  · refine mm_Ok.post (rf_feed hn hn8 hW) (fun r h1 z => ?_)
    exact ⟨⟨_, by rw [mw_r25_self]; exact z.1⟩, z.2.1, z.2.2⟩


