/-! both calls: act -/
section UUS
variable {M : mw_S} {ab : Nat → Option Nat} {F : rn_F} {i k q f n app : Nat} {x y : Int32} {T : Nat → Nat → Option Nat}
def UU (T : Nat → Nat → Option Nat) (r : Int32 × mw_S) : Prop := r.2.2.2.2.2 = T
def UUF (T : Nat → Nat → Option Nat) (F : rn_F) : Prop := ∀ (M : mw_S) (x : Int32) (k q : Nat), M.2.2.2.2 = T → UU T (F M x k q)
theorem UU_if {c : Prop} [Decidable c] {a b : Int32 × mw_S} (ha : UU T a) (hb : UU T b) : UU T (if c then a else b) := by split <;> assumption
theorem UU_B (hF : UUF T F) (h : M.2.2.2.2 = T) : UU T (rnB F M k q) := by
  unfold rnB
  refine UU_if h ?_
  exact hF (rm_ent M k q) (M.2.2.1 11 (6 * k + q)) k q h
theorem UU_U (hF : UUF T F) (h : M.2.2.2.2 = T) {o : Option Nat} : UU T (rnU F M o q) := by
  cases o with
  | none => exact h
  | some j => exact UU_B hF h
theorem UU_M (h : M.2.2.2.2 = T) : UU T (rnM M y x) := by
  unfold rnM
  exact UU_if (UU_if h h) (UU_if (UU_if h h) (UU_if h h))
theorem UU_S (hF : UUF T F) (h : M.2.2.2.2 = T) : UU T (rnS ab F M i k q) := by
  unfold rnS
  refine UU_if (UU_U hF h) (UU_if (UU_U hF h) (UU_if h (UU_if (UU_M h) (UU_if (UU_M h) (UU_if (UU_M h) (UU_if h (UU_if (UU_if h h) (UU_if (hF _ _ _ _ h) ?_))))))))
  unfold rnT
  exact UU_if (hF _ _ _ _ (hF _ _ _ _ h)) (hF _ _ _ _ h)
theorem UU_A : ∀ f, UUF T (rnA ab f) := by
  intro f
  induction f with
  | zero =>
    intro M x k q h
    show UU T (if x < 0 then (0, M) else (3, M))
    exact UU_if h h
  | succ f ih =>
    intro M x k q h
    show UU T (if x < 0 then (0, M) else if M.1 67 = 400 then (3, M) else rnN (rnA ab f) (rnS ab (rnA ab f) (mw_setS M 67 (M.1 67 + 1)) x.toNatClampNeg k q) x.toNatClampNeg k q)
    have hS : UU T (rnS ab (rnA ab f) (mw_setS M 67 (M.1 67 + 1)) x.toNatClampNeg k q) := UU_S ih h
    refine UU_if h (UU_if h ?_)
    unfold rnN
    exact UU_if (ih _ _ _ _ hS) hS
theorem UU_H (h : M.2.2.2.2 = T) : UU T (rnH ab M q) := UU_U (UU_A 400) h
theorem UU_W : ∀ (f q : Nat) (r : Int32 × mw_S), UU T r → UU T (rnW ab f q r) := by
  intro f
  induction f with
  | zero => intro q r h; exact h
  | succ f ih =>
    intro q r h
    show UU T (if r.1 = 0 then rnW ab f (q + 1) (rnH ab r.2 q) else r)
    exact UU_if (ih _ _ (UU_H h)) h
theorem UU_act {i x : Int32} (h : M.2.2.2.2 = T) : UU T (sp_act M ab n i x) := by
  have hE : ∀ (M : mw_S) (a : Nat) (w z : Int32), M.2.2.2.2 = T → UU T (rnE M n a w z) := fun M a w z h => by
    unfold rnE
    exact UU_if h (UU_if h h)
  unfold sp_act
  have ha : ∀ c, (rm_ans M c).2.2.2.2 = T := fun c => ans_U.trans h
  refine UU_if (ha 1) (UU_if (ha 1) (UU_if ?_ (ha 1)))
  have h0 : UU T (rnH ab (ac0 M n i.toNatClampNeg x) 0) := UU_H h
  unfold sp_actR
  refine UU_if h0 ?_
  have h1 : UU T (rnW ab 4 1 ((rnH ab (ac0 M n i.toNatClampNeg x) 0).1, mw_setS (rnH ab (ac0 M n i.toNatClampNeg x) 0).2 63 0)) := UU_W 4 1 _ h0
  unfold sp_actC
  refine UU_if (hE _ _ _ _ h1) ?_
  unfold sp_actD
  exact hE _ _ _ _ (UU_H h1)
end UUS

theorem T_act {G : mm_G} {L B : Nat × Nat} {m b xa k : Nat} {am : Nat → Nat} {scr : List Value} {h : mm_H} {i x : Int32} (I : INV G m am b scr xa B k h) (hk : k < 512) (hL1 : B.1 + 330 * k + 400 ≤ L.1) (hL2 : B.2 + 2460 * k + 3000 ≤ L.2) : TWO G m am b scr xa B k L mX11_act mX12_act [.int i, .int x] h := by
  obtain ⟨M, ab, nk, np, hM, hPX, n, hn, hn8, hb1, hb2⟩ := I
  obtain ⟨ad_, C_, na, ne, nb, nt, H_, -, -, RR, -⟩ := id hM
  have h20 := RR.v.2.1
  have s48 : M.1 48 = nI na := RR.v.2.2.2.2.1
  have s54 : M.1 54 = nI ne := RR.e.2.2.2.2.1
  have hk40 := RR.rg.2.1.1
  obtain ⟨na_, ne_, ⟨p48, p20⟩, p54, PJm⟩ := id hPX
  have hne : ne_ < 512 := by have := PJm.2.2.2.2.2; omega
  obtain ⟨⟨oK, oQ, hA⟩, hcv, hH, h0, hAe⟩ := PJm.1
  have eU : (sp_act M ab ne_ i x).2.2.2.2.2 = M.2.2.2.2 := UU_act rfl
  have eA : (∀ l, 100 ≤ l → (sp_act M ab ne_ i x).2.2.2.2.1 l = M.2.2.2.1 l) ∧ (sp_act M ab ne_ i x).2.1 1 = M.1 1 := by
    unfold sp_act
    rw [p48]
    by_cases hi : sp_in i (nI na_) = 0
    · rw [if_pos hi]; exact ⟨fun l _ => congrFun an_W l, congrFun an_S 1⟩
    · obtain ⟨app, ha, rfl⟩ := sp_in_of hi rfl (by omega)
      rw [if_neg hi, nI_clamp (show app < 2 ^ 31 by omega)]
      by_cases x0 : x < 0
      · rw [if_pos x0]; exact ⟨fun l _ => congrFun an_W l, congrFun an_S 1⟩
      · rw [if_neg x0]
        by_cases x1 : x ≤ 999
        · rw [if_pos x1]
          obtain ⟨v, hv1, rfl⟩ := nI_ofL x0 (Int32.le_trans x1 (by decide))
          have hv : v ≤ 999 := (nI_leI (b := 999) (by omega) (by decide)).mp x1
          obtain ⟨K, h0K, S0⟩ := ac_stg (ne := ne_) RR.t PJm.2.2.2.1 hA hH p20 ha hv
          obtain ⟨fs, cF⟩ := stg_0 h0K S0
          have cR0 := (S0.next (by decide) h0K (q := 0) (by decide)).2
          rw [actR_fl cR0]
          generalize fl0 ab (rnH ab (ac0 M ne_ app (nI v)) 0) = F at *
          have w1 : ∀ l, 100 ≤ l → F.2.2.2.2.2.1 l = M.2.2.2.1 l := fun l hl => funext fun i => (fs.2.2 l i (Or.inl (by omega))).trans (ac0_Wo (by omega))
          have s1 : F.2.2.1 1 = M.1 1 := (fs.1 1 (by decide)).trans (ac0_So (by decide))
          have bad : ∀ z : Int32, (∀ l, 100 ≤ l → (mw_setS (rm_rst F.2.2 ne_ app app) 66 z).2.2.2.1 l = M.2.2.2.1 l) ∧ (mw_setS (rm_rst F.2.2 ne_ app app) 66 z).1 1 = M.1 1 := fun z => ⟨fun l hl => funext fun i => by
            show (rm_rst F.2.2 ne_ app app).2.2.2.1 l i = _
            rw [rst_W, if_neg (by omega)]; exact congrFun (w1 l hl) i, s1⟩
          by_cases f2 : F.1 = 2
          · rw [if_pos f2]; exact bad _
          · rw [if_neg f2]
            unfold rnE
            by_cases f0 : F.1 = 0
            · rw [if_pos f0]; exact ⟨w1, s1⟩
            · rw [if_neg f0]
              split
              · exact bad _
              · exact bad _
        · rw [if_neg x1]; exact ⟨fun l _ => congrFun an_W l, congrFun an_S 1⟩
  obtain ⟨eW, eS⟩ := eA
  refine two_s (v := .int (sp_act M ab ne_ i x).1) (M' := (sp_act M ab ne_ i x).2) (n' := n) hM hn hb1 hb2 hL1 hL2 (fun ad C na ne nb nt H h' R hC l1 l2 => ?_) (fun h' hW => ?_) (hPX.act RR.t p48 p20 p54 (by omega) (by omega)) eU eW (eS.trans hn) (by omega) hn8
  · have en : na = na_ := (nI_eq (by have := R.v.2.1; omega) (by omega)).mp (R.v.2.2.2.2.1.symm.trans p48)
    have en2 : ne = ne_ := (nI_eq (by have := R.e.2.1; omega) (by omega)).mp (R.e.2.2.2.2.1.symm.trans p54)
    subst en; subst en2
    have e13 : M.1 13 = nI (cN C 0) := R.ck.2.2.2.2.2.1
    have ek : cN C 0 = ka M := by unfold ka; rw [e13, nI_clamp (by have := R.ck.2.2.2.2.2.2.1; omega)]
    exact ac_aft (d := 1208) R PJm.2.2.2.1 (by rw [ek]; exact hA) (by rw [ek]; exact hcv) hH h0 hne (by decide) l1 l2 hC
  · exact ok_X12_act (d := 6) RR.t hA p48 p20 PJm.2.2.2.1 hH p54 (by omega) hW

