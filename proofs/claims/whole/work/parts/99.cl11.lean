/-! the heat of a part is a small number -/
theorem bm64 {n : Nat} (h : n < 2 ^ 62) : Int.bmod (n : Int) (2 ^ 64) = n := by
  rw [Int.bmod_def]
  have e : ((n : Int) % ((2 ^ 64 : Nat) : Int)) = n := Int.emod_eq_of_lt (by omega) (by omega)
  rw [e, if_pos (by omega)]
theorem bm32 {n : Nat} (h : n < 2 ^ 30) : Int.bmod (n : Int) (2 ^ 32) = n := by
  rw [Int.bmod_def]
  have e : ((n : Int) % ((2 ^ 32 : Nat) : Int)) = n := Int.emod_eq_of_lt (by omega) (by omega)
  rw [e, if_pos (by omega)]
theorem d64 {m u : Nat} (hm : m < 2 ^ 62) (hu : u < 2 ^ 62) : Int64.ofNat m / Int64.ofNat u = Int64.ofNat (m / u) := by
  have hd : m / u < 2 ^ 62 := Nat.lt_of_le_of_lt (Nat.div_le_self m u) hm
  refine Int64.toInt_inj.mp ?_
  rw [Int64.toInt_div, Int64.toInt_ofNat_of_lt (by omega), Int64.toInt_ofNat_of_lt (by omega), Int64.toInt_ofNat_of_lt (by omega)]
  rw [show (m : Int).tdiv (u : Int) = ((m / u : Nat) : Int) from rfl]
  exact bm64 hd
theorem t32 {n : Nat} (h : n < 2 ^ 30) : (Int64.ofNat n).toInt32 = nI n := by
  refine Int32.toInt_inj.mp ?_
  rw [Int64.toInt_toInt32, Int64.toInt_ofNat_of_lt (by omega), nI_toInt (by omega)]
  exact bm32 h
theorem part_eq {M : mw_S} {a t u xn : Nat} (e2 : M.2.2.1 52 a = nI t) (e1 : M.2.2.1 51 a = nI u) (ht : t ≤ 100000) (hu : u ≤ 10000) (hx : xn ≤ u) : sp_part M a (nI xn) = nI (t * xn / u) ∧ t * xn / u ≤ 100000 := by
  have hm : t * xn ≤ 100000 * u := Nat.mul_le_mul ht hx
  have hd : t * xn / u ≤ 100000 := by
    rcases Nat.eq_zero_or_pos u with z | z
    · rw [z, Nat.div_zero]; exact Nat.zero_le _
    · exact Nat.div_le_of_le_mul (by rw [Nat.mul_comm u]; exact hm)
  refine ⟨?_, hd⟩
  unfold sp_part
  rw [e1, e2, nI_64 (show t < 2 ^ 31 by omega), nI_64 (show u < 2 ^ 31 by omega), nI_64 (show xn < 2 ^ 31 by omega), ← Int64.ofNat_mul, d64 (by omega) (by omega), t32 (by omega)]
theorem pr_aft {G : mm_G} {L : Nat × Nat} {d : Nat} {h h0 : mm_H} {ad : Nat → Nat → Nat} {C : cw_C} {M : mw_S} {ab : Nat → Option Nat} {nk np na ne nb nt : Nat} {H : hS} {i j x : Int32} (R : rsR ad C M ab nk np na ne nb nt H) (hV : rm_V M nk na ab) (hn : ne < 512) (hL1 : h.2.1 + 1 ≤ L.1) (hL2 : h.2.2 + 7 ≤ L.2) (hC : cw ad h0 C h) : mm_Ok G mX11_pour L (d + 2) [.ref (ad 11 0), .int i, .int j, .int x] h (aft ad h 1 7 ab nk np (.int (sp_pour M ne i j x).1) (sp_pour M ne i j x).2) := by
  have g := R.g
  have h20 := R.v.2.1
  have s48 : M.1 48 = nI na := R.v.2.2.2.2.1
  unfold sp_pour
  rw [s48]
  by_cases hi : sp_in i (nI na) = 0
  · rw [if_pos hi]
    exact mm_Ok.post (pr_i g R.v hi hC) (fun r h1 z => z.aft R (by decide))
  · obtain ⟨a, ha, rfl⟩ := sp_in_of hi rfl (by omega)
    rw [if_neg hi, nI_clamp (show a < 2 ^ 31 by omega)]
    by_cases hj : sp_in j (nI na) = 0
    · rw [if_pos hj]
      exact mm_Ok.post (pr_j g R.v ha hj hC) (fun r h1 z => z.aft R (by decide))
    · obtain ⟨b, hb, rfl⟩ := sp_in_of hj rfl (by omega)
      rw [if_neg hj, nI_clamp (show b < 2 ^ 31 by omega)]
      by_cases hab : a = b
      · subst hab
        rw [if_pos rfl]
        exact mm_Ok.post (pr_e g R.v ha hC) (fun r h1 z => z.aft R (by decide))
      · rw [if_neg (nI_ne hab (by omega) (by omega))]
        by_cases x1 : x < 1
        · rw [if_pos x1]
          exact mm_Ok.post (pr_lo g R.v ha hb hab x1 hC) (fun r h1 z => z.aft R (by decide))
        · rw [if_neg x1]
          by_cases x2 : x ≤ M.2.2.1 51 a
          · rw [if_pos x2]
            obtain ⟨-, -, -, p4, p5, p6⟩ := R.v.2.2.2.2.2 b hb
            have hroom : rmI C b x (sp_part M a x) = sp_room M b x.toInt64 (sp_part M a x).toInt64 := by
              obtain ⟨K, -, -, -, ⟨u, e1, -, u1⟩, ⟨t, e2, t1⟩, z, z1, e3⟩ := hV a ha
              obtain ⟨K', -, -, -, ⟨u', e1', -, u1'⟩, ⟨t', e2', t1'⟩, z', z1', e3'⟩ := hV b hb
              have x0 : ¬ x < 0 := fun y => x1 (Int32.lt_of_lt_of_le y (by decide))
              have x3 : x ≤ 100000 := Int32.le_trans x2 (by rw [e1]; exact Int32.not_lt.mp (fun y => absurd ((nI_ltI (a := 100000) (by decide) (by omega)).mp y) (by omega)))
              obtain ⟨xn, hxn, rfl⟩ := nI_ofL x0 x3
              have hxu : xn ≤ u := by
                rw [e1] at x2
                rcases Nat.lt_or_ge u xn with y | y
                · exact absurd x2 (Int32.not_le.mpr ((nI_ltI (by omega) (by omega)).mpr y))
                · exact y
              obtain ⟨q1, q2⟩ := part_eq e2 e1 t1 u1 hxu
              rw [q1]
              exact room_eq p4 p5 p6 e1' e2' e3' u1' t1' z1' hxn q2
            by_cases hr : sp_room M b x.toInt64 (sp_part M a x).toInt64 = 0
            · rw [if_pos hr]
              exact mm_Ok.post (pr_full g R.v ha hb hab x1 x2 (hroom.trans hr) hC) (fun r h1 z => z.aft R (by decide))
            · rw [if_neg hr]
              refine mm_Ok.post (pr_yes g R.v ha hb hab x1 x2 (fun z => hr (hroom.symm.trans z)) R.e R.cn.2.2 hn hL1 hL2 hC) (fun r h1 z => ?_)
              exact ⟨z.1, h0, _, _, na, ne + 1, nb, nt, _, z.2.1, pr_rs R ha hb hab hn, cw_ad_o (by rw [prV_N]; exact R.o.1.1), by rw [z.2.2]; exact Nat.le_refl _, by rw [z.2.2]; exact Nat.le_refl _⟩
          · rw [if_neg x2]
            exact mm_Ok.post (pr_hi g R.v ha hb hab x1 x2 hC) (fun r h1 z => z.aft R (by decide))
