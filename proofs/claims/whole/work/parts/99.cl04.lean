theorem cg_aft {G : mm_G} {L : Nat × Nat} {d : Nat} {h h0 : mm_H} {ad : Nat → Nat → Nat} {C : cw_C} {M : mw_S} {ab : Nat → Option Nat} {nk np na ne nb nt : Nat} {H : hS} {i w x : Int32} (R : rsR ad C M ab nk np na ne nb nt H) (hV : rm_V M nk na ab) (hn : ne < 512) (hL1 : h.2.1 + 1 ≤ L.1) (hL2 : h.2.2 + 7 ≤ L.2) (hC : cw ad h0 C h) : mm_Ok G mX11_charge L (d + 2) [.ref (ad 11 0), .int i, .int w, .int x] h (aft ad h 1 7 ab nk np (.int (sp_charge M ne i w x).1) (sp_charge M ne i w x).2) := by
  have g := R.g
  have h20 := R.v.2.1
  have s48 : M.1 48 = nI na := R.v.2.2.2.2.1
  unfold sp_charge
  rw [s48]
  by_cases hi : sp_in i (nI na) = 0
  · rw [if_pos hi]
    exact mm_Ok.post (cg_no g R.v hi hC) (fun r h1 z => z.aft R (by decide))
  · obtain ⟨a, ha, rfl⟩ := sp_in_of hi rfl (by omega)
    rw [if_neg hi, nI_clamp (show a < 2 ^ 31 by omega)]
    by_cases w0 : w < 0
    · rw [if_pos w0]
      exact mm_Ok.post (cg_bad g R.v ha (Or.inl w0) hC) (fun r h1 z => z.aft R (by decide))
    · rw [if_neg w0]
      by_cases x0 : x < 0
      · rw [if_pos x0]
        exact mm_Ok.post (cg_bad g R.v ha (Or.inr (Or.inl x0)) hC) (fun r h1 z => z.aft R (by decide))
      · rw [if_neg x0]
        by_cases w1 : 100000 < w
        · rw [if_pos w1]
          exact mm_Ok.post (cg_bad g R.v ha (Or.inr (Or.inr (Or.inl w1))) hC) (fun r h1 z => z.aft R (by decide))
        · rw [if_neg w1]
          by_cases x1 : x ≤ 100000
          · rw [if_pos x1]
            obtain ⟨p0, p1, -, p4, p5, p6⟩ := R.v.2.2.2.2.2 a ha
            have hroom : rmI C a w x = sp_room M a w.toInt64 x.toInt64 := by
              obtain ⟨wn, hwn, rfl⟩ := nI_ofL w0 (Int32.not_lt.mp w1)
              obtain ⟨xn, hxn, rfl⟩ := nI_ofL x0 x1
              obtain ⟨K, -, -, -, ⟨u, e1, -, u1⟩, ⟨t, e2, t1⟩, z, z1, e3⟩ := hV a ha
              exact room_eq p4 p5 p6 e1 e2 e3 u1 t1 z1 hwn hxn
            by_cases hr : sp_room M a w.toInt64 x.toInt64 = 0
            · rw [if_pos hr]
              exact mm_Ok.post (cg_full g R.v ha w0 x0 w1 x1 (hroom.trans hr) hC) (fun r h1 z => z.aft R (by decide))
            · rw [if_neg hr]
              refine mm_Ok.post (cg_yes g R.v ha w0 x0 w1 x1 (fun z => hr (hroom.symm.trans z)) R.e R.cn.2.2 hn hL1 hL2 hC) (fun r h1 z => ?_)
              refine ⟨by rw [z.1, p5], h0, _, _, na, ne + 1, nb, nt, _, z.2.1, ch_rs R ha hn, cw_ad_o (by rw [chV_N]; exact R.o.1.1), by rw [z.2.2]; exact Nat.le_refl _, by rw [z.2.2]; exact Nat.le_refl _⟩
          · rw [if_neg x1]
            exact mm_Ok.post (cg_bad g R.v ha (Or.inr (Or.inr (Or.inr x1))) hC) (fun r h1 z => z.aft R (by decide))
