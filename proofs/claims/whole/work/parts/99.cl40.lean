/-! what holds between calls: call by call -/
def PX (M : mw_S) (ab : Nat → Option Nat) (nk np k : Nat) : Prop := ∃ na ne, (M.1 48 = nI na ∧ na ≤ 20) ∧ M.1 54 = nI ne ∧ PJ M ab nk np na ne k
section PXS
variable {M M' Mf : mw_S} {ab : Nat → Option Nat} {nk np na ne k n a b app : Nat} {oK oQ : Nat → Nat} {what x wi wo hi i j w s : Int32}
theorem PX.ans (h : PX M ab nk np k) {c : Nat} : PX (rm_ans M c) ab nk np (k + 1) := by
  obtain ⟨na, ne, a, b, h⟩ := h
  refine ⟨na, ne, ?_, ?_, h.ans⟩
  · unfold rm_ans; split <;> exact a
  · unfold rm_ans; split <;> exact b
theorem PX.an (h : PX M ab nk np k) {c : Nat} {v : Int32} : PX ((v, rm_ans M c) : Int32 × mw_S).2 ab nk np (k + 1) := h.ans
theorem PX.ret (h : PX M ab nk np k) {p : Nat} : PX (mw_setV M 22 p 1) ab nk np (k + 1) := by
  obtain ⟨na, ne, a, b, h⟩ := h
  exact ⟨na, ne, a, b, h.ret⟩
theorem PX.r25 (h : PX M ab nk np k) {g : Nat → Int32} : PX (mw_r25 M g) ab nk np k := by
  obtain ⟨na, ne, a, b, h⟩ := h
  exact ⟨na, ne, a, b, h.r25⟩
theorem PX.k1 (h : PX M ab nk np k) : PX M ab nk np (k + 1) := by
  have := h.ans (c := 0)
  exact this
theorem room_yes {w t z xn yn : Nat} (e1 : M.2.2.1 51 a = nI w) (e2 : M.2.2.1 52 a = nI t) (e3 : M.2.2.1 50 a = nI z) (hw : w ≤ 10000) (ht : t ≤ 100000) (hz : z ≤ 10000) (hx : xn ≤ 100000) (hy : yn ≤ 100000) (h : ¬ sp_room M a (nI xn).toInt64 (nI yn).toInt64 = 0) : w + xn ≤ z ∧ t + yn ≤ 100000 := by
  unfold sp_room at h
  rw [e1, e2, e3, nI_64 (show w < 2 ^ 31 by omega), nI_64 (show t < 2 ^ 31 by omega), nI_64 (show z < 2 ^ 31 by omega), nI_64 (show xn < 2 ^ 31 by omega), nI_64 (show yn < 2 ^ 31 by omega), ← Int64.ofNat_add, ← Int64.ofNat_add] at h
  have q1 : (0 < lg_cmp (Int64.ofNat (w + xn)) (Int64.ofNat z)) ↔ z < w + xn := by rw [lg_cmp_gt, of64_lt (by omega) (by omega)]
  have q2 : (0 < lg_cmp (Int64.ofNat (t + yn)) 100000) ↔ 100000 < t + yn := by
    rw [lg_cmp_gt, show (100000 : Int64) = Int64.ofNat 100000 by decide, of64_lt (by omega) (by omega)]
  by_cases z1 : z < w + xn
  · rw [if_pos (q1.mpr z1)] at h; exact absurd rfl h
  · by_cases z2 : 100000 < t + yn
    · rw [if_neg (fun y => z1 (q1.mp y)), if_pos (q2.mpr z2)] at h; exact absurd rfl h
    · omega
theorem wB_of {w z t : Nat} (e3 : M.2.2.1 50 a = nI z) (hz : z ≤ 10000) (h1 : w ≤ z) (h2 : t ≤ 100000) : wB M a (nI w) (nI t) := ⟨⟨w, rfl, by rw [e3]; exact (nI_leI (by omega) (by omega)).mpr h1, by omega⟩, t, rfl, h2⟩
theorem PX.make (h : PX M ab nk np k) (hs : M.1 48 = nI na) (h20 : na ≤ 20) (h3 : M.1 3 = nI nk) (hk : nk ≤ 50) : PX (sp_make M na i s).2 ab nk np (k + 1) := by
  unfold sp_make
  rw [h3]
  by_cases hi : sp_in i (nI nk) = 0
  · rw [if_pos hi]; exact h.an
  · obtain ⟨kk, hkk, rfl⟩ := sp_in_of hi rfl (by omega)
    rw [if_neg hi]
    by_cases s0 : s < 0
    · rw [if_pos s0]; exact h.an
    · rw [if_neg s0]
      by_cases s1 : s ≤ 10000
      · rw [if_pos s1]
        have key : PX (sp_makeR M na (nI kk) s).2 ab nk np (k + 1) := by
          unfold sp_makeR
          by_cases e : M.1 48 = 20
          · rw [if_pos e]; exact h.an
          · rw [if_neg e]
            obtain ⟨na', ne, ⟨a1, a2⟩, b, h⟩ := h
            have en : na' = na := (nI_eq (by omega) (by omega)).mp (a1.symm.trans hs)
            subst en
            have hlt : na' < 20 := by
              rcases Nat.lt_or_ge na' 20 with z | z
              · exact z
              · exact absurd (show M.1 48 = 20 by rw [hs, show na' = 20 by omega]; rfl) e
            obtain ⟨ss, hss, rfl⟩ := nI_ofL s0 (Int32.le_trans s1 (by decide))
            have hss : ss ≤ 10000 := (nI_leI (b := 10000) (by omega) (by decide)).mp s1
            have V : ∀ l i, (rm_make M na' (nI kk) (nI ss)).2.2.1 l i = if l = 52 ∧ i = na' then 0 else if l = 51 ∧ i = na' then 0 else if l = 50 ∧ i = na' then nI ss else if l = 49 ∧ i = na' then nI kk else M.2.2.1 l i := fun l i => rfl
            have Vo : ∀ l i, ¬ i = na' → (rm_make M na' (nI kk) (nI ss)).2.2.1 l i = M.2.2.1 l i := fun l i z => by rw [V, if_neg (fun y => z y.2), if_neg (fun y => z y.2), if_neg (fun y => z y.2), if_neg (fun y => z y.2)]
            have Vl : ∀ l i, ¬ (49 ≤ l ∧ l ≤ 52) → (rm_make M na' (nI kk) (nI ss)).2.2.1 l i = M.2.2.1 l i := fun l i z => by rw [V, if_neg (by omega), if_neg (by omega), if_neg (by omega), if_neg (by omega)]
            have nm : ∀ {p : Nat → Bool}, p 48 = false → p 49 = false → p 50 = false → p 51 = false → p 52 = false → nM p (rm_make M na' (nI kk) (nI ss)) = nM p M := fun a b c d e => (nM_setS a).trans ((nM_setV e).trans ((nM_setV d).trans ((nM_setV c).trans (nM_setV b))))
            refine ⟨na' + 1, ne, ⟨rfl, by omega⟩, b, h.of (nm rfl rfl rfl rfl rfl) (fun j h1 h2 => funext fun i => Vl j i (by omega)) (nm rfl rfl rfl rfl rfl) (nm rfl rfl rfl rfl rfl) ⟨fun i hi => ?_, fun e he => ?_, Nat.le_succ_of_le h.2.2.2.2.2⟩⟩
            · by_cases z : i = na'
              · subst z
                refine ⟨kk, by rw [V]; simp, hkk, h.1.2.2.2.2 kk hkk, ⟨0, by rw [V]; simp; rfl, ?_, by decide⟩, ⟨0, by rw [V]; simp; rfl, by decide⟩, ss, hss, by rw [V]; simp⟩
                rw [V]
                simp
                exact (nI_leI (a := 0) (by decide) (by omega)).mpr (Nat.zero_le _)
              · obtain ⟨K, p1, p2, p3, p4, p5, p6⟩ := h.2.2.2.1 i (by omega)
                rw [Vo _ _ z, Vo _ _ z, Vo _ _ z, Vo _ _ z]
                exact ⟨K, p1, p2, p3, p4, p5, p6⟩
            · obtain ⟨a', b', q1, q2, q3, q4, q5, q6⟩ := h.2.2.2.2.1 e he
              refine ⟨a', b', by omega, by omega, (Vl 56 e (by omega)).trans q3, (Vl 58 e (by omega)).trans q4, ?_, ?_⟩
              · unfold wB
                rw [Vo 50 a' (by omega), Vl 59 _ (by omega), Vl 59 _ (by omega)]
                exact q5
              · unfold wB
                rw [Vo 50 b' (by omega), Vl 59 _ (by omega), Vl 59 _ (by omega)]
                exact q6
        split
        · exact key
        · split
          · exact key
          · exact h.an
      · rw [if_neg s1]; exact h.an
/-- a record was made -/
theorem PX.en (h : PJ M ab nk np na ne k) (hs : M'.1 48 = nI na) (h20 : na ≤ 20) (ha : a < na) (hb : b < na) (hM : enM M M' na ne a b what x wi wo hi) (wa : wB M a (M'.2.2.1 51 a) (M'.2.2.1 52 a)) (wb : wB M b (M'.2.2.1 51 b) (M'.2.2.1 52 b)) (c : ∀ {p : Nat → Bool}, (∀ j, j < 74 → 51 ≤ j → p j = false) → nM p M' = nM p M) : PX M' ab nk np (k + 1) := by
  have e49 := congrArg (fun z : mw_S => z.2.2.1 49) (c (p := fun j => Nat.beq j 49) (by decide))
  have e50 := congrArg (fun z : mw_S => z.2.2.1 50) (c (p := fun j => Nat.beq j 50) (by decide))
  have e49 : M'.2.2.1 49 = M.2.2.1 49 := e49
  have e50 : M'.2.2.1 50 = M.2.2.1 50 := e50
  have eg : ∀ j, 80 ≤ j → j ≤ 83 → M'.2.2.1 j = M.2.2.1 j := fun j h1 h2 => by
    have e := congrArg (fun z : mw_S => z.2.2.1 j) (c (p := fun l => Nat.ble 80 l) (by decide))
    have e : (bif Nat.ble 80 j then M'.2.2.1 j else fun _ => 0) = (bif Nat.ble 80 j then M.2.2.1 j else fun _ => 0) := e
    rw [Nat.ble_eq_true_of_le h1] at e
    exact e
  exact ⟨na, ne + 1, ⟨hs, h20⟩, hM.1, h.of (c (by decide)) eg (c (by decide)) (c (by decide)) ⟨h.2.2.2.1.en wa wb hM.2.2.2.2.2.2.2.2.2 (fun i => by rw [e49]) (fun i => by rw [e50]), h.2.2.2.2.1.en h.2.2.2.1 ha hb hM (fun i => by rw [e50]), by have := h.2.2.2.2.2; omega⟩⟩
theorem PX.charge (h : PX M ab nk np k) (hs : M.1 48 = nI na) (h20 : na ≤ 20) (hs2 : M.1 54 = nI ne) (hne : ne < 600) (hk : k < 600) : PX (sp_charge M ne i w x).2 ab nk np (k + 1) := by
  unfold sp_charge
  rw [hs]
  by_cases hi : sp_in i (nI na) = 0
  · rw [if_pos hi]; exact h.an
  · obtain ⟨a, ha, rfl⟩ := sp_in_of hi rfl (by omega)
    rw [if_neg hi, nI_clamp (show a < 2 ^ 31 by omega)]
    by_cases w0 : w < 0
    · rw [if_pos w0]; exact h.an
    · rw [if_neg w0]
      by_cases x0 : x < 0
      · rw [if_pos x0]; exact h.an
      · rw [if_neg x0]
        by_cases w1 : 100000 < w
        · rw [if_pos w1]; exact h.an
        · rw [if_neg w1]
          by_cases x1 : x ≤ 100000
          · rw [if_pos x1]
            by_cases hr : sp_room M a w.toInt64 x.toInt64 = 0
            · rw [if_pos hr]; exact h.an
            · rw [if_neg hr]
              obtain ⟨wn, hwn, rfl⟩ := nI_ofL w0 (Int32.not_lt.mp w1)
              obtain ⟨xn, hxn, rfl⟩ := nI_ofL x0 x1
              obtain ⟨na', ne', ⟨a1, a2⟩, b, h⟩ := h
              have en : na' = na := (nI_eq (by omega) (by omega)).mp (a1.symm.trans hs)
              subst en
              have en2 : ne' = ne := (nI_eq (by have := h.2.2.2.2.2; omega) (by omega)).mp (b.symm.trans hs2)
              subst en2
              obtain ⟨K, -, -, -, ⟨u, e1, -, u1⟩, ⟨t, e2, t1⟩, z, z1, e3⟩ := h.2.2.2.1 a ha
              obtain ⟨r1, r2⟩ := room_yes e1 e2 e3 u1 t1 z1 hwn hxn hr
              have hM : enM M (rm_charge M ne' a (nI wn) (nI xn)) na' ne' a a 1 (nI wn) (nI wn) 0 (nI xn) := chg_M
              have wa : wB M a ((rm_charge M ne' a (nI wn) (nI xn)).2.2.1 51 a) ((rm_charge M ne' a (nI wn) (nI xn)).2.2.1 52 a) := by
                obtain ⟨q1, q2⟩ := hM.2.2.2.2.2.2.2.1
                rw [q1, q2, e1, e2, show nI wn - 0 = nI wn from Int32.sub_zero _, nI_add, nI_add]
                exact wB_of e3 z1 r1 r2
              exact PX.en h a1 a2 ha ha hM wa wa (fun hp => nM_chg (hp 51 (by decide) (by decide)) (hp 52 (by decide) (by decide)) (hp 53 (by decide) (by decide)) (hp 54 (by decide) (by decide)) (hp 55 (by decide) (by decide)) (hp 56 (by decide) (by decide)) (hp 57 (by decide) (by decide)) (hp 58 (by decide) (by decide)) (hp 59 (by decide) (by decide)) (hp 60 (by decide) (by decide)))
          · rw [if_neg x1]; exact h.an
theorem PX.pour (h : PX M ab nk np k) (hs : M.1 48 = nI na) (h20 : na ≤ 20) (hs2 : M.1 54 = nI ne) (hne : ne < 600) (hk : k < 600) : PX (sp_pour M ne i j x).2 ab nk np (k + 1) := by
  unfold sp_pour
  rw [hs]
  by_cases hi : sp_in i (nI na) = 0
  · rw [if_pos hi]; exact h.an
  · obtain ⟨a, ha, rfl⟩ := sp_in_of hi rfl (by omega)
    rw [if_neg hi, nI_clamp (show a < 2 ^ 31 by omega)]
    by_cases hj : sp_in j (nI na) = 0
    · rw [if_pos hj]; exact h.an
    · obtain ⟨b, hb, rfl⟩ := sp_in_of hj rfl (by omega)
      rw [if_neg hj, nI_clamp (show b < 2 ^ 31 by omega)]
      by_cases hab : a = b
      · subst hab; rw [if_pos rfl]; exact h.an
      · rw [if_neg (nI_ne hab (by omega) (by omega))]
        by_cases x1 : x < 1
        · rw [if_pos x1]; exact h.an
        · rw [if_neg x1]
          by_cases x2 : x ≤ M.2.2.1 51 a
          · rw [if_pos x2]
            by_cases hr : sp_room M b x.toInt64 (sp_part M a x).toInt64 = 0
            · rw [if_pos hr]; exact h.an
            · rw [if_neg hr]
              obtain ⟨na', ne', ⟨a1, a2⟩, b', h⟩ := h
              have en : na' = na := (nI_eq (by omega) (by omega)).mp (a1.symm.trans hs)
              subst en
              have en2 : ne' = ne := (nI_eq (by have := h.2.2.2.2.2; omega) (by omega)).mp (b'.symm.trans hs2)
              subst en2
              obtain ⟨K, -, -, -, ⟨u, e1, -, u1⟩, ⟨t, e2, t1⟩, z, z1, e3⟩ := h.2.2.2.1 a ha
              obtain ⟨K', -, -, -, ⟨u', e1', -, u1'⟩, ⟨t', e2', t1'⟩, z', z1', e3'⟩ := h.2.2.2.1 b hb
              have x0 : ¬ x < 0 := fun y => x1 (Int32.lt_of_lt_of_le y (by decide))
              have x3 : x ≤ 100000 := Int32.le_trans x2 (by rw [e1]; exact Int32.not_lt.mp (fun y => absurd ((nI_ltI (a := 100000) (by decide) (by omega)).mp y) (by omega)))
              obtain ⟨xn, hxn, rfl⟩ := nI_ofL x0 x3
              have hxu : xn ≤ u := by rw [e1] at x2; exact (nI_leI (by omega) (by omega)).mp x2
              obtain ⟨q1, q2⟩ := part_eq e2 e1 t1 u1 hxu
              rw [q1] at hr ⊢
              have hpt : t * xn / u ≤ t := by
                rcases Nat.eq_zero_or_pos u with y | y
                · rw [y, Nat.div_zero]; exact Nat.zero_le _
                · exact Nat.div_le_of_le_mul (by rw [Nat.mul_comm u]; exact Nat.mul_le_mul_left t hxu)
              obtain ⟨r1, r2⟩ := room_yes e1' e2' e3' u1' t1' z1' hxn q2 hr
              have uz : u ≤ z := by
                obtain ⟨K, -, -, -, ⟨u2, f1, f2, f3⟩, -⟩ := h.2.2.2.1 a ha
                have : u2 = u := (nI_eq (by omega) (by omega)).mp (f1.symm.trans e1)
                subst this
                rw [e3] at f2
                exact (nI_leI (by omega) (by omega)).mp f2
              have hM : enM M (rm_pour M ne' a b (nI xn) (nI (t * xn / u))) na' ne' a b 2 (nI xn) 0 (nI xn) (-(nI (t * xn / u))) := pour_M hab
              have sb : ∀ {p q : Nat}, q ≤ p → nI p - nI q = nI (p - q) := fun {p q} hq => by
                have e : nI p = nI (p - q) + nI q := by rw [nI_add, show p - q + q = p by omega]
                rw [e]; exact un_x3
              have wa : wB M a ((rm_pour M ne' a b (nI xn) (nI (t * xn / u))).2.2.1 51 a) ((rm_pour M ne' a b (nI xn) (nI (t * xn / u))).2.2.1 52 a) := by
                rw [pour_V hab, pour_V hab]
                simp [hab]
                rw [e1, e2, sb hxu, sb hpt]
                exact wB_of e3 z1 (by omega) (Nat.le_trans (Nat.sub_le _ _) t1)
              have wb : wB M b ((rm_pour M ne' a b (nI xn) (nI (t * xn / u))).2.2.1 51 b) ((rm_pour M ne' a b (nI xn) (nI (t * xn / u))).2.2.1 52 b) := by
                rw [pour_V hab, pour_V hab]
                simp
                rw [e1', e2', nI_add, nI_add]
                exact wB_of e3' z1' r1 r2
              exact PX.en h a1 a2 ha hb hM wa wb (fun hp => nM_pour (hp 51 (by decide) (by decide)) (hp 52 (by decide) (by decide)) (hp 54 (by decide) (by decide)) (hp 55 (by decide) (by decide)) (hp 56 (by decide) (by decide)) (hp 57 (by decide) (by decide)) (hp 58 (by decide) (by decide)) (hp 59 (by decide) (by decide)) (hp 60 (by decide) (by decide)))
          · rw [if_neg x2]; exact h.an
end PXS
