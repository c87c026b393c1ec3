/-! numbers, names of the reference -/
theorem numN_le : ∀ (l : List Nat) (v : Nat), (∀ c ∈ l, 48 ≤ c ∧ c ≤ 57) → numN l v ≤ 10 ^ l.length * v + (10 ^ l.length - 1) := by
  intro l
  induction l with
  | nil => intro v _; show v ≤ 1 * v + 0; omega
  | cons c l ih =>
    intro v h
    have h1 := ih (10 * v + (c - 48)) (fun x hx => h x (List.mem_cons_of_mem _ hx))
    have h2 := h c List.mem_cons_self
    have h3 : 1 ≤ 10 ^ l.length := Nat.one_le_pow _ _ (by omega)
    show numN l (10 * v + (c - 48)) ≤ 10 ^ (l.length + 1) * v + (10 ^ (l.length + 1) - 1)
    have h4 : 10 ^ (l.length + 1) = 10 ^ l.length * 10 := Nat.pow_succ ..
    have h5 : 10 ^ l.length * (10 * v + (c - 48)) ≤ 10 ^ l.length * (10 * v + 9) := Nat.mul_le_mul_left _ (by omega)
    have h6 : 10 ^ l.length * (10 * v + 9) = 10 ^ l.length * 10 * v + 10 ^ l.length * 9 := by rw [Nat.mul_add, Nat.mul_assoc]
    rw [h4]
    omega
theorem numN_app : ∀ (l : List Nat) (c v : Nat), numN (l ++ [c]) v = 10 * numN l v + (c - 48) := by
  intro l
  induction l with
  | nil => intro c v; rfl
  | cons x l ih => intro c v; exact ih c _
theorem wn_succ {tb : Nat → Nat} {f k : Nat} (h : f ≤ k) : wn tb f (k + 1) = wn tb f k ++ [tb k] := by
  unfold wn
  rw [show k + 1 - f = (k - f) + 1 by omega, List.range_succ, List.map_append]
  show _ ++ [tb (f + (k - f))] = _
  rw [show f + (k - f) = k by omega]
theorem wn_nil (tb : Nat → Nat) (f : Nat) : wn tb f f = [] := by unfold wn; rw [Nat.sub_self]; rfl
theorem isF_b {c : Nat} (h : isF c = true) : 48 ≤ c ∧ c ≤ 57 := ⟨Nat.le_of_ble_eq_true (Bool.and_eq_true_iff.mp h).1, Nat.le_of_ble_eq_true (Bool.and_eq_true_iff.mp h).2⟩
theorem isL_b {c : Nat} (h : isL c = true) : 97 ≤ c ∧ c ≤ 122 := ⟨Nat.le_of_ble_eq_true (Bool.and_eq_true_iff.mp h).1, Nat.le_of_ble_eq_true (Bool.and_eq_true_iff.mp h).2⟩
/-- the bytes of a number -/
theorem fig_in {tb : Nat → Nat} {n t : Nat} (h : cd tb n t = 3) : qe tb n t - qs tb n t ≤ 3 ∧ ∀ i, qs tb n t ≤ i → i < qe tb n t → 48 ≤ tb i ∧ tb i ≤ 57 := by
  have hk := tkC_3.mp h
  have e : qe tb n t = lx isF tb n (qs tb n t) := by
    unfold qe tkT
    rw [if_neg (by omega), if_pos hk]
  rw [e]
  exact ⟨(tkK_3 hk).2, fun i h1 h2 => isF_b ((lx_spec (n - qs tb n t) (qs tb n t) rfl (qs_le t)).2.2.1 i h1 h2)⟩
theorem let_in {tb : Nat → Nat} {n t : Nat} (hk : tkK tb n (qs tb n t) = 2) : qe tb n t - qs tb n t ≤ 8 ∧ ∀ i, qs tb n t ≤ i → i < qe tb n t → 97 ≤ tb i ∧ tb i ≤ 122 := by
  have e : qe tb n t = lx isL tb n (qs tb n t) := by
    unfold qe tkT
    rw [if_pos hk]
  rw [e]
  exact ⟨(tkK_2 hk).2, fun i h1 h2 => isL_b ((lx_spec (n - qs tb n t) (qs tb n t) rfl (qs_le t)).2.2.1 i h1 h2)⟩
theorem nu_le {tb : Nat → Nat} {n t : Nat} (h : cd tb n t = 3) : nu tb n t ≤ 999 := by
  obtain ⟨h1, h2⟩ := fig_in h
  have h3 := numN_le (wo tb n t) 0 (fun c hc => by obtain ⟨i, a, b, rfl⟩ := wn_mem hc; exact h2 i a b)
  have hl : (wo tb n t).length = qe tb n t - qs tb n t := wn_len _ _ _
  have h4 : 10 ^ (wo tb n t).length ≤ 10 ^ 3 := Nat.pow_le_pow_right (by omega) (by omega)
  unfold nu
  have h5 : (10 : Nat) ^ 3 = 1000 := by decide
  omega
theorem num_part {tb : Nat → Nat} {n t k : Nat} (h : cd tb n t = 3) (h1 : qs tb n t ≤ k) (h2 : k ≤ qe tb n t) : numN (wn tb (qs tb n t) k) 0 ≤ 999 := by
  obtain ⟨g1, g2⟩ := fig_in h
  have h3 := numN_le (wn tb (qs tb n t) k) 0 (fun c hc => by obtain ⟨i, a, b, rfl⟩ := wn_mem hc; exact g2 i a (by omega))
  have hl : (wn tb (qs tb n t) k).length = k - qs tb n t := wn_len _ _ _
  have h4 : 10 ^ (wn tb (qs tb n t) k).length ≤ 10 ^ 3 := Nat.pow_le_pow_right (by omega) (by omega)
  have h5 : (10 : Nat) ^ 3 = 1000 := by decide
  omega
theorem num_step {v c : Nat} (hc : 48 ≤ c) : (10 : Int32) * nI v + nI c - 48 = nI (10 * v + (c - 48)) := by
  rw [show (10 : Int32) = nI 10 by decide, pk_mul, nI_add, ← Int32.add_left_inj 48, Int32.sub_add_cancel, show (48 : Int32) = nI 48 by decide, nI_add]
  congr 1
  omega

theorem ok_readNumber {G : mm_G} {L : Nat × Nat} {d : Nat} {h h0 : mm_H} {m : Nat} {ad : Nat → Nat} {M : mw_S} {tb : Nat → Nat} {n t : Nat} {x : Nat} (hP : pP tb n M t) (h30 : M.1 30 = 1) (hx : x < 4000) (hL : LT G m ad h0) (hW : mw_W m ad h0 M h) : mm_Ok G mX12_readNumber L (d + 5) [.ref m, .int (nI x)] h (fun r h1 => mw_W m ad h0 (pNum tb n M t x).2.1 h1 ∧ h1.2 = h.2 ∧ r = some (.int (pNum tb n M t x).1)) := by
  refine mm_Ok.of [(0, .ref m), (1, .int (nI x))] rfl kX12_readNumber.2.2.2.2.2 rfl (fun A => ?_)
  have hn7 := hP.2.1
  have hqe := qe_b (tb := tb) (n := n) t
  have lp_ : ¬ cd tb n t = 32 → cd tb n t = 3 → ∀ (v k : Nat), k + v = qe tb n t → qs tb n t ≤ k → mm_Run G mX12_readNumber A L (d + 5) 35 [(3, .int (nI k)), (2, .int (nI (numN (wn tb (qs tb n t) k) 0))), (0, .ref m), (1, .int (nI x))] [] h (fun r h1 => mw_W m ad h0 (pNum tb n M t x).2.1 h1 ∧ h1.2 = h.2 ∧ r = some (.int (pNum tb n M t x).1)) := by
    intro n7 y25 v
    obtain ⟨g1, g2⟩ := fig_in y25
    induction v with
    | zero =>
      intro k hv hqk
      have hk : k = qe tb n t := by omega
      refine mm_iload_n (pc := 35) dX12_readNumber_35 rfl ?_
      refine mm_aload_n (pc := 36) dX12_readNumber_36 rfl (by first | trivial | assumption | exact mm_isr_rf _) ?_
      refine mw_gets (pc := 37) 28 hW dX12_readNumber_37 fl_X12_225 rfl rfl ?_
      refine mm_icmp_ge (pc := 40) (tgt := 64) dX12_readNumber_40 (by decide) (fun c40 => ?_) (fun c40 => absurd (show M.1 28 ≤ nI k by rw [hP.2.2.2.2.2.1, hk]; exact Int32.le_refl _) c40)
      refine mm_aload_n (pc := 64) dX12_readNumber_64 rfl (by first | trivial | assumption | exact mm_isr_rf _) ?_
      refine mw_geta (pc := 65) 15 hW dX12_readNumber_65 fl_X12_51 rfl rfl ?_
      refine mm_iload_n (pc := 68) dX12_readNumber_68 rfl ?_
      refine mm_iload_n (pc := 69) dX12_readNumber_69 rfl ?_
      refine mw_iast (pc := 70) 15 x hW dX12_readNumber_70 rfl rfl (by first | with_reducible rfl | assumption | rfl) (by show _ < 4000; omega) (by omega) (fun h70 hW e70 => ?_)
      refine mm_goto (pc := 71) (tgt := 83) dX12_readNumber_71 (by decide) ?_
      refine mm_aload_n (pc := 83) dX12_readNumber_83 rfl (by first | trivial | assumption | exact mm_isr_rf _) ?_
      refine mm_callV (pc := 84) (As := []) (kd := ?kd_84_1) (fs := ?fs_84_1) dX12_readNumber_84 vl_X12_284 (ok_wordC (M := mw_setV M 15 x (nI (numN (wn tb (qs tb n t) k) 0))) (hP.same rfl rfl rfl rfl rfl rfl) hW) ?hc_84_1 ?hk_84_1 rfl rfl (Nat.le_of_ble_eq_true rfl) ?_; (case hc_84_1 => exact hW.1); (case hk_84_1 => rfl)
      rintro _ h84 ⟨hW, e84, rfl⟩
      refine mm_iconst (pc := 87) (v := 1) dX12_readNumber_87 (by decide) ?_
      refine mm_zret (pc := 88) dX12_readNumber_88 rfl (by first | rfl | decide) ?_
      unfold pNum
      rw [if_neg n7, if_pos y25]
      rw [hk] at hW
      exact ⟨hW, by rw [e84, e70], rfl⟩
    | succ v ih =>
      intro k hv hqk
      refine mm_iload_n (pc := 35) dX12_readNumber_35 rfl ?_
      refine mm_aload_n (pc := 36) dX12_readNumber_36 rfl (by first | trivial | assumption | exact mm_isr_rf _) ?_
      refine mw_gets (pc := 37) 28 hW dX12_readNumber_37 fl_X12_225 rfl rfl ?_
      refine mm_icmp_ge (pc := 40) (tgt := 64) dX12_readNumber_40 (by decide) (fun c40 => absurd c40 (show ¬ M.1 28 ≤ nI k by rw [hP.2.2.2.2.2.1]; exact nI_ge (by omega) (by omega))) (fun c40 => ?_)
      refine mm_bipush (pc := 43) (v := 10) dX12_readNumber_43 (by decide) ?_
      refine mm_iload_n (pc := 45) dX12_readNumber_45 rfl ?_
      refine mm_imul (pc := 46) dX12_readNumber_46 ?_
      refine mm_aload_n (pc := 47) dX12_readNumber_47 rfl (by first | trivial | assumption | exact mm_isr_rf _) ?_
      refine mw_geta (pc := 48) 0 hW dX12_readNumber_48 fl_X12_9 rfl rfl ?_
      refine mm_iload_n (pc := 51) dX12_readNumber_51 rfl ?_
      refine mw_bald (pc := 52) 0 k hW dX12_readNumber_52 rfl rfl (by first | with_reducible rfl | assumption | rfl) (by show _ < 800; omega) (by omega) ?_
      rw [(hP.2.2.1 k).2, ((bt_f _ (hP.c k)).2.1 (by have := g2 k (by omega) (by omega); omega))]
      refine mm_iadd (pc := 53) dX12_readNumber_53 ?_
      refine mm_bipush (pc := 54) (v := 48) dX12_readNumber_54 (by decide) ?_
      refine mm_isub (pc := 56) dX12_readNumber_56 ?_
      refine mm_topi _ (num_step (g2 k (by omega) (by omega)).1) ?_
      refine mm_istore_n (pc := 57) dX12_readNumber_57 rfl (Nat.le_of_ble_eq_true rfl) ?_
      refine mm_iinc (pc := 58) dX12_readNumber_58 rfl rfl rfl (Nat.le_of_ble_eq_true rfl) ?_
      refine mm_goto (pc := 61) (tgt := 35) dX12_readNumber_61 (by decide) ?_
      exact mm_weakK (ih (k + 1) (by omega) (by omega)) (And.intro (by rw [← nI_1]; rfl) (And.intro (by rw [wn_succ (by omega), numN_app]; rfl) (And.intro rfl (And.intro rfl trivial))))
  refine mm_aload_n (pc := 0) dX12_readNumber_0 rfl (by first | trivial | assumption | exact mm_isr_rf _) ?_
  refine mm_ldcSw (pc := 1) (i := 38) dX12_readNumber_1 rfl ?_
  refine mm_callV (pc := 4) (As := [_]) (kd := ?kd_4_2) (fs := ?fs_4_2) dX12_readNumber_4 vl_X12_263 (ok_isC hP hL 38 32 (w := [97]) (by decide +kernel) (by decide +kernel) hW) ?hc_4_2 ?hk_4_2 rfl rfl (Nat.le_of_ble_eq_true rfl) ?_; (case hc_4_2 => exact hW.1); (case hk_4_2 => rfl)
  rintro _ _ ⟨rfl, rfl⟩
  refine mm_if_eq (pc := 7) (tgt := 20) dX12_readNumber_7 (by decide) (fun c7 => ?_) (fun c7 => ?_)
  · have n7 := bI_d.mp c7
    refine mm_aload_n (pc := 20) dX12_readNumber_20 rfl (by first | trivial | assumption | exact mm_isr_rf _) ?_
    refine mw_gets (pc := 21) 29 hW dX12_readNumber_21 fl_X12_215 rfl rfl ?_
    refine mm_iconst (pc := 24) (v := 3) dX12_readNumber_24 (by decide) ?_
    refine mm_icmp_ne (pc := 25) (tgt := 74) dX12_readNumber_25 (by decide) (fun c25 => ?_) (fun c25 => ?_)
    · have n25 : ¬ cd tb n t = 3 := fun z => c25 (by rw [hP.2.2.2.2.2.2, tkC_3.mp z]; rfl)
      refine mm_aload_n (pc := 74) dX12_readNumber_74 rfl (by first | trivial | assumption | exact mm_isr_rf _) ?_
      refine mm_aload_n (pc := 75) dX12_readNumber_75 rfl (by first | trivial | assumption | exact mm_isr_rf _) ?_
      refine mw_gets (pc := 76) 27 hW dX12_readNumber_76 fl_X12_212 rfl rfl ?_
      refine mm_callV (pc := 79) (As := [_]) (kd := ?kd_79_3) (fs := ?fs_79_3) dX12_readNumber_79 vl_X12_281 (ok_failC hP h30 hW) ?hc_79_3 ?hk_79_3 rfl rfl (Nat.le_of_ble_eq_true rfl) ?_; (case hc_79_3 => exact hW.1); (case hk_79_3 => rfl)
      rintro _ h79 ⟨hW, e79, rfl⟩
      refine mm_zret (pc := 82) dX12_readNumber_82 rfl (by first | rfl | decide) ?_
      unfold pNum
      rw [if_neg n7, if_neg n25]
      exact ⟨hW, e79, rfl⟩
    · have y25 : cd tb n t = 3 := tkC_3.mpr ((nI_eq (b := 3) (by have := tkK_lt tb n (qs tb n t); omega) (by decide)).mp (hP.2.2.2.2.2.2.symm.trans c25))
      refine mm_iconst (pc := 28) (v := 0) dX12_readNumber_28 (by decide) ?_
      refine mm_istore_n (pc := 29) dX12_readNumber_29 rfl (Nat.le_of_ble_eq_true rfl) ?_
      refine mm_aload_n (pc := 30) dX12_readNumber_30 rfl (by first | trivial | assumption | exact mm_isr_rf _) ?_
      refine mw_gets (pc := 31) 27 hW dX12_readNumber_31 fl_X12_212 rfl rfl ?_
      refine mm_istore_n (pc := 34) dX12_readNumber_34 rfl (Nat.le_of_ble_eq_true rfl) ?_
      exact mm_weakK (lp_ n7 y25 (qe tb n t - qs tb n t) (qs tb n t) (by have := (qe_b (tb := tb) (n := n) t).1; omega) (Nat.le_refl _)) (And.intro (by rw [← hP.2.2.2.2.1]; rfl) (And.intro (by rw [wn_nil]; rfl) (And.intro rfl (And.intro rfl trivial))))
  · have y7 := bI_n c7
    refine mm_aload_n (pc := 10) dX12_readNumber_10 rfl (by first | trivial | assumption | exact mm_isr_rf _) ?_
    refine mw_geta (pc := 11) 15 hW dX12_readNumber_11 fl_X12_51 rfl rfl ?_
    refine mm_iload_n (pc := 14) dX12_readNumber_14 rfl ?_
    refine mm_iconst (pc := 15) (v := (-1)) dX12_readNumber_15 (by decide) ?_
    refine mw_iast (pc := 16) 15 x hW dX12_readNumber_16 rfl rfl (by first | with_reducible rfl | assumption | rfl) (by show _ < 4000; omega) (by omega) (fun h16 hW e16 => ?_)
    refine mm_goto (pc := 17) (tgt := 83) dX12_readNumber_17 (by decide) ?_
    refine mm_aload_n (pc := 83) dX12_readNumber_83 rfl (by first | trivial | assumption | exact mm_isr_rf _) ?_
    refine mm_callV (pc := 84) (As := []) (kd := ?kd_84_4) (fs := ?fs_84_4) dX12_readNumber_84 vl_X12_284 (ok_wordC (M := mw_setV M 15 x (-1)) (hP.same rfl rfl rfl rfl rfl rfl) hW) ?hc_84_4 ?hk_84_4 rfl rfl (Nat.le_of_ble_eq_true rfl) ?_; (case hc_84_4 => exact hW.1); (case hk_84_4 => rfl)
    rintro _ h84 ⟨hW, e84, rfl⟩
    refine mm_iconst (pc := 87) (v := 1) dX12_readNumber_87 (by decide) ?_
    refine mm_zret (pc := 88) dX12_readNumber_88 rfl (by first | rfl | decide) ?_
    unfold pNum
    rw [if_pos y7]
    exact ⟨hW, by rw [e84, e16], rfl⟩

theorem wd_wo {M : mw_S} {tb : Nat → Nat} {n t : Nat} (hP : pP tb n M t) (hk : tkK tb n (qs tb n t) = 2) : wd M (qs tb n t) (qe tb n t) = (wo tb n t).map nI := by
  rw [wd_wn hP.2.2.1]
  refine List.map_congr_left (fun c hc => ?_)
  obtain ⟨i, h1, h2, rfl⟩ := wn_mem hc
  exact (bt_f _ (hP.c i)).2.1 (by have := (let_in hk).2 i h1 h2; omega)
theorem wo_asc {tb : Nat → Nat} {n t : Nat} (hk : tkK tb n (qs tb n t) = 2) : ∀ c ∈ wo tb n t, 97 ≤ c ∧ c ≤ 122 := by
  intro c hc
  obtain ⟨i, h1, h2, rfl⟩ := wn_mem hc
  exact (let_in hk).2 i h1 h2
theorem wo_len8 {tb : Nat → Nat} {n t : Nat} (hk : tkK tb n (qs tb n t) = 2) : (wo tb n t).length ≤ 8 ∧ 1 ≤ (wo tb n t).length := by
  have e : (wo tb n t).length = qe tb n t - qs tb n t := wn_len _ _ _
  have h1 := (let_in hk).1
  have h2 := tkT_lt (tb := tb) (n := n) (q := qs tb n t) (by omega)
  have h3 : qs tb n t < qe tb n t := h2
  exact ⟨by omega, by omega⟩
theorem ok_toldC {G : mm_G} {L : Nat × Nat} {d : Nat} {h h0 : mm_H} {m : Nat} {ad : Nat → Nat} {M : mw_S} {tb : Nat → Nat} {n t : Nat} (hP : pP tb n M t) (hk : tkK tb n (qs tb n t) = 2) (hL1 : h.2.1 + 4 ≤ L.1) (hL2 : h.2.2 + 32 ≤ L.2) (hW : mw_W m ad h0 M h) : mm_Ok G mX12_told L (d + 6) [.ref m] h (fun r h1 => ∃ a, r = some (.ref a) ∧ sT h1 a ((wo tb n t).map nI) ∧ ext h h1 ∧ h1.2.1 ≤ h.2.1 + 4 ∧ h1.2.2 ≤ h.2.2 + 32 ∧ sN h1 a ((wo tb n t).map nI) h.2.1) := by
  have h8 := (let_in hk).1
  have hn7 := hP.2.1
  have hqe := qe_b (tb := tb) (n := n) t
  refine (ok_X12_told (f := qs tb n t) (t := qe tb n t) hP.2.2.2.2.1 hP.2.2.2.2.2.1 hqe.1 (by omega) h8 (fun i h1 h2 => ?_) hL1 hL2 hW).post ?_
  · have := (let_in hk).2 i h1 h2
    exact ⟨tb i, by omega, (hP.2.2.1 i).2.trans ((bt_f _ (hP.c i)).2.1 (by omega))⟩
  · rintro r h1 ⟨a, q1, q2, q3, q4, q5, q6⟩
    rw [wd_wo hP hk] at q2 q6
    exact ⟨a, q1, q2, q3, q4, by omega, q6⟩

theorem map_nI_inj : ∀ {xs w : List Nat}, (∀ c ∈ xs, c < 128) → (∀ c ∈ w, c < 128) → (xs.map nI = w.map nI ↔ xs = w) := by
  intro xs
  induction xs with
  | nil =>
    intro w _ _
    cases w with
    | nil => exact ⟨fun _ => rfl, fun _ => rfl⟩
    | cons c w => exact ⟨fun h => (by cases h), fun h => (by cases h)⟩
  | cons x xs ih =>
    intro w hx hw
    cases w with
    | nil => exact ⟨fun h => (by cases h), fun h => (by cases h)⟩
    | cons c w =>
      have h1 : nI x = nI c ↔ x = c := nI_eq (by have := hx x List.mem_cons_self; omega) (by have := hw c List.mem_cons_self; omega)
      have h2 := ih (w := w) (fun z hz => hx z (List.mem_cons_of_mem _ hz)) (fun z hz => hw z (List.mem_cons_of_mem _ hz))
      rw [List.map_cons, List.map_cons, List.cons.injEq, List.cons.injEq, h1, h2]
theorem occ_occN {bs cs : List Nat} (hb : ∀ c ∈ bs, c < 128) (hc : ∀ c ∈ cs, c < 128) (i : Nat) : occ (bs.map nI) (cs.map nI) i ↔ occN bs cs i := by
  have key : ∀ j, (bs.map nI)[i + j]? = (cs.map nI)[j]? ↔ bs[i + j]? = cs[j]? := by
    intro j
    rw [List.getElem?_map, List.getElem?_map]
    cases h1 : bs[i + j]? with
    | none =>
      cases h2 : cs[j]? with
      | none => exact ⟨fun _ => rfl, fun _ => rfl⟩
      | some y => exact ⟨fun h => (by cases h), fun h => (by cases h)⟩
    | some x =>
      cases h2 : cs[j]? with
      | none => exact ⟨fun h => (by cases h), fun h => (by cases h)⟩
      | some y =>
        have hx := hb x (List.mem_of_getElem? h1)
        have hy := hc y (List.mem_of_getElem? h2)
        show some (nI x) = some (nI y) ↔ some x = some y
        rw [Option.some.injEq, Option.some.injEq]
        exact nI_eq (by omega) (by omega)
  unfold occ occN
  rw [List.length_map]
  exact ⟨fun h j hj => (key j).mp (h j hj), fun h j hj => (key j).mpr (h j hj)⟩
theorem tkX_asc : ∀ c ∈ tkX, c < 128 := by decide +kernel
theorem wlook_AW {ws : List Nat} (h : ∀ c ∈ ws, 97 ≤ c ∧ c ≤ 122) : wlook tkA ws = wlook tkW ws := by
  have hs : ∀ e ∈ tkS, ¬ ws = e.1 := by
    intro e he z
    have h1 : ∀ e ∈ tkS, ∃ c ∈ e.1, ¬ (97 ≤ c ∧ c ≤ 122) := by decide +kernel
    obtain ⟨c, hc, hn⟩ := h1 e he
    exact hn (h c (z ▸ hc))
  show (if ws = [123] then 4 else if ws = [125] then 5 else if ws = [59] then 6 else wlook tkW ws) = _
  rw [if_neg (hs ([123], 4) (by decide)), if_neg (hs ([125], 5) (by decide)), if_neg (hs ([59], 6) (by decide))]
theorem sB.ext {h h1 : mm_H} {a v : Nat} {bs : List Int32} (hs : sB h a v bs) (he : ext h h1) (ha : a < h.2.1) (hv : v < h.2.1) : sB h1 a v bs := by
  obtain ⟨ml, tl, h2, h3, h4⟩ := hs
  exact ⟨ml, tl, by rw [he.2.2 a ha]; exact h2, by rw [he.2.2 v hv]; exact h3, h4⟩
theorem ext.upd {h h1 h2 : mm_H} {a v : Nat} (e : ext h h1) (q2 : h2.2 = h1.2) (q3 : ∀ b, ¬ b = a → ¬ b = v → h2.1 b = h1.1 b) (ha : h.2.1 ≤ a) (hv : h.2.1 ≤ v) : ext h h2 := ⟨by rw [q2]; exact e.1, by rw [q2]; exact e.2.1, fun b hb => (q3 b (by omega) (by omega)).trans (e.2.2 b hb)⟩

theorem ok_isName {G : mm_G} {L : Nat × Nat} {d : Nat} {h h0 : mm_H} {m : Nat} {ad : Nat → Nat} {M : mw_S} {tb : Nat → Nat} {n t : Nat} (hP : pP tb n M t) (hL : LT G m ad h0) (hL1 : h.2.1 + 8 ≤ L.1) (hL2 : h.2.2 + 66 ≤ L.2) (hW : mw_W m ad h0 M h) : mm_Ok G mX12_isName L (d + 7) [.ref m] h (fun r h1 => r = some (.int (bI (decide (cd tb n t = 2)))) ∧ ext h h1 ∧ h1.2.1 ≤ h.2.1 + 8 ∧ h1.2.2 ≤ h.2.2 + 66) := by
  refine mm_Ok.of [(0, .ref m)] rfl kX12_isName.2.2.2.2.2 rfl (fun A => ?_)
  refine mm_aload_n (pc := 0) dX12_isName_0 rfl (by first | trivial | assumption | exact mm_isr_rf _) ?_
  refine mw_gets (pc := 1) 29 hW dX12_isName_1 fl_X12_215 rfl rfl ?_
  refine mm_iconst (pc := 4) (v := 2) dX12_isName_4 (by decide) ?_
  refine mm_icmp_ne (pc := 5) (tgt := 47) dX12_isName_5 (by decide) (fun c5 => ?_) (fun c5 => ?_)
  · have hk : ¬ tkK tb n (qs tb n t) = 2 := fun z => c5 (by rw [hP.2.2.2.2.2.2, z]; rfl)
    refine mm_iconst (pc := 47) (v := 0) dX12_isName_47 (by decide) ?_
    refine mm_zret (pc := 48) dX12_isName_48 rfl (by first | rfl | decide) ?_
    refine ⟨by rw [decide_eq_false (p := cd tb n t = 2) (fun z => hk ((tkC_2 hP.c).mp z).1)]; rfl, ext.refl h, by omega, by omega⟩
  · have hk : tkK tb n (qs tb n t) = 2 := (nI_eq (b := 2) (by have := tkK_lt tb n (qs tb n t); omega) (by decide)).mp (hP.2.2.2.2.2.2.symm.trans c5)
    have hw8 := wo_len8 hk
    have hwl : ((wo tb n t).map nI).length = (wo tb n t).length := List.length_map ..
    refine mm_ldcS (pc := 8) (i := 11) dX12_isName_8 rfl ?_
    refine mm_new (pc := 10) dX12_isName_10 nl_X12_228 (by omega) (by show h.2.2 + 4 ≤ _; omega) ?_
    refine mm_dup (pc := 13) dX12_isName_13 rfl ?_
    refine mm_callI (pc := 14) (As := []) dX12_isName_14 il_X12_230 (ok_sb_new mm_push_eq (by show h.2.1 + 1 + 1 ≤ _; omega) (by show h.2.2 + 4 + 16 ≤ _; omega)) rfl rfl (Nat.le_of_ble_eq_true rfl) ?_
    rintro _ h14 ⟨rfl, e14⟩
    have e14' : h14 = mm_set (mm_push (mm_push h (14, [.null, .int 0, .int 0, .int 0])) (101, List.replicate 16 (.int 0))) h.2.1 (14, [.ref (h.2.1 + 1), .int 0, .int 0, .int 0]) := e14
    have ex14 : ext h h14 := by
      rw [e14']
      refine ⟨by show h.2.1 ≤ h.2.1 + 1 + 1; omega, by show h.2.2 ≤ h.2.2 + 4 + 16; omega, fun b hb => ?_⟩
      exact mm_set_ne (by omega) (mm_push_ne (by show ¬ b = h.2.1 + 1; omega) (mm_push_ne (by omega) rfl))
    have hsb : sB h14 h.2.1 (h.2.1 + 1) [] := by
      rw [e14]
      exact sB_new (h := mm_push h (14, [.null, .int 0, .int 0, .int 0])) (by show h.2.1 < h.2.1 + 1; omega)
    have z14 : h14.2 = (h.2.1 + 2, h.2.2 + 20) := by rw [e14']; rfl
    obtain ⟨ml14, tl14, hb14, -⟩ := id hsb
    refine mm_ldcS (pc := 17) (i := 12) dX12_isName_17 rfl ?_
    refine mm_callV (pc := 19) (As := [_]) (kd := ?kd_19_5) (fs := ?fs_19_5) dX12_isName_19 vl_X12_251 (ok_sb_appendS hsb (hL.at (hW.ext ex14) (i := 12) (bs := [32]) rfl) (mm_lit_asc (i := 12) rfl).2 (by decide)) ?hc_19_5 ?hk_19_5 rfl rfl (Nat.le_of_ble_eq_true rfl) ?_; (case hc_19_5 => exact hb14); (case hk_19_5 => rfl)
    rintro _ h19 ⟨q19, z19, f19, rfl⟩
    have ex19 : ext h h19 := ex14.upd z19 f19 (by omega) (by omega)
    refine mm_aload_n (pc := 22) dX12_isName_22 rfl (by first | trivial | assumption | exact mm_isr_rf _) ?_
    refine mm_callV (pc := 23) (As := []) (kd := ?kd_23_6) (fs := ?fs_23_6) dX12_isName_23 vl_X12_254 (ok_toldC (M := M) (h := h19) hP hk (by rw [z19, z14]; show h.2.1 + 2 + 4 ≤ _; omega) (by rw [z19, z14]; show h.2.2 + 20 + 32 ≤ _; omega) (hW.ext ex19)) ?hc_23_6 ?hk_23_6 rfl rfl (Nat.le_of_ble_eq_true rfl) ?_; (case hc_23_6 => exact (hW.ext ex19).1); (case hk_23_6 => rfl)
    rintro _ h23 ⟨a23, rfl, s23, x23, b23, b23s, g23⟩
    rw [z19, z14] at b23 b23s
    have b23 : h23.2.1 ≤ h.2.1 + 2 + 4 := b23
    have b23s : h23.2.2 ≤ h.2.2 + 20 + 32 := b23s
    have q23 := q19.ext x23 (by rw [z19, z14]; show h.2.1 < h.2.1 + 2; omega) (by rw [z19, z14]; show h.2.1 + 1 < h.2.1 + 2; omega)
    have ex23 := ex19.trans x23
    obtain ⟨ml23, tl23, hb23, -⟩ := id q23
    refine mm_callV (pc := 26) (As := [_]) (kd := ?kd_26_7) (fs := ?fs_26_7) dX12_isName_26 vl_X12_251 (ok_sb_appendS q23 s23 (map_nI_asc (fun c hc => by have := wo_asc hk c hc; omega)) (by rw [List.length_append, hwl]; show 0 + 1 + _ ≤ 16; omega)) ?hc_26_7 ?hk_26_7 rfl rfl (Nat.le_of_ble_eq_true rfl) ?_; (case hc_26_7 => exact hb23); (case hk_26_7 => rfl)
    rintro _ h26 ⟨q26, z26, f26, rfl⟩
    have ex26 : ext h h26 := ex23.upd z26 f26 (by omega) (by omega)
    obtain ⟨ml26, tl26, hb26, -⟩ := id q26
    refine mm_ldcS (pc := 29) (i := 12) dX12_isName_29 rfl ?_
    refine mm_callV (pc := 31) (As := [_]) (kd := ?kd_31_8) (fs := ?fs_31_8) dX12_isName_31 vl_X12_251 (ok_sb_appendS q26 (hL.at (hW.ext ex26) (i := 12) (bs := [32]) rfl) (mm_lit_asc (i := 12) rfl).2 (by rw [List.length_append, List.length_append, hwl]; show 0 + 1 + _ + 1 ≤ 16; omega)) ?hc_31_8 ?hk_31_8 rfl rfl (Nat.le_of_ble_eq_true rfl) ?_; (case hc_31_8 => exact hb26); (case hk_31_8 => rfl)
    rintro _ h31 ⟨q31, z31, f31, rfl⟩
    have ex31 : ext h h31 := ex26.upd z31 f31 (by omega) (by omega)
    obtain ⟨ml31, tl31, hb31, -⟩ := id q31
    have hcs : ([] ++ [32] ++ (wo tb n t).map nI ++ [32] : List Int32) = (32 :: wo tb n t ++ [32]).map nI := by rw [List.map_append, List.map_cons]; rfl
    rw [hcs] at q31 hb31
    have hcl : ((32 :: wo tb n t ++ [32]).map nI).length = (wo tb n t).length + 2 := by rw [List.length_map, List.length_append]; rfl
    have hca : ∀ c ∈ (32 :: wo tb n t ++ [32]), c < 128 := by
      intro c hc
      rcases List.mem_append.mp hc with hc | hc
      · rcases List.mem_cons.mp hc with rfl | hc
        · decide
        · have := wo_asc hk c hc; omega
      · rcases List.mem_cons.mp hc with rfl | hc
        · decide
        · cases hc
    refine mm_callV (pc := 34) (As := []) (kd := ?kd_34_9) (fs := ?fs_34_9) dX12_isName_34 vl_X12_235 (ok_sb_toString q31 (map_nI_asc hca) (by rw [hcl]; omega) (by rw [z31, z26]; omega) (by rw [z31, z26, hcl]; omega)) ?hc_34_9 ?hk_34_9 rfl rfl (Nat.le_of_ble_eq_true rfl) ?_; (case hc_34_9 => exact hb31); (case hk_34_9 => rfl)
    rintro _ h34 ⟨e34, rfl⟩
    have s34 : sT h34 h31.2.1 ((32 :: wo tb n t ++ [32]).map nI) := by rw [e34]; exact sT_new (by rw [hcl]; omega)
    have ex34 : ext h h34 := by rw [e34]; exact ex31.trans ((ext.push _ _).trans (ext.push _ _))
    have b34 : h34.2.1 ≤ h.2.1 + 8 := by rw [e34]; show h31.2.1 + 1 + 1 ≤ _; rw [z31, z26]; omega
    have b34s : h34.2.2 ≤ h.2.2 + 66 := by rw [e34]; show h31.2.2 + 4 + (bv _).length ≤ _; rw [z31, z26, bv_len, hcl]; omega
    have sX : sT h34 (G.2.2.2.2.1 11) (tkX.map nI) := hL.at (hW.ext ex34) (i := 11) (by decide +kernel)
    obtain ⟨kaX, kvX, vX, rX, hX, hkX, -⟩ := id sX
    refine mm_callV (pc := 37) (As := [_]) (kd := ?kd_37_10) (fs := ?fs_37_10) dX12_isName_37 vl_X12_257 (ok_indexOf sX s34 (by rw [hcl, List.length_map, tkX_len]; omega) (by rw [hcl]; omega)) ?hc_37_10 ?hk_37_10 rfl rfl (Nat.le_of_ble_eq_true rfl) ?_; (case hc_37_10 => exact hX); (case hk_37_10 => exact hkX)
    rintro r37 _ ⟨rfl, i37⟩
    have tw := wlook_AW (wo_asc hk)
    have hoc := tkX_occ (ws := wo tb n t) (fun c hc => by have := wo_asc hk c hc; omega) (fun z => by have := congrArg List.length z; have h0 : (wo tb n t).length = 0 := this; omega)
    obtain ⟨v37, rfl, hv37⟩ : ∃ v, r37 = some (.int v) ∧ (0 ≤ v ↔ ¬ wlook tkW (wo tb n t) = 2) := by
      rw [← hoc]
      rcases i37 with ⟨i, h1, h2, rfl⟩ | ⟨rfl, h2⟩
      · rw [hcl, List.length_map] at h1
        refine ⟨nI i, rfl, fun _ => ⟨i, by rw [List.length_append]; show i + ((wo tb n t).length + 1 + 1) ≤ _; omega, (occ_occN tkX_asc hca i).mp h2⟩, fun _ => nI_pos' (by rw [tkX_len] at h1; omega)⟩
      · refine ⟨-1, rfl, fun z => absurd z (by decide), fun z => ?_⟩
        obtain ⟨i, h1, h3⟩ := z
        exfalso
        refine h2 i ?_ ((occ_occN tkX_asc hca i).mpr h3)
        rw [hcl, List.length_map]
        rw [List.length_append] at h1
        have h4 : i + ((wo tb n t).length + 1 + 1) ≤ tkX.length := h1
        omega
    rw [← tw] at hv37
    refine mm_if_ge (pc := 40) (tgt := 47) dX12_isName_40 (by decide) (fun c40 => ?_) (fun c40 => ?_)
    · refine mm_iconst (pc := 47) (v := 0) dX12_isName_47 (by decide) ?_
      refine mm_zret (pc := 48) dX12_isName_48 rfl (by first | rfl | decide) ?_
      refine ⟨by rw [decide_eq_false (p := cd tb n t = 2) (fun z => (hv37.mp c40) ((tkC_2 hP.c).mp z).2)]; rfl, ex34, b34, b34s⟩
    · refine mm_iconst (pc := 43) (v := 1) dX12_isName_43 (by decide) ?_
      refine mm_goto (pc := 44) (tgt := 48) dX12_isName_44 (by decide) ?_
      refine mm_zret (pc := 48) dX12_isName_48 rfl (by first | rfl | decide) ?_
      refine ⟨by rw [decide_eq_true (p := cd tb n t = 2) ((tkC_2 hP.c).mpr ⟨hk, Classical.not_not.mp (fun z => c40 (hv37.mpr z))⟩)]; rfl, ex34, b34, b34s⟩

