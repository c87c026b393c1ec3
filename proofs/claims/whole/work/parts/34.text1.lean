def mm_litb : List (List Int32) := [[115, 116, 105, 108, 108], [112, 111, 116], [99, 111, 108, 117, 109, 110], [99, 104, 101, 99, 107, 32, 32, 32, 98, 101, 102, 111, 114, 101, 32, 32, 115, 116, 101, 112, 32, 32, 32, 32, 97, 102, 116, 101, 114, 32, 32, 32, 110, 111, 116, 101, 32, 32, 32, 32, 99, 108, 111, 115, 101, 32, 32, 32], [117, 112, 32, 32, 32, 32, 32, 32, 99, 97, 108, 108, 32, 32, 32, 32, 115, 97, 121, 32, 32, 32, 32, 32, 97, 100, 100, 32, 32, 32, 32, 32, 116, 97, 107, 101, 32, 32, 32, 32, 119, 97, 114, 109, 32, 32, 32, 32, 102, 97, 105, 108, 32, 32, 32, 32, 114, 101, 102, 117, 115, 101, 32, 32, 108, 101, 115, 115, 32, 32, 32, 32, 116, 114, 121, 32, 32, 32, 32, 32], [112, 97, 99, 107, 32, 32, 32, 32, 119, 105, 116, 104, 32, 32, 32, 32, 107, 105, 110, 100, 32, 32, 32, 32, 117, 110, 100, 101, 114, 32, 32, 32, 111, 112, 101, 110, 32, 32, 32, 32, 103, 117, 97, 114, 100, 101, 100, 32, 108, 97, 115, 116, 32, 32, 32, 32, 101, 108, 115, 101, 32, 32, 32, 32, 114, 101, 115, 99, 117, 101, 32, 32, 97, 32, 32, 32, 32, 32, 32, 32], [104, 111, 117, 115, 101], [115, 116, 105, 108, 108], [112, 111, 116], [99, 111, 108, 117, 109, 110], [112, 97, 99, 107], [32, 112, 97, 99, 107, 32, 119, 105, 116, 104, 32, 107, 105, 110, 100, 32, 117, 110, 100, 101, 114, 32, 111, 112, 101, 110, 32, 103, 117, 97, 114, 100, 101, 100, 32, 108, 97, 115, 116, 32, 99, 104, 101, 99, 107, 32, 98, 101, 102, 111, 114, 101, 32, 115, 116, 101, 112, 32, 97, 102, 116, 101, 114, 32, 110, 111, 116, 101, 32, 99, 108, 111, 115, 101, 32, 117, 112, 32, 99, 97, 108, 108, 32, 115, 97, 121, 32, 97, 100, 100, 32, 116, 97, 107, 101, 32, 119, 97, 114, 109, 32, 102, 97, 105, 108, 32, 114, 101, 102, 117, 115, 101, 32, 108, 101, 115, 115, 32, 101, 108, 115, 101, 32, 116, 114, 121, 32, 114, 101, 115, 99, 117, 101, 32, 97, 32], [32], [119, 105, 116, 104], [104, 111, 117, 115, 101], [123], [107, 105, 110, 100], [117, 110, 100, 101, 114], [125], [111, 112, 101, 110], [103, 117, 97, 114, 100, 101, 100], [108, 97, 115, 116], [99, 104, 101, 99, 107], [98, 101, 102, 111, 114, 101], [115, 116, 101, 112], [97, 102, 116, 101, 114], [110, 111, 116, 101], [99, 108, 111, 115, 101], [117, 112], [99, 97, 108, 108], [115, 97, 121], [97, 100, 100], [116, 97, 107, 101], [119, 97, 114, 109], [102, 97, 105, 108], [114, 101, 102, 117, 115, 101], [108, 101, 115, 115], [116, 114, 121], [97], [101, 108, 115, 101], [114, 101, 115, 99, 117, 101], [59]]
/-- outside the window, and there from the start -/
def mw_o (m : Nat) (ad : Nat → Nat) (h0 : mm_H) (a : Nat) : Prop := ¬ a = m ∧ (∀ j, j < 74 → 100 ≤ mw_k j → ¬ a = ad j) ∧ a < h0.2.1
/-- the texts that stand in the code -/
def LT (G : mm_G) (m : Nat) (ad : Nat → Nat) (h0 : mm_H) : Prop := ∀ (i : Nat) (bs : List Int32), mm_litb[i]? = some bs → ∃ v, h0.1 (G.2.2.2.2.1 i) = some (213, [.ref v, .int 0]) ∧ h0.1 v = some (301, bv bs) ∧ mw_o m ad h0 (G.2.2.2.2.1 i) ∧ mw_o m ad h0 v
theorem mm_litb_ok : ∀ bs ∈ mm_litb, bs.length < 200 ∧ ∀ c ∈ bs, (0 ≤ c ∧ c < 128) := by decide +kernel
theorem mm_lit_asc {i : Nat} {bs : List Int32} (h : mm_litb[i]? = some bs) : bs.length < 200 ∧ ascs bs := by
  obtain ⟨a, b⟩ := mm_litb_ok bs (List.mem_of_getElem? h)
  refine ⟨a, fun c hc => ?_⟩
  obtain ⟨b1, b2⟩ := b c hc
  obtain ⟨j, hj, rfl⟩ := nI_of (x := c) (Int32.not_lt.mpr b1)
  exact ⟨j, (nI_ltI hj (by decide)).mp (show nI j < nI 128 from b2), rfl⟩
theorem LT.at {G : mm_G} {m : Nat} {ad : Nat → Nat} {h0 h : mm_H} {M : mw_S} (hL : LT G m ad h0) (hW : mw_W m ad h0 M h) {i : Nat} {bs : List Int32} (hi : mm_litb[i]? = some bs) : sT h (G.2.2.2.2.1 i) bs := by
  obtain ⟨v, h1, h2, o1, o2⟩ := hL i bs hi
  have hl := (mm_lit_asc hi).1
  exact ⟨213, 301, v, [], (hW.2.2.2.2.1 _ o1.1 o1.2.1 o1.2.2).trans h1, rfl, (hW.2.2.2.2.1 _ o2.1 o2.2.1 o2.2.2).trans h2, rfl, by omega⟩
/-- the word on the tape -/
def wd (M : mw_S) (f t : Nat) : List Int32 := (List.range (t - f)).map (fun i => M.2.2.1 0 (f + i))
theorem wd_len (M : mw_S) (f t : Nat) : (wd M f t).length = t - f := by unfold wd; simp
theorem wd_get {M : mw_S} {f t i : Nat} (h : i < t - f) : (wd M f t)[i]? = some (M.2.2.1 0 (f + i)) := mw_rangeG _ h
theorem wd_succ {M : mw_S} {f k : Nat} (h : f ≤ k) : wd M f (k + 1) = wd M f k ++ [M.2.2.1 0 k] := by
  unfold wd
  rw [show k + 1 - f = (k - f) + 1 by omega, List.range_succ, List.map_append]
  show _ ++ [M.2.2.1 0 (f + (k - f))] = _
  rw [show f + (k - f) = k by omega]
theorem wd_nil (M : mw_S) (f : Nat) : wd M f f = [] := by unfold wd; rw [Nat.sub_self]; rfl
theorem sT.ext {h h1 : mm_H} {a : Nat} {bs : List Int32} (hs : sT h a bs) (he : ext h h1) (wf : ∀ (a : Nat) (c : mm_C), h.1 a = some c → a < h.2.1) : sT h1 a bs := by
  obtain ⟨ka, kv, v, rest, hc, hk, hv, hkv, hlen⟩ := hs
  exact ⟨ka, kv, v, rest, by rw [he.2.2 a (wf a _ hc)]; exact hc, hk, by rw [he.2.2 v (wf v _ hv)]; exact hv, hkv, hlen⟩
/-- a text that is new since lo -/
def sN (h1 : mm_H) (a : Nat) (bs : List Int32) (lo : Nat) : Prop := ∃ v, h1.1 a = some (13, [.ref v, .int 0, .int 0, .int 0]) ∧ h1.1 v = some (101, bv bs) ∧ lo ≤ a ∧ lo ≤ v ∧ a < h1.2.1 ∧ v < h1.2.1
/-- a new text: the heap grows by it -/
theorem sT_new {h : mm_H} {bs : List Int32} (hl : bs.length < 2 ^ 30) : sT (mm_push (mm_push h (13, [.ref (h.2.1 + 1), .int 0, .int 0, .int 0])) (101, bv bs)) h.2.1 bs := by
  refine ⟨13, 101, h.2.1 + 1, [.int 0, .int 0], ?_, rfl, ?_, rfl, hl⟩
  · exact mm_push_ne (show ¬ h.2.1 = h.2.1 + 1 by omega) mm_push_eq
  · exact mm_push_eq

theorem ok_X12_told {G : mm_G} {L : Nat × Nat} {d : Nat} {h h0 : mm_H} {m : Nat} {ad : Nat → Nat} {M : mw_S} {f t : Nat} (hf : M.1 27 = nI f) (ht : M.1 28 = nI t) (hft : f ≤ t) (ht8 : t ≤ 800) (h8 : t - f ≤ 8) (hasc : ∀ i, f ≤ i → i < t → asc (M.2.2.1 0 i)) (hL1 : h.2.1 + 4 ≤ L.1) (hL2 : h.2.2 + 32 ≤ L.2) (hW : mw_W m ad h0 M h) : mm_Ok G mX12_told L (d + 6) [.ref m] h (fun r h1 => ∃ a, r = some (.ref a) ∧ sT h1 a (wd M f t) ∧ ext h h1 ∧ h1.2.1 ≤ h.2.1 + 4 ∧ h1.2.2 ≤ h.2.2 + 24 + (t - f) ∧ sN h1 a (wd M f t) h.2.1) := by
  refine mm_Ok.of [(0, .ref m)] rfl kX12_told.2.2.2.2.2 rfl (fun A => ?_)
  have hasc2 : ∀ {k : Nat}, k ≤ t → ascs (wd M f k) := by
    intro k hk c hc
    obtain ⟨i, hi, rfl⟩ := List.mem_map.mp hc
    have := List.mem_range.mp hi
    exact hasc _ (by omega) (by omega)
  have lp_ : ∀ (q k : Nat), k + q = t → f ≤ k → ∀ h1 : mm_H, sB h1 h.2.1 (h.2.1 + 1) (wd M f k) → h1.2 = (h.2.1 + 1 + 1, h.2.2 + 4 + 16) → ext h h1 → mm_Run G mX12_told A L (d + 6) 13 [(2, .int (nI k)), (0, .ref m), (1, .ref h.2.1)] [] h1 (fun r h1 => ∃ a, r = some (.ref a) ∧ sT h1 a (wd M f t) ∧ ext h h1 ∧ h1.2.1 ≤ h.2.1 + 4 ∧ h1.2.2 ≤ h.2.2 + 24 + (t - f) ∧ sN h1 a (wd M f t) h.2.1) := by
    intro q
    induction q with
    | zero =>
      intro k hkt hfk h1 hsb e1 ex1
      have hkt : k = t := by omega
      have hW := hW.ext ex1
      obtain ⟨ml, tl, hsb0, hsv, hsr⟩ := id hsb
      have hasc2 := hasc2 (k := k) (by omega)
      refine mm_iload_n (pc := 13) dX12_told_13 rfl ?_
      refine mm_aload_n (pc := 14) dX12_told_14 rfl (by first | trivial | assumption | exact mm_isr_rf _) ?_
      refine mw_gets (pc := 15) 28 hW dX12_told_15 fl_X12_225 rfl rfl ?_
      refine mm_icmp_ge (pc := 18) (tgt := 39) dX12_told_18 (by decide) (fun c18 => ?_) (fun c18 => absurd (show M.1 28 ≤ nI k by rw [ht, hkt]; exact Int32.le_refl _) c18)
      refine mm_aload_n (pc := 39) dX12_told_39 rfl (by first | trivial | assumption | exact mm_isr_rf _) ?_
      refine mm_callV (pc := 40) (As := []) (kd := ?kd_40_27) (fs := ?fs_40_27) dX12_told_40 vl_X12_235 (ok_sb_toString hsb (fun c hc => hasc2 c hc) (by rw [wd_len]; omega) (by rw [e1]; show h.2.1 + 1 + 1 + 2 ≤ _; omega) (by rw [e1, wd_len]; show h.2.2 + 4 + 16 + 4 + _ ≤ _; omega)) ?hc_40_27 ?hk_40_27 rfl rfl (Nat.le_of_ble_eq_true rfl) ?_; (case hc_40_27 => exact hsb0); (case hk_40_27 => rfl)
      rintro _ _ ⟨rfl, rfl⟩
      refine mm_aret (pc := 43) dX12_told_43 rfl (Or.inl ⟨_, rfl⟩) (by first | trivial | assumption | exact mm_isr_rf _) ?_
      refine ⟨h1.2.1, rfl, ?_, ?_, ?_, ?_, ?_⟩
      · rw [← hkt]
        exact sT_new (by rw [wd_len]; omega)
      · exact ex1.trans ((ext.push _ _).trans (ext.push _ _))
      · show h1.2.1 + 1 + 1 ≤ _
        rw [e1]; show h.2.1 + 1 + 1 + 1 + 1 ≤ _; omega
      · show h1.2.2 + 4 + (bv (wd M f k)).length ≤ _
        rw [e1, bv_len, wd_len]; show h.2.2 + 4 + 16 + 4 + _ ≤ _; omega
      · refine ⟨h1.2.1 + 1, mm_push_ne (show ¬ h1.2.1 = h1.2.1 + 1 by omega) mm_push_eq, by rw [← hkt]; exact mm_push_eq, ?_, ?_, ?_, ?_⟩
        · rw [e1]; show h.2.1 ≤ h.2.1 + 1 + 1; omega
        · rw [e1]; show h.2.1 ≤ h.2.1 + 1 + 1 + 1; omega
        · show h1.2.1 < h1.2.1 + 1 + 1; omega
        · show h1.2.1 + 1 < h1.2.1 + 1 + 1; omega
    | succ q ih =>
      intro k hkt hfk h1 hsb e1 ex1
      have hW := hW.ext ex1
      obtain ⟨ml, tl, hsb0, hsv, hsr⟩ := id hsb
      refine mm_iload_n (pc := 13) dX12_told_13 rfl ?_
      refine mm_aload_n (pc := 14) dX12_told_14 rfl (by first | trivial | assumption | exact mm_isr_rf _) ?_
      refine mw_gets (pc := 15) 28 hW dX12_told_15 fl_X12_225 rfl rfl ?_
      refine mm_icmp_ge (pc := 18) (tgt := 39) dX12_told_18 (by decide) (fun c18 => absurd c18 (show ¬ M.1 28 ≤ nI k by rw [ht]; exact nI_ge (by omega) (by omega))) (fun c18 => ?_)
      refine mm_aload_n (pc := 21) dX12_told_21 rfl (by first | trivial | assumption | exact mm_isr_rf _) ?_
      refine mm_aload_n (pc := 22) dX12_told_22 rfl (by first | trivial | assumption | exact mm_isr_rf _) ?_
      refine mw_geta (pc := 23) 0 hW dX12_told_23 fl_X12_9 rfl rfl ?_
      refine mm_iload_n (pc := 26) dX12_told_26 rfl ?_
      refine mw_bald (pc := 27) 0 k hW dX12_told_27 rfl rfl (by first | with_reducible rfl | assumption | rfl) (by show _ < 800; omega) (by omega) ?_
      refine mm_i2c (pc := 28) dX12_told_28 ?_
      refine mm_topi _ (hasc k (by omega) (by omega)).c ?_
      refine mm_callV (pc := 29) (As := [_]) (kd := ?kd_29_28) (fs := ?fs_29_28) dX12_told_29 vl_X12_231 (ok_sb_appendC hsb (hasc k (by omega) (by omega)) (by rw [wd_len]; omega)) ?hc_29_28 ?hk_29_28 rfl rfl (Nat.le_of_ble_eq_true rfl) ?_; (case hc_29_28 => exact hsb0); (case hk_29_28 => rfl)
      rintro _ h2 ⟨q1, q2, q3, rfl⟩
      refine mm_pop (pc := 32) dX12_told_32 rfl ?_
      refine mm_iinc (pc := 33) dX12_told_33 rfl rfl rfl (Nat.le_of_ble_eq_true rfl) ?_
      refine mm_goto (pc := 36) (tgt := 13) dX12_told_36 (by decide) ?_
      exact mm_weakK (ih (k + 1) (by omega) (by omega) h2 (by rw [wd_succ (by omega)]; exact q1) (by rw [q2, e1]) ⟨by rw [q2]; exact ex1.1, by rw [q2]; exact ex1.2.1, fun b hb => (q3 b (by omega) (by omega)).trans (ex1.2.2 b hb)⟩) (And.intro (by rw [← nI_1]; rfl) (And.intro rfl (And.intro rfl trivial)))
  refine mm_new (pc := 0) dX12_told_0 nl_X12_228 (by omega) (by show h.2.2 + 4 ≤ _; omega) ?_
  refine mm_dup (pc := 3) dX12_told_3 rfl ?_
  refine mm_callI (pc := 4) (As := []) dX12_told_4 il_X12_230 (ok_sb_new mm_push_eq (by show h.2.1 + 1 + 1 ≤ _; omega) (by show h.2.2 + 4 + 16 ≤ _; omega)) rfl rfl (Nat.le_of_ble_eq_true rfl) ?_
  rintro _ h4 ⟨rfl, e4⟩
  refine mm_astore_n (pc := 7) dX12_told_7 (by first | trivial | assumption | exact mm_isr_rf _) rfl (Nat.le_of_ble_eq_true rfl) ?_
  have e4' : h4 = mm_set (mm_push (mm_push h (14, [.null, .int 0, .int 0, .int 0])) (101, List.replicate 16 (.int 0))) h.2.1 (14, [.ref (h.2.1 + 1), .int 0, .int 0, .int 0]) := e4
  have ex4 : ext h h4 := by
    rw [e4']
    refine ⟨by show h.2.1 ≤ h.2.1 + 1 + 1; omega, by show h.2.2 ≤ h.2.2 + 4 + 16; omega, fun b hb => ?_⟩
    exact mm_set_ne (by omega) (mm_push_ne (by show ¬ b = h.2.1 + 1; omega) (mm_push_ne (by omega) rfl))
  have hsb4 : sB h4 h.2.1 (h.2.1 + 1) (wd M f f) := by
    rw [wd_nil, e4]
    exact sB_new (h := mm_push h (14, [.null, .int 0, .int 0, .int 0])) (by show h.2.1 < h.2.1 + 1; omega)
  have hW := hW.ext ex4
  refine mm_aload_n (pc := 8) dX12_told_8 rfl (by first | trivial | assumption | exact mm_isr_rf _) ?_
  refine mw_gets (pc := 9) 27 hW dX12_told_9 fl_X12_212 rfl rfl ?_
  refine mm_istore_n (pc := 12) dX12_told_12 rfl (Nat.le_of_ble_eq_true rfl) ?_
  refine mm_weakK (lp_ (t - f) f (by omega) (Nat.le_refl f) h4 hsb4 (by rw [e4']; rfl) ex4) (And.intro (by rw [← hf]; rfl) (And.intro rfl (And.intro rfl trivial)))

theorem ok_X12_is {G : mm_G} {L : Nat × Nat} {d : Nat} {h h0 : mm_H} {m : Nat} {ad : Nat → Nat} {M : mw_S} {f t : Nat} (hf : M.1 27 = nI f) (ht : M.1 28 = nI t) (hft : f ≤ t) (ht8 : t ≤ 800) {s : Nat} {cs : List Int32} (hs : sT h s cs) (ha : ascs cs) (hW : mw_W m ad h0 M h) : mm_Ok G mX12_is L (d + 4) [.ref m, .ref s] h (fun r h1 => h1 = h ∧ r = some (.int (bI (decide ((M.1 29 = 2 ∨ M.1 29 = 4) ∧ wd M f t = cs))))) := by
  refine mm_Ok.of [(0, .ref m), (1, .ref s)] rfl kX12_is.2.2.2.2.2 rfl (fun A => ?_)
  obtain ⟨ka, kv, v, rest, hsc, hk0, hv, hkv, hlen⟩ := id hs
  have hsub : nI (t - f) = M.1 28 - M.1 27 := by
    obtain ⟨u, rfl⟩ : ∃ u, t = f + u := ⟨t - f, by omega⟩
    rw [ht, hf, show f + u - f = u by omega, ← nI_add, Int32.add_comm, Int32.add_sub_cancel]
  have z43_ : ∀ (k : Nat), ¬ ((M.1 29 = 2 ∨ M.1 29 = 4) ∧ wd M f t = cs) → mm_Run G mX12_is A L (d + 4) 43 [(2, .int 0), (3, .int (nI k)), (0, .ref m), (1, .ref s)] [] h (fun r h1 => h1 = h ∧ r = some (.int (bI (decide ((M.1 29 = 2 ∨ M.1 29 = 4) ∧ wd M f t = cs))))) := by
    intro k hne
    refine mm_iload_n (pc := 43) dX12_is_43 rfl ?_
    refine mm_aload_n (pc := 44) dX12_is_44 rfl (by first | trivial | assumption | exact mm_isr_rf _) ?_
    refine mw_gets (pc := 45) 28 hW dX12_is_45 fl_X12_225 rfl rfl ?_
    refine mm_icmp_ge (pc := 48) (tgt := 86) dX12_is_48 (by decide) (fun c48 => ?_) (fun c48 => ?_)
    · refine mm_iload_n (pc := 86) dX12_is_86 rfl ?_
      refine mm_zret (pc := 87) dX12_is_87 rfl (by rfl) ?_
      exact ⟨rfl, by rw [decide_eq_false hne]; rfl⟩
    · refine mm_iload_n (pc := 51) dX12_is_51 rfl ?_
      refine mm_if_eq (pc := 52) (tgt := 86) dX12_is_52 (by decide) (fun c52 => ?_) (fun c52 => absurd rfl c52)
      refine mm_iload_n (pc := 86) dX12_is_86 rfl ?_
      refine mm_zret (pc := 87) dX12_is_87 rfl (by rfl) ?_
      exact ⟨rfl, by rw [decide_eq_false hne]; rfl⟩
  have lp_ : (M.1 29 = 2 ∨ M.1 29 = 4) → cs.length = t - f → ∀ (q p : Nat), p + q = t - f → (∀ j, j < p → (wd M f t)[j]? = cs[j]?) → mm_Run G mX12_is A L (d + 4) 43 [(2, .int 1), (3, .int (nI (f + p))), (0, .ref m), (1, .ref s)] [] h (fun r h1 => h1 = h ∧ r = some (.int (bI (decide ((M.1 29 = 2 ∨ M.1 29 = 4) ∧ wd M f t = cs))))) := by
    intro hk hl q
    induction q with
    | zero =>
      intro p hpq hp
      refine mm_iload_n (pc := 43) dX12_is_43 rfl ?_
      refine mm_aload_n (pc := 44) dX12_is_44 rfl (by first | trivial | assumption | exact mm_isr_rf _) ?_
      refine mw_gets (pc := 45) 28 hW dX12_is_45 fl_X12_225 rfl rfl ?_
      refine mm_icmp_ge (pc := 48) (tgt := 86) dX12_is_48 (by decide) (fun c48 => ?_) (fun c48 => absurd (show M.1 28 ≤ nI (f + p) by rw [ht]; exact nI_le (by omega) (by omega)) c48)
      refine mm_iload_n (pc := 86) dX12_is_86 rfl ?_
      refine mm_zret (pc := 87) dX12_is_87 rfl (by rfl) ?_
      exact ⟨rfl, by rw [decide_eq_true ⟨hk, l_ext (by rw [wd_len]; omega) (fun j hj => hp j (by rw [wd_len] at hj; omega))⟩]; rfl⟩
    | succ q ih =>
      intro p hpq hp
      have hb : cs[p]? = some cs[p] := List.getElem?_eq_getElem (by omega)
      refine mm_iload_n (pc := 43) dX12_is_43 rfl ?_
      refine mm_aload_n (pc := 44) dX12_is_44 rfl (by first | trivial | assumption | exact mm_isr_rf _) ?_
      refine mw_gets (pc := 45) 28 hW dX12_is_45 fl_X12_225 rfl rfl ?_
      refine mm_icmp_ge (pc := 48) (tgt := 86) dX12_is_48 (by decide) (fun c48 => absurd c48 (show ¬ M.1 28 ≤ nI (f + p) by rw [ht]; exact nI_ge (by omega) (by omega))) (fun c48 => ?_)
      refine mm_iload_n (pc := 51) dX12_is_51 rfl ?_
      refine mm_if_eq (pc := 52) (tgt := 86) dX12_is_52 (by decide) (fun c52 => absurd c52 (by decide)) (fun c52 => ?_)
      refine mm_aload_n (pc := 55) dX12_is_55 rfl (by first | trivial | assumption | exact mm_isr_rf _) ?_
      refine mm_iload_n (pc := 56) dX12_is_56 rfl ?_
      refine mm_aload_n (pc := 57) dX12_is_57 rfl (by first | trivial | assumption | exact mm_isr_rf _) ?_
      refine mw_gets (pc := 58) 27 hW dX12_is_58 fl_X12_212 rfl rfl ?_
      refine mm_isub (pc := 61) dX12_is_61 ?_
      refine mm_topi (nI p) (show nI (f + p) - M.1 27 = nI p by rw [hf, ← nI_add, Int32.add_comm, Int32.add_sub_cancel]) ?_
      refine mm_callV (pc := 62) (As := [_]) (kd := ?kd_62_29) (fs := ?fs_62_29) dX12_is_62 vl_X12_243 (ok_charAt hs hb (ha _ (List.mem_of_getElem? hb))) ?hc_62_29 ?hk_62_29 rfl rfl (Nat.le_of_ble_eq_true rfl) ?_; (case hc_62_29 => exact hsc); (case hk_62_29 => first | rfl | assumption | exact mm_101 (by assumption))
      rintro _ _ ⟨rfl, rfl⟩
      refine mm_aload_n (pc := 65) dX12_is_65 rfl (by first | trivial | assumption | exact mm_isr_rf _) ?_
      refine mw_geta (pc := 66) 0 hW dX12_is_66 fl_X12_9 rfl rfl ?_
      refine mm_iload_n (pc := 69) dX12_is_69 rfl ?_
      refine mw_bald (pc := 70) 0 (f + p) hW dX12_is_70 rfl rfl (by first | with_reducible rfl | assumption | rfl) (by show _ < 800; omega) (by omega) ?_
      refine mm_icmp_ne (pc := 71) (tgt := 78) dX12_is_71 (by decide) (fun c71 => ?_) (fun c71 => ?_)
      · refine mm_iconst (pc := 78) (v := 0) dX12_is_78 (by decide) ?_
        refine mm_istore_n (pc := 79) dX12_is_79 rfl (Nat.le_of_ble_eq_true rfl) ?_
        refine mm_iinc (pc := 80) dX12_is_80 rfl rfl rfl (Nat.le_of_ble_eq_true rfl) ?_
        refine mm_goto (pc := 83) (tgt := 43) dX12_is_83 (by decide) ?_
        exact mm_weakK (z43_ (f + p + 1) (fun z => by
          have hz := congrArg (fun l : List Int32 => l[p]?) z.2
          rw [wd_get (by omega), hb] at hz
          exact c71 (Option.some.inj hz).symm)) (And.intro rfl (And.intro (by rw [← nI_1]; rfl) (And.intro rfl (And.intro rfl trivial))))
      · refine mm_iconst (pc := 74) (v := 1) dX12_is_74 (by decide) ?_
        refine mm_goto (pc := 75) (tgt := 79) dX12_is_75 (by decide) ?_
        refine mm_istore_n (pc := 79) dX12_is_79 rfl (Nat.le_of_ble_eq_true rfl) ?_
        refine mm_iinc (pc := 80) dX12_is_80 rfl rfl rfl (Nat.le_of_ble_eq_true rfl) ?_
        refine mm_goto (pc := 83) (tgt := 43) dX12_is_83 (by decide) ?_
        exact mm_weakK (ih (p + 1) (by omega) (fun j hj => by
          by_cases e : j = p
          · subst e; rw [wd_get (by omega), hb, c71]
          · exact hp j (by omega))) (And.intro rfl (And.intro (by rw [show f + (p + 1) = f + p + 1 by omega, ← nI_1]; rfl) (And.intro rfl (And.intro rfl trivial))))
  refine mm_aload_n (pc := 0) dX12_is_0 rfl (by first | trivial | assumption | exact mm_isr_rf _) ?_
  refine mw_gets (pc := 1) 29 hW dX12_is_1 fl_X12_215 rfl rfl ?_
  refine mm_iconst (pc := 4) (v := 2) dX12_is_4 (by decide) ?_
  refine mm_icmp_eq (pc := 5) (tgt := 16) dX12_is_5 (by decide) (fun c5 => ?_) (fun c5 => ?_)
  · refine mm_aload_n (pc := 16) dX12_is_16 rfl (by first | trivial | assumption | exact mm_isr_rf _) ?_
    refine mm_callV (pc := 17) (As := []) (kd := ?kd_17_30) (fs := ?fs_17_30) dX12_is_17 vl_X12_239 (ok_length hs) ?hc_17_30 ?hk_17_30 rfl rfl (Nat.le_of_ble_eq_true rfl) ?_; (case hc_17_30 => exact hsc); (case hk_17_30 => first | rfl | assumption | exact mm_101 (by assumption))
    rintro _ _ ⟨rfl, rfl⟩
    refine mm_aload_n (pc := 20) dX12_is_20 rfl (by first | trivial | assumption | exact mm_isr_rf _) ?_
    refine mw_gets (pc := 21) 28 hW dX12_is_21 fl_X12_225 rfl rfl ?_
    refine mm_aload_n (pc := 24) dX12_is_24 rfl (by first | trivial | assumption | exact mm_isr_rf _) ?_
    refine mw_gets (pc := 25) 27 hW dX12_is_25 fl_X12_212 rfl rfl ?_
    refine mm_isub (pc := 28) dX12_is_28 ?_
    refine mm_icmp_ne (pc := 29) (tgt := 36) dX12_is_29 (by decide) (fun c29 => ?_) (fun c29 => ?_)
    · refine mm_iconst (pc := 36) (v := 0) dX12_is_36 (by decide) ?_
      refine mm_istore_n (pc := 37) dX12_is_37 rfl (Nat.le_of_ble_eq_true rfl) ?_
      refine mm_aload_n (pc := 38) dX12_is_38 rfl (by first | trivial | assumption | exact mm_isr_rf _) ?_
      refine mw_gets (pc := 39) 27 hW dX12_is_39 fl_X12_212 rfl rfl ?_
      refine mm_istore_n (pc := 42) dX12_is_42 rfl (Nat.le_of_ble_eq_true rfl) ?_
      exact mm_weakK (z43_ f (fun z => (by have hz := congrArg List.length z.2; rw [wd_len] at hz; exact c29 (show nI cs.length = M.1 28 - M.1 27 by rw [← hz, hsub])))) (And.intro rfl (And.intro (by rw [← hf]; rfl) (And.intro rfl (And.intro rfl trivial))))
    · refine mm_iconst (pc := 32) (v := 1) dX12_is_32 (by decide) ?_
      refine mm_goto (pc := 33) (tgt := 37) dX12_is_33 (by decide) ?_
      refine mm_istore_n (pc := 37) dX12_is_37 rfl (Nat.le_of_ble_eq_true rfl) ?_
      refine mm_aload_n (pc := 38) dX12_is_38 rfl (by first | trivial | assumption | exact mm_isr_rf _) ?_
      refine mw_gets (pc := 39) 27 hW dX12_is_39 fl_X12_212 rfl rfl ?_
      refine mm_istore_n (pc := 42) dX12_is_42 rfl (Nat.le_of_ble_eq_true rfl) ?_
      exact mm_weakK (lp_ (Or.inl c5) (by have hz := (nI_eq (by omega) (by omega)).mp (show nI cs.length = nI (t - f) by rw [hsub]; exact c29); omega) (t - f) 0 (by omega) (fun j hj => by omega)) (And.intro rfl (And.intro (by rw [Nat.add_zero, ← hf]; rfl) (And.intro rfl (And.intro rfl trivial))))
  · refine mm_aload_n (pc := 8) dX12_is_8 rfl (by first | trivial | assumption | exact mm_isr_rf _) ?_
    refine mw_gets (pc := 9) 29 hW dX12_is_9 fl_X12_215 rfl rfl ?_
    refine mm_iconst (pc := 12) (v := 4) dX12_is_12 (by decide) ?_
    refine mm_icmp_ne (pc := 13) (tgt := 36) dX12_is_13 (by decide) (fun c13 => ?_) (fun c13 => ?_)
    · refine mm_iconst (pc := 36) (v := 0) dX12_is_36 (by decide) ?_
      refine mm_istore_n (pc := 37) dX12_is_37 rfl (Nat.le_of_ble_eq_true rfl) ?_
      refine mm_aload_n (pc := 38) dX12_is_38 rfl (by first | trivial | assumption | exact mm_isr_rf _) ?_
      refine mw_gets (pc := 39) 27 hW dX12_is_39 fl_X12_212 rfl rfl ?_
      refine mm_istore_n (pc := 42) dX12_is_42 rfl (Nat.le_of_ble_eq_true rfl) ?_
      exact mm_weakK (z43_ f (fun z => z.1.elim c5 c13)) (And.intro rfl (And.intro (by rw [← hf]; rfl) (And.intro rfl (And.intro rfl trivial))))
    · refine mm_aload_n (pc := 16) dX12_is_16 rfl (by first | trivial | assumption | exact mm_isr_rf _) ?_
      refine mm_callV (pc := 17) (As := []) (kd := ?kd_17_31) (fs := ?fs_17_31) dX12_is_17 vl_X12_239 (ok_length hs) ?hc_17_31 ?hk_17_31 rfl rfl (Nat.le_of_ble_eq_true rfl) ?_; (case hc_17_31 => exact hsc); (case hk_17_31 => first | rfl | assumption | exact mm_101 (by assumption))
      rintro _ _ ⟨rfl, rfl⟩
      refine mm_aload_n (pc := 20) dX12_is_20 rfl (by first | trivial | assumption | exact mm_isr_rf _) ?_
      refine mw_gets (pc := 21) 28 hW dX12_is_21 fl_X12_225 rfl rfl ?_
      refine mm_aload_n (pc := 24) dX12_is_24 rfl (by first | trivial | assumption | exact mm_isr_rf _) ?_
      refine mw_gets (pc := 25) 27 hW dX12_is_25 fl_X12_212 rfl rfl ?_
      refine mm_isub (pc := 28) dX12_is_28 ?_
      refine mm_icmp_ne (pc := 29) (tgt := 36) dX12_is_29 (by decide) (fun c29 => ?_) (fun c29 => ?_)
      · refine mm_iconst (pc := 36) (v := 0) dX12_is_36 (by decide) ?_
        refine mm_istore_n (pc := 37) dX12_is_37 rfl (Nat.le_of_ble_eq_true rfl) ?_
        refine mm_aload_n (pc := 38) dX12_is_38 rfl (by first | trivial | assumption | exact mm_isr_rf _) ?_
        refine mw_gets (pc := 39) 27 hW dX12_is_39 fl_X12_212 rfl rfl ?_
        refine mm_istore_n (pc := 42) dX12_is_42 rfl (Nat.le_of_ble_eq_true rfl) ?_
        exact mm_weakK (z43_ f (fun z => (by have hz := congrArg List.length z.2; rw [wd_len] at hz; exact c29 (show nI cs.length = M.1 28 - M.1 27 by rw [← hz, hsub])))) (And.intro rfl (And.intro (by rw [← hf]; rfl) (And.intro rfl (And.intro rfl trivial))))
      · refine mm_iconst (pc := 32) (v := 1) dX12_is_32 (by decide) ?_
        refine mm_goto (pc := 33) (tgt := 37) dX12_is_33 (by decide) ?_
        refine mm_istore_n (pc := 37) dX12_is_37 rfl (Nat.le_of_ble_eq_true rfl) ?_
        refine mm_aload_n (pc := 38) dX12_is_38 rfl (by first | trivial | assumption | exact mm_isr_rf _) ?_
        refine mw_gets (pc := 39) 27 hW dX12_is_39 fl_X12_212 rfl rfl ?_
        refine mm_istore_n (pc := 42) dX12_is_42 rfl (Nat.le_of_ble_eq_true rfl) ?_
        exact mm_weakK (lp_ (Or.inr c13) (by have hz := (nI_eq (by omega) (by omega)).mp (show nI cs.length = nI (t - f) by rw [hsub]; exact c29); omega) (t - f) 0 (by omega) (fun j hj => by omega)) (And.intro rfl (And.intro (by rw [Nat.add_zero, ← hf]; rfl) (And.intro rfl (And.intro rfl trivial))))

