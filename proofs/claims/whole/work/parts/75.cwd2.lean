theorem ok_X10_rowOf {G : mm_G} {L : Nat × Nat} {d : Nat} {h : mm_H} {ta sa p s m : Nat} {tb : Nat → Nat} {cs : List Nat} (hT : tpc h ta tb) (hs : sT h sa (cs.map nI)) (hca : ∀ c ∈ cs, c < 128) (hw : ∀ i, i < s → isL (tb (p + i)) = true) (hs8 : s ≤ 8) (hps : p + s ≤ 800) (hm : cs.length = 8 * m) (hcl : cs.length < 1000) (hdiv : nI (cs.map nI).length / 8 = nI m) : mm_Ok G mX10_rowOf L (d + 5) [.ref sa, .ref ta, .int (nI p), .int (nI s)] h (fun r h1 => h1 = h ∧ ((∃ i, i < m ∧ r = some (.int (nI i)) ∧ rwE cs (wn tb p (p + s)) i) ∨ (r = some (.int (-1)) ∧ ∀ i, i < m → ¬ rwE cs (wn tb p (p + s)) i))) := by
  refine mm_Ok.of [(0, .ref sa), (1, .ref ta), (2, .int (nI p)), (3, .int (nI s))] rfl kX10_rowOf.2.2.2.2.2 rfl (fun A => ?_)
  obtain ⟨ka, kv, v, rest, hsc, hk0, hv, hkv, hlen⟩ := id hs
  have lp_ : ∀ (q i : Nat), i + q = m → (∀ j, j < i → ¬ rwE cs (wn tb p (p + s)) j) → mm_Run G mX10_rowOf A L (d + 5) 3 [(4, .int (nI i)), (0, .ref sa), (1, .ref ta), (2, .int (nI p)), (3, .int (nI s))] [] h (fun r h1 => h1 = h ∧ ((∃ i, i < m ∧ r = some (.int (nI i)) ∧ rwE cs (wn tb p (p + s)) i) ∨ (r = some (.int (-1)) ∧ ∀ i, i < m → ¬ rwE cs (wn tb p (p + s)) i))) := by
    intro q
    induction q with
    | zero =>
      intro i hi8 hI
      refine mm_iload (pc := 3) dX10_rowOf_3 rfl ?_
      refine mm_aload_n (pc := 5) dX10_rowOf_5 rfl (by first | trivial | assumption | exact mm_isr_rf _) ?_
      refine mm_callV (pc := 6) (As := []) (kd := ?kd_6_1) (fs := ?fs_6_1) dX10_rowOf_6 vl_X10_72 (ok_length hs) ?hc_6_1 ?hk_6_1 rfl rfl (Nat.le_of_ble_eq_true rfl) ?_; (case hc_6_1 => exact hsc); (case hk_6_1 => first | rfl | exact hk0)
      rintro _ _ ⟨rfl, rfl⟩
      refine mm_bipush (pc := 9) (v := 8) dX10_rowOf_9 (by decide) ?_
      refine mm_idiv (pc := 11) dX10_rowOf_11 (by decide) ?_
      refine mm_topi (nI m) hdiv ?_
      refine mm_icmp_ge (pc := 12) (tgt := 39) dX10_rowOf_12 (by decide) (fun c12 => ?_) (fun c12 => absurd (nI_le (by omega) (by omega)) c12)
      refine mm_iconst (pc := 39) (v := (-1)) dX10_rowOf_39 (by decide) ?_
      refine mm_iret (pc := 40) dX10_rowOf_40 rfl ?_
      exact ⟨rfl, Or.inr ⟨rfl, fun j hj => hI j (by omega)⟩⟩
    | succ q ih =>
      intro i hi8 hI
      refine mm_iload (pc := 3) dX10_rowOf_3 rfl ?_
      refine mm_aload_n (pc := 5) dX10_rowOf_5 rfl (by first | trivial | assumption | exact mm_isr_rf _) ?_
      refine mm_callV (pc := 6) (As := []) (kd := ?kd_6_2) (fs := ?fs_6_2) dX10_rowOf_6 vl_X10_72 (ok_length hs) ?hc_6_2 ?hk_6_2 rfl rfl (Nat.le_of_ble_eq_true rfl) ?_; (case hc_6_2 => exact hsc); (case hk_6_2 => first | rfl | exact hk0)
      rintro _ _ ⟨rfl, rfl⟩
      refine mm_bipush (pc := 9) (v := 8) dX10_rowOf_9 (by decide) ?_
      refine mm_idiv (pc := 11) dX10_rowOf_11 (by decide) ?_
      refine mm_topi (nI m) hdiv ?_
      refine mm_icmp_ge (pc := 12) (tgt := 39) dX10_rowOf_12 (by decide) (fun c12 => absurd c12 (nI_ge (by omega) (by omega))) (fun c12 => ?_)
      refine mm_aload_n (pc := 15) dX10_rowOf_15 rfl (by first | trivial | assumption | exact mm_isr_rf _) ?_
      refine mm_iload (pc := 16) dX10_rowOf_16 rfl ?_
      refine mm_bipush (pc := 18) (v := 8) dX10_rowOf_18 (by decide) ?_
      refine mm_imul (pc := 20) dX10_rowOf_20 ?_
      refine mm_topi (nI (8 * i)) (by rw [Nat.mul_comm]; exact (Int32.ofNat_mul i 8).symm) ?_
      refine mm_aload_n (pc := 21) dX10_rowOf_21 rfl (by first | trivial | assumption | exact mm_isr_rf _) ?_
      refine mm_iload_n (pc := 22) dX10_rowOf_22 rfl ?_
      refine mm_iload_n (pc := 23) dX10_rowOf_23 rfl ?_
      refine mm_callS (pc := 24) (As := [_, _, _, _, _]) dX10_rowOf_24 sl_X10_78 (ok_X10_isRow (k := i) hT hs hca hw hs8 hps (by omega) hcl) rfl rfl (Nat.le_of_ble_eq_true rfl) ?_
      rintro _ _ ⟨rfl, q24⟩
      rcases q24 with ⟨q24, q25⟩ | ⟨q24, q25⟩ <;> cases q24
      · refine mm_if_eq (pc := 27) (tgt := 33) dX10_rowOf_27 (by decide) (fun c27 => absurd c27 (by decide)) (fun c27 => ?_)
        refine mm_iload (pc := 30) dX10_rowOf_30 rfl ?_
        refine mm_iret (pc := 32) dX10_rowOf_32 rfl ?_
        exact ⟨rfl, Or.inl ⟨i, by omega, rfl, q25⟩⟩
      · refine mm_if_eq (pc := 27) (tgt := 33) dX10_rowOf_27 (by decide) (fun c27 => ?_) (fun c27 => absurd rfl c27)
        refine mm_iinc (pc := 33) dX10_rowOf_33 rfl rfl rfl (Nat.le_of_ble_eq_true rfl) ?_
        refine mm_goto (pc := 36) (tgt := 3) dX10_rowOf_36 (by decide) ?_
        exact mm_weakK (ih (i + 1) (by omega) (fun j hj => by
          by_cases e : j = i
          · subst e; exact q25
          · exact hI j (by omega))) (And.intro (by rw [← nI_1]; rfl) (And.intro rfl (And.intro rfl (And.intro rfl (And.intro rfl trivial)))))
  refine mm_iconst (pc := 0) (v := 0) dX10_rowOf_0 (by decide) ?_
  refine mm_istore (pc := 1) dX10_rowOf_1 rfl (Nat.le_of_ble_eq_true rfl) ?_
  exact mm_weakK (lp_ m 0 (by omega) (fun j hj => by omega)) (And.intro rfl (And.intro rfl (And.intro rfl (And.intro rfl (And.intro rfl trivial)))))

/-! which word it is -/
def tw (j : Nat) : List Nat := (tkW.getD j ([], 0)).1
def wt (o m : Nat) : List Nat := (List.range m).flatMap (fun i => tw (o + i) ++ List.replicate (8 - (tw (o + i)).length) 32)
theorem wt_3 : mm_litb[3]? = some ((wt 0 6).map nI) ∧ (wt 0 6).length = 48 ∧ (∀ c ∈ wt 0 6, c < 128) ∧ ∀ r, r < 6 → ∀ i, i < 8 → (wt 0 6)[8 * r + i]? = some (pad8 (tw (0 + r)) i) := by decide +kernel
theorem wt_4 : mm_litb[4]? = some ((wt 6 10).map nI) ∧ (wt 6 10).length = 80 ∧ (∀ c ∈ wt 6 10, c < 128) ∧ ∀ r, r < 10 → ∀ i, i < 8 → (wt 6 10)[8 * r + i]? = some (pad8 (tw (6 + r)) i) := by decide +kernel
theorem wt_5 : mm_litb[5]? = some ((wt 16 10).map nI) ∧ (wt 16 10).length = 80 ∧ (∀ c ∈ wt 16 10, c < 128) ∧ ∀ r, r < 10 → ∀ i, i < 8 → (wt 16 10)[8 * r + i]? = some (pad8 (tw (16 + r)) i) := by decide +kernel
theorem tw_b : ∀ j, j < 26 → (tw j, 7 + j) ∈ tkA ∧ (∀ c ∈ tw j, 97 ≤ c ∧ c ≤ 122) ∧ (tw j).length ≤ 8 := by decide +kernel
theorem tw_c : ∀ e ∈ tkA, (∃ c ∈ e.1, ¬ (97 ≤ c ∧ c ≤ 122)) ∨ ∃ j, j < 26 ∧ e.1 = tw j := by decide +kernel
theorem pad8_inj {ws w : List Nat} (h1 : ltr ws) (h2 : ltr w) (h : ∀ i, i < 8 → pad8 ws i = pad8 w i) : ws = w := by
  refine List.ext_getElem? (fun i => ?_)
  by_cases hi : i < 8
  · have q := h i hi
    unfold pad8 at q
    cases e1 : ws[i]? with
    | none =>
      cases e2 : w[i]? with
      | none => rfl
      | some c =>
        rw [e1, e2] at q
        have q : 32 = c := q
        have := h2.1 c (List.mem_of_getElem? e2)
        omega
    | some c =>
      have hc := h1.1 c (List.mem_of_getElem? e1)
      cases e2 : w[i]? with
      | none =>
        rw [e1, e2] at q
        have q : c = 32 := q
        omega
      | some c' =>
        rw [e1, e2] at q
        have q : c = c' := q
        rw [q]
  · rw [List.getElem?_eq_none (by have := h1.2; omega), List.getElem?_eq_none (by have := h2.2; omega)]
theorem rwE_iff {o m r : Nat} {ws : List Nat} (hr : r < m) (ho : o + r < 26) (hw : ltr ws) (ht : ∀ r, r < m → ∀ i, i < 8 → (wt o m)[8 * r + i]? = some (pad8 (tw (o + r)) i)) : rwE (wt o m) ws r ↔ ws = tw (o + r) := by
  refine ⟨fun h => ?_, fun h => ?_⟩
  · exact pad8_inj hw (tw_b _ ho).2 (fun i hi => (Option.some.inj ((ht r hr i hi).symm.trans (h i hi))).symm)
  · intro i hi
    rw [h]
    exact ht r hr i hi
theorem wlook_hit {j : Nat} {ws : List Nat} (hj : j < 26) (h : ws = tw j) : wlook tkA ws = 7 + j := (wlook_iff (tw_b j hj).1).mpr h
theorem wlook_none {ws : List Nat} (hw : ltr ws) (h : ∀ j, j < 26 → ¬ ws = tw j) : wlook tkA ws = 2 := by
  rcases wlook_mem (l := tkA) (ws := ws) with z | z
  · exact z
  · rcases tw_c _ z with ⟨c, hc, hn⟩ | ⟨j, hj, e⟩
    · exact absurd (hw.1 c hc) hn
    · exact absurd e (h j hj)
theorem wn_ltr {tb : Nat → Nat} {p s : Nat} (hc : ∀ i, tb i < 256) (hw : ∀ i, i < s → isL (tb (p + i)) = true) (hs8 : s ≤ 8) : ltr (wn tb p (p + s)) := by
  refine ⟨fun c hm => ?_, by rw [wn_len]; omega⟩
  obtain ⟨i, hi, rfl⟩ := List.mem_map.mp hm
  have := List.mem_range.mp hi
  exact (bt_sp _ (hc _) (hw i (by omega))).2.2

theorem ok_X10_lettersAre {G : mm_G} {L : Nat × Nat} {d : Nat} {h : mm_H} {ta p s : Nat} {tb : Nat → Nat} (hT : tpc h ta tb) (hl : lt_ G h) (hw : ∀ i, i < s → isL (tb (p + i)) = true) (hs8 : s ≤ 8) (hps : p + s ≤ 800) : mm_Ok G mX10_lettersAre L (d + 6) [.ref ta, .int (nI p), .int (nI s)] h (fun r h1 => h1 = h ∧ r = some (.int (nI (wlook tkA (wn tb p (p + s)))))) := by
  refine mm_Ok.of [(0, .ref ta), (1, .int (nI p)), (2, .int (nI s))] rfl kX10_lettersAre.2.2.2.2.2 rfl (fun A => ?_)
  have hlt := wn_ltr hT.1 hw hs8
  refine mm_ldcS (pc := 0) (i := 3) dX10_lettersAre_0 rfl ?_
  refine mm_aload_n (pc := 2) dX10_lettersAre_2 rfl (by first | trivial | assumption | exact mm_isr_rf _) ?_
  refine mm_iload_n (pc := 3) dX10_lettersAre_3 rfl ?_
  refine mm_iload_n (pc := 4) dX10_lettersAre_4 rfl ?_
  refine mm_callS (pc := 5) (As := [_, _, _, _]) dX10_lettersAre_5 sl_X10_64 (ok_X10_rowOf (m := 6) hT (hl.t wt_3.1) wt_3.2.2.1 hw hs8 hps wt_3.2.1 (by rw [wt_3.2.1]; decide) (by rw [List.length_map, wt_3.2.1]; decide)) rfl rfl (Nat.le_of_ble_eq_true rfl) ?_
  rintro _ _ ⟨rfl, ⟨i5, l5, rfl, q5⟩ | ⟨rfl, q5⟩⟩
  · refine mm_istore_n (pc := 8) dX10_lettersAre_8 rfl (Nat.le_of_ble_eq_true rfl) ?_
    refine mm_iload_n (pc := 9) dX10_lettersAre_9 rfl ?_
    refine mm_if_lt (pc := 10) (tgt := 18) dX10_lettersAre_10 (by decide) (fun c10 => absurd c10 (nI_pos (by omega))) (fun c10 => ?_)
    refine mm_bipush (pc := 13) (v := 7) dX10_lettersAre_13 (by decide) ?_
    refine mm_iload_n (pc := 15) dX10_lettersAre_15 rfl ?_
    refine mm_iadd (pc := 16) dX10_lettersAre_16 ?_
    refine mm_iret (pc := 17) dX10_lettersAre_17 rfl ?_
    exact ⟨rfl, by rw [wlook_hit (by omega) ((rwE_iff l5 (by omega) hlt wt_3.2.2.2).mp q5)]; show _ = some (Value.int (nI (7 + (0 + i5)))); rw [show 7 + (0 + i5) = 7 + i5 by omega, ← nI_add]; rfl⟩
  · refine mm_istore_n (pc := 8) dX10_lettersAre_8 rfl (Nat.le_of_ble_eq_true rfl) ?_
    refine mm_iload_n (pc := 9) dX10_lettersAre_9 rfl ?_
    refine mm_if_lt (pc := 10) (tgt := 18) dX10_lettersAre_10 (by decide) (fun c10 => ?_) (fun c10 => absurd (by decide) c10)
    refine mm_ldcS (pc := 18) (i := 4) dX10_lettersAre_18 rfl ?_
    refine mm_aload_n (pc := 20) dX10_lettersAre_20 rfl (by first | trivial | assumption | exact mm_isr_rf _) ?_
    refine mm_iload_n (pc := 21) dX10_lettersAre_21 rfl ?_
    refine mm_iload_n (pc := 22) dX10_lettersAre_22 rfl ?_
    refine mm_callS (pc := 23) (As := [_, _, _, _]) dX10_lettersAre_23 sl_X10_64 (ok_X10_rowOf (m := 10) hT (hl.t wt_4.1) wt_4.2.2.1 hw hs8 hps wt_4.2.1 (by rw [wt_4.2.1]; decide) (by rw [List.length_map, wt_4.2.1]; decide)) rfl rfl (Nat.le_of_ble_eq_true rfl) ?_
    rintro _ _ ⟨rfl, ⟨i23, l23, rfl, q23⟩ | ⟨rfl, q23⟩⟩
    · refine mm_istore_n (pc := 26) dX10_lettersAre_26 rfl (Nat.le_of_ble_eq_true rfl) ?_
      refine mm_iload_n (pc := 27) dX10_lettersAre_27 rfl ?_
      refine mm_if_lt (pc := 28) (tgt := 36) dX10_lettersAre_28 (by decide) (fun c28 => absurd c28 (nI_pos (by omega))) (fun c28 => ?_)
      refine mm_bipush (pc := 31) (v := 13) dX10_lettersAre_31 (by decide) ?_
      refine mm_iload_n (pc := 33) dX10_lettersAre_33 rfl ?_
      refine mm_iadd (pc := 34) dX10_lettersAre_34 ?_
      refine mm_iret (pc := 35) dX10_lettersAre_35 rfl ?_
      exact ⟨rfl, by rw [wlook_hit (by omega) ((rwE_iff l23 (by omega) hlt wt_4.2.2.2).mp q23)]; show _ = some (Value.int (nI (7 + (6 + i23)))); rw [show 7 + (6 + i23) = 13 + i23 by omega, ← nI_add]; rfl⟩
    · refine mm_istore_n (pc := 26) dX10_lettersAre_26 rfl (Nat.le_of_ble_eq_true rfl) ?_
      refine mm_iload_n (pc := 27) dX10_lettersAre_27 rfl ?_
      refine mm_if_lt (pc := 28) (tgt := 36) dX10_lettersAre_28 (by decide) (fun c28 => ?_) (fun c28 => absurd (by decide) c28)
      refine mm_ldcS (pc := 36) (i := 5) dX10_lettersAre_36 rfl ?_
      refine mm_aload_n (pc := 38) dX10_lettersAre_38 rfl (by first | trivial | assumption | exact mm_isr_rf _) ?_
      refine mm_iload_n (pc := 39) dX10_lettersAre_39 rfl ?_
      refine mm_iload_n (pc := 40) dX10_lettersAre_40 rfl ?_
      refine mm_callS (pc := 41) (As := [_, _, _, _]) dX10_lettersAre_41 sl_X10_64 (ok_X10_rowOf (m := 10) hT (hl.t wt_5.1) wt_5.2.2.1 hw hs8 hps wt_5.2.1 (by rw [wt_5.2.1]; decide) (by rw [List.length_map, wt_5.2.1]; decide)) rfl rfl (Nat.le_of_ble_eq_true rfl) ?_
      rintro _ _ ⟨rfl, ⟨i41, l41, rfl, q41⟩ | ⟨rfl, q41⟩⟩
      · refine mm_istore_n (pc := 44) dX10_lettersAre_44 rfl (Nat.le_of_ble_eq_true rfl) ?_
        refine mm_iload_n (pc := 45) dX10_lettersAre_45 rfl ?_
        refine mm_if_lt (pc := 46) (tgt := 56) dX10_lettersAre_46 (by decide) (fun c46 => absurd c46 (nI_pos (by omega))) (fun c46 => ?_)
        refine mm_bipush (pc := 49) (v := 23) dX10_lettersAre_49 (by decide) ?_
        refine mm_iload_n (pc := 51) dX10_lettersAre_51 rfl ?_
        refine mm_iadd (pc := 52) dX10_lettersAre_52 ?_
        refine mm_goto (pc := 53) (tgt := 57) dX10_lettersAre_53 (by decide) ?_
        refine mm_iret (pc := 57) dX10_lettersAre_57 rfl ?_
        exact ⟨rfl, by rw [wlook_hit (by omega) ((rwE_iff l41 (by omega) hlt wt_5.2.2.2).mp q41)]; show _ = some (Value.int (nI (7 + (16 + i41)))); rw [show 7 + (16 + i41) = 23 + i41 by omega, ← nI_add]; rfl⟩
      · refine mm_istore_n (pc := 44) dX10_lettersAre_44 rfl (Nat.le_of_ble_eq_true rfl) ?_
        refine mm_iload_n (pc := 45) dX10_lettersAre_45 rfl ?_
        refine mm_if_lt (pc := 46) (tgt := 56) dX10_lettersAre_46 (by decide) (fun c46 => ?_) (fun c46 => absurd (by decide) c46)
        refine mm_iconst (pc := 56) (v := 2) dX10_lettersAre_56 (by decide) ?_
        refine mm_iret (pc := 57) dX10_lettersAre_57 rfl ?_
        have q_ : wlook tkA (wn tb p (p + s)) = 2 := wlook_none hlt (fun j hj e => by
          by_cases a1 : j < 6
          · exact q5 j a1 ((rwE_iff a1 (by omega) hlt wt_3.2.2.2).mpr (by rw [Nat.zero_add]; exact e))
          · by_cases a2 : j < 16
            · exact q23 (j - 6) (by omega) ((rwE_iff (by omega) (by omega) hlt wt_4.2.2.2).mpr (by rw [show 6 + (j - 6) = j by omega]; exact e))
            · exact q41 (j - 16) (by omega) ((rwE_iff (by omega) (by omega) hlt wt_5.2.2.2).mpr (by rw [show 16 + (j - 16) = j by omega]; exact e)))
        exact ⟨rfl, by rw [q_]; rfl⟩

