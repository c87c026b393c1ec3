theorem mm_push_set {h : mm_H} {x : Nat} {c c' : mm_C} (hne : ¬ x = h.2.1) : mm_set (mm_push h c) x c' = mm_push (mm_set h x c') c := by
  refine Prod.ext (funext fun b => ?_) rfl
  show (if b = x then some c' else if b = h.2.1 then some c else h.1 b) = (if b = h.2.1 then some c else if b = x then some c' else h.1 b)
  by_cases e : b = x
  · rw [if_pos e, if_neg (by omega), if_pos e]
  · rw [if_neg e, if_neg e]
def ascs (cs : List Int32) : Prop := ∀ c ∈ cs, asc c
theorem ascs.fit {cs : List Int32} (h : ascs cs) : ∀ v ∈ bv cs, fits .byte v = true ∧ ∃ x, v = .int x := by
  intro v hv
  obtain ⟨c, hc, rfl⟩ := List.mem_map.mp hv
  exact ⟨(h c hc).fb, c, rfl⟩
theorem cp_app {bs cs tl : List Int32} (hl : cs.length ≤ tl.length) : mm_cp (bv cs) (bv (bs ++ tl)) 0 bs.length cs.length = bv ((bs ++ cs) ++ tl.drop cs.length) := by
  unfold mm_cp
  have e1 : (bv (bs ++ tl)).take bs.length = bv bs := by
    unfold bv
    rw [← List.map_take, List.take_left']
    rfl
  have e2 : ((bv cs).drop 0).take cs.length = bv cs := by
    rw [List.drop_zero, List.take_of_length_le (by rw [bv_len]; exact Nat.le_refl _)]
  have e3 : (bv (bs ++ tl)).drop (bs.length + cs.length) = bv (tl.drop cs.length) := by
    unfold bv
    rw [← List.map_drop, List.drop_append, show bs.length + cs.length - bs.length = cs.length by omega, List.drop_of_length_le (by omega), List.nil_append]
  rw [e1, e2, e3, ← bv_app, ← bv_app]

theorem ok_getBytes {G : mm_G} {L : Nat × Nat} {d : Nat} {h : mm_H} {a : Nat} {cs : List Int32} (hs : sT h a cs) {v dp : Nat} {ws : List Value} (hv : h.1 v = some (101, ws)) (hd : dp + cs.length ≤ ws.length) (hws : ws.length < 2 ^ 30) (ha : ascs cs) : mm_Ok G mJ0_getBytes_840e7 L (d + 1) [.ref a, .ref v, .int (nI dp), .int 0] h (fun r h1 => h1 = mm_set h v (101, mm_cp (bv cs) ws 0 dp cs.length) ∧ r = none) := by
  refine mm_Ok.of [(0, .ref a), (1, .ref v), (2, .int (nI dp)), (3, .int 0)] rfl kJ0_getBytes_840e7.2.2.2.2.2 rfl (fun A => ?_)
  obtain ⟨ka, kv, w, rest, hc, hk, hw, hkv, hlen⟩ := hs
  refine mm_aload_n (pc := 0) dJ0_getBytes_840e7_0 rfl (by first | trivial | assumption | exact mm_isr_rf _) ?_
  refine mm_callV (pc := 1) (As := []) (kd := ?kd_1) (fs := ?fs_1) dJ0_getBytes_840e7_1 vl_J0_335 (ok_coder hc hk) ?hc_1 ?hk_1 rfl rfl (Nat.le_of_ble_eq_true rfl) ?_; (case hc_1 => exact hc); (case hk_1 => first | rfl | assumption | exact mm_101 (by assumption))
  rintro _ _ ⟨rfl, rfl⟩
  refine mm_iload_n (pc := 4) dJ0_getBytes_840e7_4 rfl ?_
  refine mm_icmp_ne (pc := 5) (tgt := 28) dJ0_getBytes_840e7_5 (by decide) (fun c5 => absurd rfl c5) (fun c5 => ?_)
  refine mm_aload_n (pc := 8) dJ0_getBytes_840e7_8 rfl (by first | trivial | assumption | exact mm_isr_rf _) ?_
  refine mm_get (pc := 9) (kd := ?kd_9) (fs := ?fs_9) (v := ?v_9) dJ0_getBytes_840e7_9 fl_J0_9 ?hc_9 ?hk_9 ?hv_9 ?_; (case hc_9 => exact hc); (case hk_9 => first | rfl | assumption | exact mm_101 (by assumption)); (case hv_9 => rfl)
  refine mm_iconst (pc := 12) (v := 0) dJ0_getBytes_840e7_12 (by decide) ?_
  refine mm_topi (nI 0) (by decide) ?_
  refine mm_aload_n (pc := 13) dJ0_getBytes_840e7_13 rfl (by first | trivial | assumption | exact mm_isr_rf _) ?_
  refine mm_iload_n (pc := 14) dJ0_getBytes_840e7_14 rfl ?_
  refine mm_iload_n (pc := 15) dJ0_getBytes_840e7_15 rfl ?_
  refine mm_ishl (pc := 16) dJ0_getBytes_840e7_16 ?_
  refine mm_topi _ (sb_shl _) ?_
  refine mm_aload_n (pc := 17) dJ0_getBytes_840e7_17 rfl (by first | trivial | assumption | exact mm_isr_rf _) ?_
  refine mm_get (pc := 18) (kd := ?kd_18) (fs := ?fs_18) (v := ?v_18) dJ0_getBytes_840e7_18 fl_J0_9 ?hc_18 ?hk_18 ?hv_18 ?_; (case hc_18 => exact hc); (case hk_18 => first | rfl | assumption | exact mm_101 (by assumption)); (case hv_18 => rfl)
  refine mm_alen2 (pc := 21) (kd := ?kd_21) (vs := ?vs_21) dJ0_getBytes_840e7_21 ?hc_21 ?hk_21 ?ht_21 ?_; (case hc_21 => exact hw); (case hk_21 => first | rfl | assumption | exact mm_101 (by assumption)); (case ht_21 => first | rfl | assumption | exact mm_101c (by assumption))
  refine mm_topi (nI cs.length) (by rw [bv_len]) ?_
  refine mm_copyB (pc := 22) (sp := 0) (dp := dp) (n := cs.length) dJ0_getBytes_840e7_22 ac_J0_212 ac_n ac_s ac_i (hw) (hkv) (hv) (by rw [bv_len]; omega) (hd) (by rw [bv_len]; omega) (ha.fit) (Nat.le_of_ble_eq_true rfl) ?_
  refine mm_goto (pc := 25) (tgt := 43) dJ0_getBytes_840e7_25 (by decide) ?_
  refine mm_vret (pc := 43) dJ0_getBytes_840e7_43 rfl ?_
  exact ⟨rfl, rfl⟩

theorem ok_sb_infl {G : mm_G} {L : Nat × Nat} {d : Nat} {h : mm_H} {a v s : Nat} {bs cs : List Int32} (hb : sB h a v bs) (hs : sT h s cs) : mm_Ok G mJ5_inflateIfNeededFor_a7421 L (d + 1) [.ref a, .ref s] h (fun r h1 => h1 = h ∧ r = none) := by
  refine mm_Ok.of [(0, .ref a), (1, .ref s)] rfl kJ5_inflateIfNeededFor_a7421.2.2.2.2.2 rfl (fun A => ?_)
  have hb0 := hb
  have hs0 := hs
  obtain ⟨ml, tl, hc, hv, hlen, hml, htl⟩ := hb
  obtain ⟨ka, kv, w, rest, hcs, hks, hw, hkw, hlen2⟩ := hs
  refine mm_getsC (pc := 0) dJ5_inflateIfNeededFor_a7421_0 gs_J5_18 ?_
  refine mm_if_eq (pc := 3) (tgt := 21) dJ5_inflateIfNeededFor_a7421_3 (by decide) (fun c3 => absurd c3 (by decide)) (fun c3 => ?_)
  refine mm_aload_n (pc := 6) dJ5_inflateIfNeededFor_a7421_6 rfl (by first | trivial | assumption | exact mm_isr_rf _) ?_
  refine mm_get (pc := 7) (kd := ?kd_7) (fs := ?fs_7) (v := ?v_7) dJ5_inflateIfNeededFor_a7421_7 fl_J5_22 ?hc_7 ?hk_7 ?hv_7 ?_; (case hc_7 => exact hc); (case hk_7 => first | rfl | assumption | exact mm_101 (by assumption)); (case hv_7 => rfl)
  refine mm_aload_n (pc := 10) dJ5_inflateIfNeededFor_a7421_10 rfl (by first | trivial | assumption | exact mm_isr_rf _) ?_
  refine mm_callV (pc := 11) (As := []) (kd := ?kd_11) (fs := ?fs_11) dJ5_inflateIfNeededFor_a7421_11 vl_J5_40 (ok_coder hcs hks) ?hc_11 ?hk_11 rfl rfl (Nat.le_of_ble_eq_true rfl) ?_; (case hc_11 => exact hcs); (case hk_11 => first | rfl | assumption | exact mm_101 (by assumption))
  rintro _ _ ⟨rfl, rfl⟩
  refine mm_icmp_eq (pc := 14) (tgt := 21) dJ5_inflateIfNeededFor_a7421_14 (by decide) (fun c14 => ?_) (fun c14 => absurd rfl c14)
  refine mm_vret (pc := 21) dJ5_inflateIfNeededFor_a7421_21 rfl ?_
  exact ⟨rfl, rfl⟩

theorem ok_sb_put {G : mm_G} {L : Nat × Nat} {d : Nat} {h : mm_H} {a v s : Nat} {bs cs : List Int32} {ml : Int32} {tl : List Int32} (hb : sB h a v bs) (hc : h.1 a = some (14, [.ref v, .int 0, .int ml, .int (nI bs.length)])) (hv : h.1 v = some (101, bv (bs ++ tl))) (hs : sT h s cs) (ha : ascs cs) (hl : bs.length + cs.length ≤ 16) (hlen : bs.length + tl.length = 16) : mm_Ok G mJ5_putStringAt_47b60 L (d + 2) [.ref a, .int (nI bs.length), .ref s] h (fun r h1 => h1 = mm_set h v (101, bv ((bs ++ cs) ++ tl.drop cs.length)) ∧ r = none) := by
  refine mm_Ok.of [(0, .ref a), (1, .int (nI bs.length)), (2, .ref s)] rfl kJ5_putStringAt_47b60.2.2.2.2.2 rfl (fun A => ?_)
  have hs0 := hs
  obtain ⟨ka, kv, w, rest, hcs, hks, hw, hkw, hlen2⟩ := hs
  have hl16 : (bv (bs ++ tl)).length = 16 := by rw [bv_len, List.length_append]; exact hlen
  refine mm_aload_n (pc := 0) dJ5_putStringAt_47b60_0 rfl (by first | trivial | assumption | exact mm_isr_rf _) ?_
  refine mm_aload_n (pc := 1) dJ5_putStringAt_47b60_1 rfl (by first | trivial | assumption | exact mm_isr_rf _) ?_
  refine mm_callU (pc := 2) (As := [_]) (kd := ?kd_2) (fs := ?fs_2) dJ5_putStringAt_47b60_2 ul_J5_397 (ok_sb_infl hb hs0) ?hc_2 ?hk_2 rfl rfl (Nat.le_of_ble_eq_true rfl) ?_; (case hc_2 => exact hc); (case hk_2 => first | rfl | assumption | exact mm_101 (by assumption))
  rintro _ _ ⟨rfl, rfl⟩
  refine mm_aload_n (pc := 5) dJ5_putStringAt_47b60_5 rfl (by first | trivial | assumption | exact mm_isr_rf _) ?_
  refine mm_aload_n (pc := 6) dJ5_putStringAt_47b60_6 rfl (by first | trivial | assumption | exact mm_isr_rf _) ?_
  refine mm_get (pc := 7) (kd := ?kd_7) (fs := ?fs_7) (v := ?v_7) dJ5_putStringAt_47b60_7 fl_J5_15 ?hc_7 ?hk_7 ?hv_7 ?_; (case hc_7 => exact hc); (case hk_7 => first | rfl | assumption | exact mm_101 (by assumption)); (case hv_7 => rfl)
  refine mm_iload_n (pc := 10) dJ5_putStringAt_47b60_10 rfl ?_
  refine mm_aload_n (pc := 11) dJ5_putStringAt_47b60_11 rfl (by first | trivial | assumption | exact mm_isr_rf _) ?_
  refine mm_get (pc := 12) (kd := ?kd_12) (fs := ?fs_12) (v := ?v_12) dJ5_putStringAt_47b60_12 fl_J5_22 ?hc_12 ?hk_12 ?hv_12 ?_; (case hc_12 => exact hc); (case hk_12 => first | rfl | assumption | exact mm_101 (by assumption)); (case hv_12 => rfl)
  refine mm_callV (pc := 15) (As := [_, _, _]) (kd := ?kd_15) (fs := ?fs_15) dJ5_putStringAt_47b60_15 vl_J5_399 (ok_getBytes hs0 hv (by rw [hl16]; exact hl) (by rw [hl16]; decide) ha) ?hc_15 ?hk_15 rfl rfl (Nat.le_of_ble_eq_true rfl) ?_; (case hc_15 => exact hcs); (case hk_15 => first | rfl | assumption | exact mm_101 (by assumption))
  rintro _ _ ⟨rfl, rfl⟩
  refine mm_vret (pc := 18) dJ5_putStringAt_47b60_18 rfl ?_
  exact ⟨by rw [cp_app (by omega)], rfl⟩

theorem ok_sb_appendS5 {G : mm_G} {L : Nat × Nat} {d : Nat} {h : mm_H} {a v s : Nat} {bs cs : List Int32} (hb : sB h a v bs) (hs : sT h s cs) (ha : ascs cs) (hl : bs.length + cs.length ≤ 16) : mm_Ok G mJ5_append_cf1ce L (d + 3) [.ref a, .ref s] h (fun r h1 => sB h1 a v (bs ++ cs) ∧ h1.2 = h.2 ∧ (∀ b, ¬ b = a → ¬ b = v → h1.1 b = h.1 b) ∧ r = some (.ref a)) := by
  refine mm_Ok.of [(0, .ref a), (1, .ref s)] rfl kJ5_append_cf1ce.2.2.2.2.2 rfl (fun A => ?_)
  have hb0 := hb
  have hs0 := hs
  obtain ⟨ml, tl, hc, hv, hlen, hml, htl⟩ := hb
  obtain ⟨ka, kv, w, rest, hcs, hks, hw, hkw, hlen2⟩ := hs
  have hva : ¬ a = v := mm_ne_k hc hv rfl
  refine mm_aload_n (pc := 0) dJ5_append_cf1ce_0 rfl (by first | trivial | assumption | exact mm_isr_rf _) ?_
  refine mm_ifnonnull (pc := 1) (tgt := 9) dJ5_append_cf1ce_1 (by decide) (by first | trivial | assumption | exact mm_isr_rf _) (fun a1 c1 => ?_) (fun c1 => by cases c1)
  refine mm_aload_n (pc := 9) dJ5_append_cf1ce_9 rfl (by first | trivial | assumption | exact mm_isr_rf _) ?_
  refine mm_callV (pc := 10) (As := []) (kd := ?kd_10) (fs := ?fs_10) dJ5_append_cf1ce_10 vl_J5_32 (ok_length hs0) ?hc_10 ?hk_10 rfl rfl (Nat.le_of_ble_eq_true rfl) ?_; (case hc_10 => exact hcs); (case hk_10 => first | rfl | assumption | exact mm_101 (by assumption))
  rintro _ _ ⟨rfl, rfl⟩
  refine mm_istore_n (pc := 13) dJ5_append_cf1ce_13 rfl (Nat.le_of_ble_eq_true rfl) ?_
  refine mm_aload_n (pc := 14) dJ5_append_cf1ce_14 rfl (by first | trivial | assumption | exact mm_isr_rf _) ?_
  refine mm_aload_n (pc := 15) dJ5_append_cf1ce_15 rfl (by first | trivial | assumption | exact mm_isr_rf _) ?_
  refine mm_get (pc := 16) (kd := ?kd_16) (fs := ?fs_16) (v := ?v_16) dJ5_append_cf1ce_16 fl_J5_79 ?hc_16 ?hk_16 ?hv_16 ?_; (case hc_16 => exact hc); (case hk_16 => first | rfl | assumption | exact mm_101 (by assumption)); (case hv_16 => rfl)
  refine mm_iload_n (pc := 19) dJ5_append_cf1ce_19 rfl ?_
  refine mm_iadd (pc := 20) dJ5_append_cf1ce_20 ?_
  refine mm_topi _ (nI_add _ _) ?_
  refine mm_callU (pc := 21) (As := [_]) (kd := ?kd_21) (fs := ?fs_21) dJ5_append_cf1ce_21 ul_J5_100 (ok_sb_ensure hb0 hl) ?hc_21 ?hk_21 rfl rfl (Nat.le_of_ble_eq_true rfl) ?_; (case hc_21 => exact hc); (case hk_21 => first | rfl | assumption | exact mm_101 (by assumption))
  rintro _ _ ⟨rfl, rfl⟩
  refine mm_aload_n (pc := 24) dJ5_append_cf1ce_24 rfl (by first | trivial | assumption | exact mm_isr_rf _) ?_
  refine mm_aload_n (pc := 25) dJ5_append_cf1ce_25 rfl (by first | trivial | assumption | exact mm_isr_rf _) ?_
  refine mm_get (pc := 26) (kd := ?kd_26) (fs := ?fs_26) (v := ?v_26) dJ5_append_cf1ce_26 fl_J5_79 ?hc_26 ?hk_26 ?hv_26 ?_; (case hc_26 => exact hc); (case hk_26 => first | rfl | assumption | exact mm_101 (by assumption)); (case hv_26 => rfl)
  refine mm_aload_n (pc := 29) dJ5_append_cf1ce_29 rfl (by first | trivial | assumption | exact mm_isr_rf _) ?_
  refine mm_callU (pc := 30) (As := [_, _]) (kd := ?kd_30) (fs := ?fs_30) dJ5_append_cf1ce_30 ul_J5_208 (ok_sb_put hb0 hc hv hs0 ha hl hlen) ?hc_30 ?hk_30 rfl rfl (Nat.le_of_ble_eq_true rfl) ?_; (case hc_30 => exact hc); (case hk_30 => first | rfl | assumption | exact mm_101 (by assumption))
  rintro _ _ ⟨rfl, rfl⟩
  have hx_ := fun c => mm_set_ne (c := c) hva hc
  refine mm_aload_n (pc := 33) dJ5_append_cf1ce_33 rfl (by first | trivial | assumption | exact mm_isr_rf _) ?_
  refine mm_dup (pc := 34) dJ5_append_cf1ce_34 rfl ?_
  refine mm_get (pc := 35) (kd := ?kd_35) (fs := ?fs_35) (v := ?v_35) dJ5_append_cf1ce_35 fl_J5_79 ?hc_35 ?hk_35 ?hv_35 ?_; (case hc_35 => exact hx_ _); (case hk_35 => first | rfl | assumption | exact mm_101 (by assumption)); (case hv_35 => rfl)
  refine mm_iload_n (pc := 38) dJ5_append_cf1ce_38 rfl ?_
  refine mm_iadd (pc := 39) dJ5_append_cf1ce_39 ?_
  refine mm_put (pc := 40) (kd := ?kd_40) (fs := ?fs_40) dJ5_append_cf1ce_40 (pl_J5_79 _) ?hc_40 ?hk_40 ?hn_40 ?hf_40 ?_; (case hc_40 => exact hx_ _); (case hk_40 => first | rfl | assumption | exact mm_101 (by assumption)); (case hn_40 => rfl); (case hf_40 => rfl)
  refine mm_aload_n (pc := 43) dJ5_append_cf1ce_43 rfl (by first | trivial | assumption | exact mm_isr_rf _) ?_
  refine mm_aret (pc := 44) dJ5_append_cf1ce_44 rfl (Or.inl ⟨_, rfl⟩) (by first | trivial | assumption | exact mm_isr_rf _) ?_
  refine ⟨⟨ml, tl.drop cs.length, ?_, ?_, by rw [List.length_append, List.length_drop]; omega, hml, fun t ht => htl t (List.mem_of_mem_drop ht)⟩, rfl, fun b h1 h2 => ?_, rfl⟩
  · rw [mm_set_eq, nI_add, List.length_append]
    rfl
  · refine mm_set_ne (fun e => hva e.symm) ?_
    rw [mm_set_eq]
  · exact mm_set_ne h1 (mm_set_ne h2 rfl)

theorem ok_sb_appendS {G : mm_G} {L : Nat × Nat} {d : Nat} {h : mm_H} {a v s : Nat} {bs cs : List Int32} (hb : sB h a v bs) (hs : sT h s cs) (ha : ascs cs) (hl : bs.length + cs.length ≤ 16) : mm_Ok G mJ4_append_15ec4 L (d + 4) [.ref a, .ref s] h (fun r h1 => sB h1 a v (bs ++ cs) ∧ h1.2 = h.2 ∧ (∀ b, ¬ b = a → ¬ b = v → h1.1 b = h.1 b) ∧ r = some (.ref a)) := by
  refine mm_Ok.of [(0, .ref a), (1, .ref s)] rfl kJ4_append_15ec4.2.2.2.2.2 rfl (fun A => ?_)
  have hb0 := hb
  have hs0 := hs
  obtain ⟨ml, tl, hc, hv, hlen, hml, htl⟩ := hb
  obtain ⟨ka, kv, w, rest, hcs, hks, hw, hkw, hlen2⟩ := hs
  refine mm_aload_n (pc := 0) dJ4_append_15ec4_0 rfl (by first | trivial | assumption | exact mm_isr_rf _) ?_
  refine mm_aload_n (pc := 1) dJ4_append_15ec4_1 rfl (by first | trivial | assumption | exact mm_isr_rf _) ?_
  refine mm_callSU (pc := 2) (As := [_]) (c := 14) (kd := ?kd_2) (fs := ?fs_2) dJ4_append_15ec4_2 sul_J4_29 (ok_sb_appendS5 hb0 hs0 ha hl) ?hc_2 ?hk_2 rfl rfl rfl (Nat.le_of_ble_eq_true rfl) ?_; (case hc_2 => exact hc); (case hk_2 => rfl)
  rintro _ h_ ⟨q1, q2, q3, rfl⟩
  refine mm_pop (pc := 5) dJ4_append_15ec4_5 rfl ?_
  refine mm_aload_n (pc := 6) dJ4_append_15ec4_6 rfl (by first | trivial | assumption | exact mm_isr_rf _) ?_
  refine mm_aret (pc := 7) dJ4_append_15ec4_7 rfl (Or.inl ⟨_, rfl⟩) (by first | trivial | assumption | exact mm_isr_rf _) ?_
  exact ⟨q1, q2, q3, rfl⟩

theorem ok_checkLength {G : mm_G} {L : Nat × Nat} {d : Nat} {h : mm_H} {n : Nat} (hn : n < 2 ^ 31) : mm_Ok G mJ7_checkLength_df160 L (d) [.int 0, .int (nI n)] h (fun r h1 => h1 = h ∧ r = none) := by
  refine mm_Ok.of [(0, .int 0), (1, .int (nI n))] rfl kJ7_checkLength_df160.2.2.2.2.2 rfl (fun A => ?_)
  refine mm_iload_n (pc := 0) dJ7_checkLength_df160_0 rfl ?_
  refine mm_iload_n (pc := 1) dJ7_checkLength_df160_1 rfl ?_
  refine mm_icmp_ge (pc := 2) (tgt := 37) dJ7_checkLength_df160_2 (by decide) (fun c2 => ?_) (fun c2 => absurd (nI_pos' hn) c2)
  refine mm_vret (pc := 37) dJ7_checkLength_df160_37 rfl ?_
  exact ⟨rfl, rfl⟩

theorem cp_new {bs tl : List Int32} : mm_cp (bv (bs ++ tl)) (List.replicate bs.length (.int 0)) 0 0 bs.length = bv bs := by
  unfold mm_cp
  rw [List.take_zero, List.nil_append, List.drop_zero, Nat.zero_add, List.drop_of_length_le (by simp), List.append_nil]
  unfold bv
  rw [← List.map_take, List.take_left']
  rfl

theorem ok_copyRB {G : mm_G} {L : Nat × Nat} {d : Nat} {h : mm_H} {v : Nat} {bs tl : List Int32} (hv : h.1 v = some (101, bv (bs ++ tl))) (hlen : bs.length + tl.length = 16) (ha : ascs bs) (hfit : ∀ x ∈ bv (bs ++ tl), fits .byte x = true ∧ ∃ z, x = .int z) (hL1 : h.2.1 + 1 ≤ L.1) (hL2 : h.2.2 + bs.length ≤ L.2) (hlt : bs.length < 16) : mm_Ok G mJ7_copyOfRangeByte_39247 L (d + 1) [.ref v, .int 0, .int (nI bs.length)] h (fun r h1 => h1 = mm_push h (101, bv bs) ∧ r = some (.ref h.2.1)) := by
  refine mm_Ok.of [(0, .ref v), (1, .int 0), (2, .int (nI bs.length))] rfl kJ7_copyOfRangeByte_39247.2.2.2.2.2 rfl (fun A => ?_)
  have hl16 : (bv (bs ++ tl)).length = 16 := by rw [bv_len, List.length_append]; exact hlen
  refine mm_wfR (fun wf_ => ?_)
  have hne : ¬ v = h.2.1 := fun e => by have := wf_ v _ hv; omega
  refine mm_iload_n (pc := 0) dJ7_copyOfRangeByte_39247_0 rfl ?_
  refine mm_iload_n (pc := 1) dJ7_copyOfRangeByte_39247_1 rfl ?_
  refine mm_callS (pc := 2) (As := [_, _]) dJ7_copyOfRangeByte_39247_2 sl_J7_343 (ok_checkLength (n := bs.length) (by omega)) rfl rfl (Nat.le_of_ble_eq_true rfl) ?_
  rintro _ _ ⟨rfl, rfl⟩
  refine mm_iload_n (pc := 5) dJ7_copyOfRangeByte_39247_5 rfl ?_
  refine mm_iload_n (pc := 6) dJ7_copyOfRangeByte_39247_6 rfl ?_
  refine mm_isub (pc := 7) dJ7_copyOfRangeByte_39247_7 ?_
  refine mm_topi (nI bs.length) (by rw [Int32.sub_zero]) ?_
  refine mm_istore_n (pc := 8) dJ7_copyOfRangeByte_39247_8 rfl (Nat.le_of_ble_eq_true rfl) ?_
  refine mm_iload_n (pc := 9) dJ7_copyOfRangeByte_39247_9 rfl ?_
  refine mm_newa_byte (pc := 10) (N := bs.length) dJ7_copyOfRangeByte_39247_10 mm_ac_byte (nI_pos (by omega)) (nI_clamp (by omega)) (by omega) (by omega) (by omega) ?_
  refine mm_astore (pc := 12) dJ7_copyOfRangeByte_39247_12 (by first | trivial | assumption | exact mm_isr_rf _) rfl (Nat.le_of_ble_eq_true rfl) ?_
  have hx_ := mm_push_ne (c := (101, List.replicate bs.length (.int 0))) hne hv
  refine mm_aload_n (pc := 14) dJ7_copyOfRangeByte_39247_14 rfl (by first | trivial | assumption | exact mm_isr_rf _) ?_
  refine mm_iload_n (pc := 15) dJ7_copyOfRangeByte_39247_15 rfl ?_
  refine mm_topi (nI 0) (by decide) ?_
  refine mm_aload (pc := 16) dJ7_copyOfRangeByte_39247_16 rfl (by first | trivial | assumption | exact mm_isr_rf _) ?_
  refine mm_iconst (pc := 18) (v := 0) dJ7_copyOfRangeByte_39247_18 (by decide) ?_
  refine mm_topi (nI 0) (by decide) ?_
  refine mm_aload_n (pc := 19) dJ7_copyOfRangeByte_39247_19 rfl (by first | trivial | assumption | exact mm_isr_rf _) ?_
  refine mm_alen2 (pc := 20) (kd := ?kd_20) (vs := ?vs_20) dJ7_copyOfRangeByte_39247_20 ?hc_20 ?hk_20 ?ht_20 ?_; (case hc_20 => exact hx_); (case hk_20 => rfl); (case ht_20 => rfl)
  refine mm_iload_n (pc := 21) dJ7_copyOfRangeByte_39247_21 rfl ?_
  refine mm_isub (pc := 22) dJ7_copyOfRangeByte_39247_22 ?_
  refine mm_topi (nI 16) (by rw [hl16]; decide) ?_
  refine mm_iload_n (pc := 23) dJ7_copyOfRangeByte_39247_23 rfl ?_
  refine mm_mmin (pc := 24) dJ7_copyOfRangeByte_39247_24 ml_J7_304 mt_min_s mt_i mt_min_c (Nat.le_of_ble_eq_true rfl) ?_
  refine mm_topi (nI bs.length) (if_pos (nI_lt (by omega) (by decide))) ?_
  refine mm_copyB (pc := 27) (sp := 0) (dp := 0) (n := bs.length) dJ7_copyOfRangeByte_39247_27 ac_J7_150 ac_n ac_s ac_i (hx_) (rfl) (mm_push_eq) (by omega) (by simp) (by simp; omega) (hfit) (Nat.le_of_ble_eq_true rfl) ?_
  refine mm_aload (pc := 30) dJ7_copyOfRangeByte_39247_30 rfl (by first | trivial | assumption | exact mm_isr_rf _) ?_
  refine mm_aret (pc := 32) dJ7_copyOfRangeByte_39247_32 rfl (Or.inr ⟨_, rfl⟩) (by first | trivial | assumption | exact mm_isr_rf _) ?_
  exact ⟨by rw [cp_new, mm_set_push (by rw [bv_len]; simp)], rfl⟩

theorem ok_copyR {G : mm_G} {L : Nat × Nat} {d : Nat} {h : mm_H} {v : Nat} {bs tl : List Int32} (hv : h.1 v = some (101, bv (bs ++ tl))) (hlen : bs.length + tl.length = 16) (ha : ascs bs) (hfit : ∀ x ∈ bv (bs ++ tl), fits .byte x = true ∧ ∃ z, x = .int z) (hL1 : h.2.1 + 1 ≤ L.1) (hL2 : h.2.2 + bs.length ≤ L.2) (hlt : bs.length < 16) : mm_Ok G mJ7_copyOfRange_39247 L (d + 2) [.ref v, .int 0, .int (nI bs.length)] h (fun r h1 => h1 = mm_push h (101, bv bs) ∧ r = some (.ref h.2.1)) := by
  refine mm_Ok.of [(0, .ref v), (1, .int 0), (2, .int (nI bs.length))] rfl kJ7_copyOfRange_39247.2.2.2.2.2 rfl (fun A => ?_)
  have hl16 : (bv (bs ++ tl)).length = 16 := by rw [bv_len, List.length_append]; exact hlen
  refine mm_iload_n (pc := 0) dJ7_copyOfRange_39247_0 rfl ?_
  refine mm_if_ne (pc := 1) (tgt := 10) dJ7_copyOfRange_39247_1 (by decide) (fun c1 => absurd rfl c1) (fun c1 => ?_)
  refine mm_iload_n (pc := 4) dJ7_copyOfRange_39247_4 rfl ?_
  refine mm_aload_n (pc := 5) dJ7_copyOfRange_39247_5 rfl (by first | trivial | assumption | exact mm_isr_rf _) ?_
  refine mm_alen2 (pc := 6) (kd := ?kd_6) (vs := ?vs_6) dJ7_copyOfRange_39247_6 ?hc_6 ?hk_6 ?ht_6 ?_; (case hc_6 => exact hv); (case hk_6 => rfl); (case ht_6 => rfl)
  refine mm_icmp_eq (pc := 7) (tgt := 17) dJ7_copyOfRange_39247_7 (by decide) (fun c7 => absurd c7 (by rw [hl16]; exact nI_ne (by omega) (by omega) (by decide))) (fun c7 => ?_)
  refine mm_aload_n (pc := 10) dJ7_copyOfRange_39247_10 rfl (by first | trivial | assumption | exact mm_isr_rf _) ?_
  refine mm_iload_n (pc := 11) dJ7_copyOfRange_39247_11 rfl ?_
  refine mm_iload_n (pc := 12) dJ7_copyOfRange_39247_12 rfl ?_
  refine mm_callS (pc := 13) (As := [_, _, _]) dJ7_copyOfRange_39247_13 sl_J7_339 (ok_copyRB hv hlen ha hfit hL1 hL2 hlt) rfl rfl (Nat.le_of_ble_eq_true rfl) ?_
  rintro _ _ ⟨rfl, rfl⟩
  refine mm_aret (pc := 16) dJ7_copyOfRange_39247_16 rfl (Or.inr ⟨_, rfl⟩) (by first | trivial | assumption | exact mm_isr_rf _) ?_
  exact ⟨rfl, rfl⟩

theorem ok_str_init2 {G : mm_G} {L : Nat × Nat} {d : Nat} {h : mm_H} {a v x : Nat} {bs : List Int32} (hb : sB h a v bs) (hx : h.1 x = some (13, [.null, .int 0, .int 0, .int 0])) (ha : ascs bs) (hlt : bs.length < 16) (hL1 : h.2.1 + 1 ≤ L.1) (hL2 : h.2.2 + bs.length ≤ L.2) : mm_Ok G mJ0_init_db425 L (d + 3) [.ref x, .ref a, .null] h (fun r h1 => h1 = mm_push (mm_set h x (13, [.ref h.2.1, .int 0, .int 0, .int 0])) (101, bv bs) ∧ r = none) := by
  refine mm_Ok.of [(0, .ref x), (1, .ref a), (2, .null)] rfl kJ0_init_db425.2.2.2.2.2 rfl (fun A => ?_)
  have hb0 := hb
  obtain ⟨ml, tl, hc, hv, hlen, hml, htl⟩ := hb
  refine mm_wfR (fun wf_ => ?_)
  have hxl := wf_ x _ hx
  have hne : ¬ x = h.2.1 := by omega
  have hxa : ¬ a = x := mm_ne_k hc hx rfl
  have hxv : ¬ v = x := mm_ne_k hv hx rfl
  have hy_ : (mm_set h x (13, [.null, .int 0, .int 0, .int 0])) = h := mm_set_same hx
  refine mm_aload_n (pc := 0) dJ0_init_db425_0 rfl (by first | trivial | assumption | exact mm_isr_rf _) ?_
  refine mm_objInit (pc := 1) dJ0_init_db425_1 ol_J0_1 mm_objI mm_objC (Nat.le_of_ble_eq_true rfl) ?_
  refine mm_aload_n (pc := 4) dJ0_init_db425_4 rfl (by first | trivial | assumption | exact mm_isr_rf _) ?_
  refine mm_callU (pc := 5) (As := []) (kd := ?kd_5) (fs := ?fs_5) dJ0_init_db425_5 ul_J0_552 (ok_sb_getValue hb0) ?hc_5 ?hk_5 rfl rfl (Nat.le_of_ble_eq_true rfl) ?_; (case hc_5 => exact hc); (case hk_5 => first | rfl | assumption | exact mm_101 (by assumption))
  rintro _ _ ⟨rfl, rfl⟩
  refine mm_astore_n (pc := 8) dJ0_init_db425_8 (by first | trivial | assumption | exact mm_isr_rf _) rfl (Nat.le_of_ble_eq_true rfl) ?_
  refine mm_aload_n (pc := 9) dJ0_init_db425_9 rfl (by first | trivial | assumption | exact mm_isr_rf _) ?_
  refine mm_callU (pc := 10) (As := []) (kd := ?kd_10) (fs := ?fs_10) dJ0_init_db425_10 ul_J0_549 (ok_sb_length hb0) ?hc_10 ?hk_10 rfl rfl (Nat.le_of_ble_eq_true rfl) ?_; (case hc_10 => exact hc); (case hk_10 => first | rfl | assumption | exact mm_101 (by assumption))
  rintro _ _ ⟨rfl, rfl⟩
  refine mm_istore (pc := 13) dJ0_init_db425_13 rfl (Nat.le_of_ble_eq_true rfl) ?_
  refine mm_aload_n (pc := 15) dJ0_init_db425_15 rfl (by first | trivial | assumption | exact mm_isr_rf _) ?_
  refine mm_callU (pc := 16) (As := []) (kd := ?kd_16) (fs := ?fs_16) dJ0_init_db425_16 ul_J0_1047 (ok_sb_isLatin1 hb0) ?hc_16 ?hk_16 rfl rfl (Nat.le_of_ble_eq_true rfl) ?_; (case hc_16 => exact hc); (case hk_16 => first | rfl | assumption | exact mm_101 (by assumption))
  rintro _ _ ⟨rfl, rfl⟩
  refine mm_if_eq (pc := 19) (tgt := 41) dJ0_init_db425_19 (by decide) (fun c19 => absurd c19 (by decide)) (fun c19 => ?_)
  refine mm_aload_n (pc := 22) dJ0_init_db425_22 rfl (by first | trivial | assumption | exact mm_isr_rf _) ?_
  refine mm_iconst (pc := 23) (v := 0) dJ0_init_db425_23 (by decide) ?_
  refine mm_put (pc := 24) (kd := ?kd_24) (fs := ?fs_24) dJ0_init_db425_24 (pl_J0_15) ?hc_24 ?hk_24 ?hn_24 ?hf_24 ?_; (case hc_24 => exact hx); (case hk_24 => first | rfl | assumption | exact mm_101 (by assumption)); (case hn_24 => rfl); (case hf_24 => rfl)
  rw [show [Value.null, .int 0, .int 0, .int 0].set 1 (.int 0) = [Value.null, .int 0, .int 0, .int 0] from rfl, mm_set_same hx]
  refine mm_aload_n (pc := 27) dJ0_init_db425_27 rfl (by first | trivial | assumption | exact mm_isr_rf _) ?_
  refine mm_aload_n (pc := 28) dJ0_init_db425_28 rfl (by first | trivial | assumption | exact mm_isr_rf _) ?_
  refine mm_iconst (pc := 29) (v := 0) dJ0_init_db425_29 (by decide) ?_
  refine mm_iload (pc := 30) dJ0_init_db425_30 rfl ?_
  refine mm_callS (pc := 32) (As := [_, _, _]) dJ0_init_db425_32 sl_J0_54 (ok_copyR hv hlen ha (ascs.fit (fun c hc => (List.mem_append.mp hc).elim (ha c) (htl c))) hL1 hL2 hlt) rfl rfl (Nat.le_of_ble_eq_true rfl) ?_
  rintro _ _ ⟨rfl, rfl⟩
  have hz_ := mm_push_ne (c := (101, bv bs)) hne hx
  refine mm_put (pc := 35) (kd := ?kd_35) (fs := ?fs_35) dJ0_init_db425_35 (pl_J0_9) ?hc_35 ?hk_35 ?hn_35 ?hf_35 ?_; (case hc_35 => exact hz_); (case hk_35 => first | rfl | assumption | exact mm_101 (by assumption)); (case hn_35 => rfl); (case hf_35 => rfl)
  refine mm_goto (pc := 38) (tgt := 97) dJ0_init_db425_38 (by decide) ?_
  refine mm_vret (pc := 97) dJ0_init_db425_97 rfl ?_
  exact ⟨mm_push_set hne, rfl⟩

theorem ok_str_init {G : mm_G} {L : Nat × Nat} {d : Nat} {h : mm_H} {a v x : Nat} {bs : List Int32} (hb : sB h a v bs) (hx : h.1 x = some (13, [.null, .int 0, .int 0, .int 0])) (ha : ascs bs) (hlt : bs.length < 16) (hL1 : h.2.1 + 1 ≤ L.1) (hL2 : h.2.2 + bs.length ≤ L.2) : mm_Ok G mJ0_init_81219 L (d + 4) [.ref x, .ref a] h (fun r h1 => h1 = mm_push (mm_set h x (13, [.ref h.2.1, .int 0, .int 0, .int 0])) (101, bv bs) ∧ r = none) := by
  refine mm_Ok.of [(0, .ref x), (1, .ref a)] rfl kJ0_init_81219.2.2.2.2.2 rfl (fun A => ?_)
  refine mm_aload_n (pc := 0) dJ0_init_81219_0 rfl (by first | trivial | assumption | exact mm_isr_rf _) ?_
  refine mm_aload_n (pc := 1) dJ0_init_81219_1 rfl (by first | trivial | assumption | exact mm_isr_rf _) ?_
  refine mm_null (pc := 2) dJ0_init_81219_2 ?_
  refine mm_callI (pc := 3) (As := [_, _]) dJ0_init_81219_3 il_J0_489 (ok_str_init2 hb hx ha hlt hL1 hL2) rfl rfl (Nat.le_of_ble_eq_true rfl) ?_
  rintro _ _ ⟨rfl, rfl⟩
  refine mm_vret (pc := 6) dJ0_init_81219_6 rfl ?_
  exact ⟨rfl, rfl⟩

theorem ok_sb_toString {G : mm_G} {L : Nat × Nat} {d : Nat} {h : mm_H} {a v : Nat} {bs : List Int32} (hb : sB h a v bs) (ha : ascs bs) (hlt : bs.length < 16) (hL1 : h.2.1 + 2 ≤ L.1) (hL2 : h.2.2 + 4 + bs.length ≤ L.2) : mm_Ok G mJ4_toString_0e30d L (d + 5) [.ref a] h (fun r h1 => h1 = mm_push (mm_push h (13, [.ref (h.2.1 + 1), .int 0, .int 0, .int 0])) (101, bv bs) ∧ r = some (.ref h.2.1)) := by
  refine mm_Ok.of [(0, .ref a)] rfl kJ4_toString_0e30d.2.2.2.2.2 rfl (fun A => ?_)
  refine mm_wfR (fun wf_ => ?_)
  have hb1 : sB (mm_push h (13, [.null, .int 0, .int 0, .int 0])) a v bs := by
    obtain ⟨ml, tl, hc, hv, hr⟩ := hb
    have w1 := wf_ a _ hc
    have w2 := wf_ v _ hv
    exact ⟨ml, tl, mm_push_ne (by omega) hc, mm_push_ne (by omega) hv, hr⟩
  refine mm_new (pc := 0) dJ4_toString_0e30d_0 nl_J4_18 (by omega) (by show h.2.2 + 4 ≤ _; omega) ?_
  refine mm_dup (pc := 3) dJ4_toString_0e30d_3 rfl ?_
  refine mm_aload_n (pc := 4) dJ4_toString_0e30d_4 rfl (by first | trivial | assumption | exact mm_isr_rf _) ?_
  refine mm_callI (pc := 5) (As := [_]) dJ4_toString_0e30d_5 il_J4_137 (ok_str_init hb1 mm_push_eq ha hlt (by show h.2.1 + 1 + 1 ≤ _; omega) (by show h.2.2 + 4 + bs.length ≤ _; omega)) rfl rfl (Nat.le_of_ble_eq_true rfl) ?_
  rintro _ h_ ⟨e_, rfl⟩
  refine mm_aret (pc := 8) dJ4_toString_0e30d_8 rfl (Or.inl ⟨_, rfl⟩) (by first | trivial | assumption | exact mm_isr_rf _) ?_
  exact ⟨by rw [e_]; exact congrArg (fun z => mm_push z (101, bv bs)) (mm_set_push rfl), rfl⟩

