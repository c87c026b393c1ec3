/-- a StringBuilder at a with its row of 16 at v: the letters so far -/
def sB (h : mm_H) (a v : Nat) (bs : List Int32) : Prop := ∃ ml tl, h.1 a = some (14, [.ref v, .int 0, .int ml, .int (nI bs.length)]) ∧ h.1 v = some (101, bv (bs ++ tl)) ∧ bs.length + tl.length = 16 ∧ (ml = 0 ∨ ml = 1) ∧ ∀ t ∈ tl, asc t
theorem bv_app (a b : List Int32) : bv (a ++ b) = bv a ++ bv b := List.map_append
theorem bv_rep (n : Nat) (x : Int32) : bv (List.replicate n x) = List.replicate n (.int x) := List.map_replicate ..
theorem mm_ne_k {h : mm_H} {a b : Nat} {c1 c2 : mm_C} (ha : h.1 a = some c1) (hb : h.1 b = some c2) (hk : Nat.beq c1.1 c2.1 = false) : ¬ a = b := mm_ne_kind (k1 := c1.1) (f1 := c1.2) (k2 := c2.1) (f2 := c2.2) ha hb hk
theorem bv_set {bs : List Int32} {x t : Int32} {tl : List Int32} : (bv (bs ++ t :: tl)).set bs.length (.int x) = bv ((bs ++ [x]) ++ tl) := by
  rw [bv_app, bv_app, bv_app, List.append_assoc]
  have : (bv bs).length = bs.length := bv_len bs
  rw [← this, List.set_append_right _ _ (Nat.le_refl _), Nat.sub_self]
  rfl

theorem ok_sb_init {G : mm_G} {L : Nat × Nat} {d : Nat} {h : mm_H} {a : Nat} (hc : h.1 a = some (14, [.null, .int 0, .int 0, .int 0])) (hL1 : h.2.1 + 1 ≤ L.1) (hL2 : h.2.2 + 16 ≤ L.2) : mm_Ok G mJ5_init_d00df L (d + 1) [.ref a, .int 16] h (fun r h1 => r = none ∧ h1 = mm_set (mm_push h (101, List.replicate 16 (.int 0))) a (14, [.ref h.2.1, .int 0, .int 0, .int 0])) := by
  refine mm_Ok.of [(0, .ref a), (1, .int 16)] rfl kJ5_init_d00df.2.2.2.2.2 rfl (fun A => ?_)
  refine mm_wfR (fun wf_ => ?_)
  have hne : ¬ a = h.2.1 := fun e => by have := wf_ a _ hc; omega
  refine mm_aload_n (pc := 0) dJ5_init_d00df_0 rfl (by first | trivial | assumption | exact mm_isr_rf _) ?_
  refine mm_objInit (pc := 1) dJ5_init_d00df_1 ol_J5_3 mm_objI mm_objC (Nat.le_of_ble_eq_true rfl) ?_
  refine mm_getsC (pc := 4) dJ5_init_d00df_4 gs_J5_18 ?_
  refine mm_if_eq (pc := 7) (tgt := 25) dJ5_init_d00df_7 (by decide) (fun c7 => absurd c7 (by decide)) (fun c7 => ?_)
  refine mm_aload_n (pc := 10) dJ5_init_d00df_10 rfl (by first | trivial | assumption | exact mm_isr_rf _) ?_
  refine mm_iload_n (pc := 11) dJ5_init_d00df_11 rfl ?_
  refine mm_newa_byte (pc := 12) (N := 16) dJ5_init_d00df_12 mm_ac_byte (by decide) (by decide) (by decide) (by omega) (by omega) ?_
  have hx_ := mm_push_ne (c := (101, List.replicate 16 (.int 0))) hne hc
  refine mm_put (pc := 14) (kd := ?kd_14) (fs := ?fs_14) dJ5_init_d00df_14 (pl_J5_15 _) ?hc_14 ?hk_14 ?hn_14 ?hf_14 ?_; (case hc_14 => exact hx_); (case hk_14 => rfl); (case hn_14 => rfl); (case hf_14 => rfl)
  refine mm_aload_n (pc := 17) dJ5_init_d00df_17 rfl (by first | trivial | assumption | exact mm_isr_rf _) ?_
  refine mm_iconst (pc := 18) (v := 0) dJ5_init_d00df_18 (by decide) ?_
  refine mm_put_s (pc := 19) dJ5_init_d00df_19 (pl_J5_22 _) ?hk_19 ?hn_19 ?hf_19 ?_; (case hk_19 => rfl); (case hn_19 => rfl); (case hf_19 => rfl)
  refine mm_goto (pc := 22) (tgt := 38) dJ5_init_d00df_22 (by decide) ?_
  refine mm_vret (pc := 38) dJ5_init_d00df_38 rfl ?_
  exact ⟨rfl, rfl⟩

theorem ok_sb_new {G : mm_G} {L : Nat × Nat} {d : Nat} {h : mm_H} {a : Nat} (hc : h.1 a = some (14, [.null, .int 0, .int 0, .int 0])) (hL1 : h.2.1 + 1 ≤ L.1) (hL2 : h.2.2 + 16 ≤ L.2) : mm_Ok G mJ4_init_da8c8 L (d + 2) [.ref a] h (fun r h1 => r = none ∧ h1 = mm_set (mm_push h (101, List.replicate 16 (.int 0))) a (14, [.ref h.2.1, .int 0, .int 0, .int 0])) := by
  refine mm_Ok.of [(0, .ref a)] rfl kJ4_init_da8c8.2.2.2.2.2 rfl (fun A => ?_)
  refine mm_aload_n (pc := 0) dJ4_init_da8c8_0 rfl (by first | trivial | assumption | exact mm_isr_rf _) ?_
  refine mm_bipush (pc := 1) (v := 16) dJ4_init_da8c8_1 (by decide) ?_
  refine mm_callI (pc := 3) (As := [_]) dJ4_init_da8c8_3 il_J4_1 (ok_sb_init hc hL1 hL2) rfl rfl (Nat.le_of_ble_eq_true rfl) ?_
  rintro _ _ ⟨rfl, rfl⟩
  refine mm_vret (pc := 6) dJ4_init_da8c8_6 rfl ?_
  exact ⟨rfl, rfl⟩

theorem sB_new {h : mm_H} {a : Nat} (ha : a < h.2.1) : sB (mm_set (mm_push h (101, List.replicate 16 (.int 0))) a (14, [.ref h.2.1, .int 0, .int 0, .int 0])) a h.2.1 [] := by
  refine ⟨0, List.replicate 16 0, mm_set_eq, ?_, by decide, Or.inl rfl, fun t ht => ⟨0, by decide, (List.mem_replicate.mp ht).2⟩⟩
  refine mm_set_ne (by omega) ?_
  rw [mm_push_eq, List.nil_append, bv_rep]

theorem ok_sb_isLatin1 {G : mm_G} {L : Nat × Nat} {d : Nat} {h : mm_H} {a v : Nat} {bs : List Int32} (hs : sB h a v bs) : mm_Ok G mJ5_isLatin1_aae02 L (d) [.ref a] h (fun r h1 => h1 = h ∧ r = some (.int 1)) := by
  refine mm_Ok.of [(0, .ref a)] rfl kJ5_isLatin1_aae02.2.2.2.2.2 rfl (fun A => ?_)
  obtain ⟨ml, tl, hc, hv, hlen, hml, htl⟩ := hs
  refine mm_getsC (pc := 0) dJ5_isLatin1_aae02_0 gs_J5_18 ?_
  refine mm_if_eq (pc := 3) (tgt := 17) dJ5_isLatin1_aae02_3 (by decide) (fun c3 => absurd c3 (by decide)) (fun c3 => ?_)
  refine mm_aload_n (pc := 6) dJ5_isLatin1_aae02_6 rfl (by first | trivial | assumption | exact mm_isr_rf _) ?_
  refine mm_get (pc := 7) (kd := ?kd_7) (fs := ?fs_7) (v := ?v_7) dJ5_isLatin1_aae02_7 fl_J5_22 ?hc_7 ?hk_7 ?hv_7 ?_; (case hc_7 => exact hc); (case hk_7 => rfl); (case hv_7 => rfl)
  refine mm_if_ne (pc := 10) (tgt := 17) dJ5_isLatin1_aae02_10 (by decide) (fun c10 => absurd rfl c10) (fun c10 => ?_)
  refine mm_iconst (pc := 13) (v := 1) dJ5_isLatin1_aae02_13 (by decide) ?_
  refine mm_goto (pc := 14) (tgt := 18) dJ5_isLatin1_aae02_14 (by decide) ?_
  refine mm_zret (pc := 18) dJ5_isLatin1_aae02_18 rfl (by rfl) ?_
  exact ⟨rfl, rfl⟩

theorem ok_sb_getValue {G : mm_G} {L : Nat × Nat} {d : Nat} {h : mm_H} {a v : Nat} {bs : List Int32} (hs : sB h a v bs) : mm_Ok G mJ5_getValue_6d5f1 L (d) [.ref a] h (fun r h1 => h1 = h ∧ r = some (.ref v)) := by
  refine mm_Ok.of [(0, .ref a)] rfl kJ5_getValue_6d5f1.2.2.2.2.2 rfl (fun A => ?_)
  obtain ⟨ml, tl, hc, hv, hlen, hml, htl⟩ := hs
  refine mm_aload_n (pc := 0) dJ5_getValue_6d5f1_0 rfl (by first | trivial | assumption | exact mm_isr_rf _) ?_
  refine mm_get (pc := 1) (kd := ?kd_1) (fs := ?fs_1) (v := ?v_1) dJ5_getValue_6d5f1_1 fl_J5_15 ?hc_1 ?hk_1 ?hv_1 ?_; (case hc_1 => exact hc); (case hk_1 => rfl); (case hv_1 => rfl)
  refine mm_aret (pc := 4) dJ5_getValue_6d5f1_4 rfl (Or.inr ⟨_, rfl⟩) (by first | trivial | assumption | exact mm_isr_rf _) ?_
  exact ⟨rfl, rfl⟩

theorem ok_sb_length5 {G : mm_G} {L : Nat × Nat} {d : Nat} {h : mm_H} {a v : Nat} {bs : List Int32} (hs : sB h a v bs) : mm_Ok G mJ5_length_8abf5 L (d) [.ref a] h (fun r h1 => h1 = h ∧ r = some (.int (nI bs.length))) := by
  refine mm_Ok.of [(0, .ref a)] rfl kJ5_length_8abf5.2.2.2.2.2 rfl (fun A => ?_)
  obtain ⟨ml, tl, hc, hv, hlen, hml, htl⟩ := hs
  refine mm_aload_n (pc := 0) dJ5_length_8abf5_0 rfl (by first | trivial | assumption | exact mm_isr_rf _) ?_
  refine mm_get (pc := 1) (kd := ?kd_1) (fs := ?fs_1) (v := ?v_1) dJ5_length_8abf5_1 fl_J5_79 ?hc_1 ?hk_1 ?hv_1 ?_; (case hc_1 => exact hc); (case hk_1 => rfl); (case hv_1 => rfl)
  refine mm_iret (pc := 4) dJ5_length_8abf5_4 rfl ?_
  exact ⟨rfl, rfl⟩

theorem ok_sb_length {G : mm_G} {L : Nat × Nat} {d : Nat} {h : mm_H} {a v : Nat} {bs : List Int32} (hs : sB h a v bs) : mm_Ok G mJ4_length_8abf5 L (d + 1) [.ref a] h (fun r h1 => h1 = h ∧ r = some (.int (nI bs.length))) := by
  refine mm_Ok.of [(0, .ref a)] rfl kJ4_length_8abf5.2.2.2.2.2 rfl (fun A => ?_)
  have hs0 := hs
  obtain ⟨ml, tl, hc, hv, hlen, hml, htl⟩ := hs
  refine mm_aload_n (pc := 0) dJ4_length_8abf5_0 rfl (by first | trivial | assumption | exact mm_isr_rf _) ?_
  refine mm_callSU (pc := 1) (As := []) (c := 14) (kd := ?kd_1) (fs := ?fs_1) dJ4_length_8abf5_1 sul_J4_343 (ok_sb_length5 hs0) ?hc_1 ?hk_1 rfl rfl rfl (Nat.le_of_ble_eq_true rfl) ?_; (case hc_1 => exact hc); (case hk_1 => rfl)
  rintro _ _ ⟨rfl, rfl⟩
  refine mm_iret (pc := 4) dJ4_length_8abf5_4 rfl ?_
  exact ⟨rfl, rfl⟩

theorem ok_sb_ensure {G : mm_G} {L : Nat × Nat} {d : Nat} {h : mm_H} {a v : Nat} {bs : List Int32} (hs : sB h a v bs) {n : Nat} (hn : n ≤ 16) : mm_Ok G mJ5_ensureCapacityInternal_d00df L (d) [.ref a, .int (nI n)] h (fun r h1 => h1 = h ∧ r = none) := by
  refine mm_Ok.of [(0, .ref a), (1, .int (nI n))] rfl kJ5_ensureCapacityInternal_d00df.2.2.2.2.2 rfl (fun A => ?_)
  obtain ⟨ml, tl, hc, hv, hlen, hml, htl⟩ := hs
  have hl16 : (bv (bs ++ tl)).length = 16 := by rw [bv_len, List.length_append]; omega
  refine mm_aload_n (pc := 0) dJ5_ensureCapacityInternal_d00df_0 rfl (by first | trivial | assumption | exact mm_isr_rf _) ?_
  refine mm_get (pc := 1) (kd := ?kd_1) (fs := ?fs_1) (v := ?v_1) dJ5_ensureCapacityInternal_d00df_1 fl_J5_15 ?hc_1 ?hk_1 ?hv_1 ?_; (case hc_1 => exact hc); (case hk_1 => rfl); (case hv_1 => rfl)
  refine mm_alen2 (pc := 4) (kd := ?kd_4) (vs := ?vs_4) dJ5_ensureCapacityInternal_d00df_4 ?hc_4 ?hk_4 ?ht_4 ?_; (case hc_4 => exact hv); (case hk_4 => rfl); (case ht_4 => rfl)
  refine mm_aload_n (pc := 5) dJ5_ensureCapacityInternal_d00df_5 rfl (by first | trivial | assumption | exact mm_isr_rf _) ?_
  refine mm_get (pc := 6) (kd := ?kd_6) (fs := ?fs_6) (v := ?v_6) dJ5_ensureCapacityInternal_d00df_6 fl_J5_22 ?hc_6 ?hk_6 ?hv_6 ?_; (case hc_6 => exact hc); (case hk_6 => rfl); (case hv_6 => rfl)
  refine mm_ishr (pc := 9) dJ5_ensureCapacityInternal_d00df_9 ?_
  refine mm_topi (nI 16) (by rw [sb_shr, hl16]) ?_
  refine mm_istore_n (pc := 10) dJ5_ensureCapacityInternal_d00df_10 rfl (Nat.le_of_ble_eq_true rfl) ?_
  refine mm_iload_n (pc := 11) dJ5_ensureCapacityInternal_d00df_11 rfl ?_
  refine mm_iload_n (pc := 12) dJ5_ensureCapacityInternal_d00df_12 rfl ?_
  refine mm_isub (pc := 13) dJ5_ensureCapacityInternal_d00df_13 ?_
  refine mm_if_le (pc := 14) (tgt := 38) dJ5_ensureCapacityInternal_d00df_14 (by decide) (fun c14 => ?_) (fun c14 => absurd (by rw [Int32.le_iff_toInt_le, pk_sub_toInt (by omega) (by decide), Int32.toInt_zero]; omega) c14)
  refine mm_vret (pc := 38) dJ5_ensureCapacityInternal_d00df_38 rfl ?_
  exact ⟨rfl, rfl⟩

theorem ok_canEncode {G : mm_G} {L : Nat × Nat} {d : Nat} {h : mm_H} {c : Int32} (ha : asc c) : mm_Ok G mJ1_canEncode_fc78d L (d) [.int c] h (fun r h1 => h1 = h ∧ r = some (.int 1)) := by
  refine mm_Ok.of [(0, .int c)] rfl kJ1_canEncode_fc78d.2.2.2.2.2 rfl (fun A => ?_)
  obtain ⟨n_, hn_, rfl⟩ := ha
  refine mm_iload_n (pc := 0) dJ1_canEncode_fc78d_0 rfl ?_
  refine mm_sipush (pc := 1) (v := 255) dJ1_canEncode_fc78d_1 (by decide) ?_
  refine mm_icmp_gt (pc := 4) (tgt := 11) dJ1_canEncode_fc78d_4 (by decide) (fun c4 => absurd c4 (show ¬ nI 255 < nI n_ from nI_nlt (by omega) (by decide))) (fun c4 => ?_)
  refine mm_iconst (pc := 7) (v := 1) dJ1_canEncode_fc78d_7 (by decide) ?_
  refine mm_goto (pc := 8) (tgt := 12) dJ1_canEncode_fc78d_8 (by decide) ?_
  refine mm_zret (pc := 12) dJ1_canEncode_fc78d_12 rfl (by rfl) ?_
  exact ⟨rfl, rfl⟩

theorem ok_sb_appendC5 {G : mm_G} {L : Nat × Nat} {d : Nat} {h : mm_H} {a v : Nat} {bs : List Int32} {c : Int32} (hs : sB h a v bs) (ha : asc c) (hl : bs.length < 16) : mm_Ok G mJ5_append_3fe6f L (d + 1) [.ref a, .int c] h (fun r h1 => sB h1 a v (bs ++ [c]) ∧ h1.2 = h.2 ∧ (∀ b, ¬ b = a → ¬ b = v → h1.1 b = h.1 b) ∧ r = some (.ref a)) := by
  refine mm_Ok.of [(0, .ref a), (1, .int c)] rfl kJ5_append_3fe6f.2.2.2.2.2 rfl (fun A => ?_)
  have hs0 := hs
  obtain ⟨ml, tl, hc, hv, hlen, hml, htl⟩ := hs
  have hva : ¬ a = v := mm_ne_k hc hv rfl
  have hva2 : ¬ v = a := fun e => hva e.symm
  obtain ⟨t0, tl, rfl⟩ : ∃ t0 tl2, tl = t0 :: tl2 := by
    cases tl with
    | nil => simp at hlen; omega
    | cons x y => exact ⟨x, y, rfl⟩
  refine mm_aload_n (pc := 0) dJ5_append_3fe6f_0 rfl (by first | trivial | assumption | exact mm_isr_rf _) ?_
  refine mm_aload_n (pc := 1) dJ5_append_3fe6f_1 rfl (by first | trivial | assumption | exact mm_isr_rf _) ?_
  refine mm_get (pc := 2) (kd := ?kd_2) (fs := ?fs_2) (v := ?v_2) dJ5_append_3fe6f_2 fl_J5_79 ?hc_2 ?hk_2 ?hv_2 ?_; (case hc_2 => exact hc); (case hk_2 => rfl); (case hv_2 => rfl)
  refine mm_iconst (pc := 5) (v := 1) dJ5_append_3fe6f_5 (by decide) ?_
  refine mm_iadd (pc := 6) dJ5_append_3fe6f_6 ?_
  refine mm_topi _ (nI_1 bs.length) ?_
  refine mm_callU (pc := 7) (As := [_]) (kd := ?kd_7) (fs := ?fs_7) dJ5_append_3fe6f_7 ul_J5_100 (ok_sb_ensure hs0 (n := bs.length + 1) (by omega)) ?hc_7 ?hk_7 rfl rfl (Nat.le_of_ble_eq_true rfl) ?_; (case hc_7 => exact hc); (case hk_7 => rfl)
  rintro _ _ ⟨rfl, rfl⟩
  refine mm_aload_n (pc := 10) dJ5_append_3fe6f_10 rfl (by first | trivial | assumption | exact mm_isr_rf _) ?_
  refine mm_callU (pc := 11) (As := []) (kd := ?kd_11) (fs := ?fs_11) dJ5_append_3fe6f_11 ul_J5_83 (ok_sb_isLatin1 hs0) ?hc_11 ?hk_11 rfl rfl (Nat.le_of_ble_eq_true rfl) ?_; (case hc_11 => exact hc); (case hk_11 => rfl)
  rintro _ _ ⟨rfl, rfl⟩
  refine mm_if_eq (pc := 14) (tgt := 45) dJ5_append_3fe6f_14 (by decide) (fun c14 => absurd c14 (by decide)) (fun c14 => ?_)
  refine mm_iload_n (pc := 17) dJ5_append_3fe6f_17 rfl ?_
  refine mm_callS (pc := 18) (As := [_]) dJ5_append_3fe6f_18 sl_J5_191 (ok_canEncode ha) rfl rfl (Nat.le_of_ble_eq_true rfl) ?_
  rintro _ _ ⟨rfl, rfl⟩
  refine mm_if_eq (pc := 21) (tgt := 45) dJ5_append_3fe6f_21 (by decide) (fun c21 => absurd c21 (by decide)) (fun c21 => ?_)
  refine mm_aload_n (pc := 24) dJ5_append_3fe6f_24 rfl (by first | trivial | assumption | exact mm_isr_rf _) ?_
  refine mm_get (pc := 25) (kd := ?kd_25) (fs := ?fs_25) (v := ?v_25) dJ5_append_3fe6f_25 fl_J5_15 ?hc_25 ?hk_25 ?hv_25 ?_; (case hc_25 => exact hc); (case hk_25 => rfl); (case hv_25 => rfl)
  refine mm_aload_n (pc := 28) dJ5_append_3fe6f_28 rfl (by first | trivial | assumption | exact mm_isr_rf _) ?_
  refine mm_dup (pc := 29) dJ5_append_3fe6f_29 rfl ?_
  refine mm_get (pc := 30) (kd := ?kd_30) (fs := ?fs_30) (v := ?v_30) dJ5_append_3fe6f_30 fl_J5_79 ?hc_30 ?hk_30 ?hv_30 ?_; (case hc_30 => exact hc); (case hk_30 => rfl); (case hv_30 => rfl)
  refine mm_dup_x1 (pc := 33) dJ5_append_3fe6f_33 rfl rfl ?_
  refine mm_iconst (pc := 34) (v := 1) dJ5_append_3fe6f_34 (by decide) ?_
  refine mm_iadd (pc := 35) dJ5_append_3fe6f_35 ?_
  refine mm_put (pc := 36) (kd := ?kd_36) (fs := ?fs_36) dJ5_append_3fe6f_36 (pl_J5_79 _) ?hc_36 ?hk_36 ?hn_36 ?hf_36 ?_; (case hc_36 => exact hc); (case hk_36 => rfl); (case hn_36 => rfl); (case hf_36 => rfl)
  refine mm_iload_n (pc := 39) dJ5_append_3fe6f_39 rfl ?_
  refine mm_i2b (pc := 40) dJ5_append_3fe6f_40 ?_
  have hx_ := fun c => mm_set_ne (c := c) hva2 hv
  refine mm_bast (pc := 41) (kd := ?kd_41) (vs := ?vs_41) dJ5_append_3fe6f_41 ?hc_41 ?hk_41 ?h0_41 ?hv_41 ?_; (case hc_41 => exact hx_ _); (case hk_41 => rfl); (case h0_41 => exact nI_pos (by omega)); (case hv_41 => rw [nI_clamp (by omega), bv_len, List.length_append]; simp)
  refine mm_goto (pc := 42) (tgt := 75) dJ5_append_3fe6f_42 (by decide) ?_
  refine mm_aload_n (pc := 75) dJ5_append_3fe6f_75 rfl (by first | trivial | assumption | exact mm_isr_rf _) ?_
  refine mm_aret (pc := 76) dJ5_append_3fe6f_76 rfl (Or.inl ⟨_, rfl⟩) (by first | trivial | assumption | exact mm_isr_rf _) ?_
  refine ⟨⟨ml, tl, ?_, ?_, by rw [List.length_append]; simp at hlen ⊢; omega, hml, fun t ht => htl t (List.mem_cons_of_mem _ ht)⟩, rfl, fun b h1 h2 => ?_, rfl⟩
  · refine mm_set_ne hva ?_
    rw [mm_set_eq, nI_1, List.length_append]
    rfl
  · rw [mm_set_eq, nI_clamp (by omega), ha.b, ha.nb, bv_set]
  · exact mm_set_ne h2 (mm_set_ne h1 rfl)

theorem ok_sb_appendC {G : mm_G} {L : Nat × Nat} {d : Nat} {h : mm_H} {a v : Nat} {bs : List Int32} {c : Int32} (hs : sB h a v bs) (ha : asc c) (hl : bs.length < 16) : mm_Ok G mJ4_append_cf468 L (d + 2) [.ref a, .int c] h (fun r h1 => sB h1 a v (bs ++ [c]) ∧ h1.2 = h.2 ∧ (∀ b, ¬ b = a → ¬ b = v → h1.1 b = h.1 b) ∧ r = some (.ref a)) := by
  refine mm_Ok.of [(0, .ref a), (1, .int c)] rfl kJ4_append_cf468.2.2.2.2.2 rfl (fun A => ?_)
  have hs0 := hs
  obtain ⟨ml, tl, hc, hv, hlen, hml, htl⟩ := hs
  refine mm_aload_n (pc := 0) dJ4_append_cf468_0 rfl (by first | trivial | assumption | exact mm_isr_rf _) ?_
  refine mm_iload_n (pc := 1) dJ4_append_cf468_1 rfl ?_
  refine mm_callSU (pc := 2) (As := [_]) (c := 14) (kd := ?kd_2) (fs := ?fs_2) dJ4_append_cf468_2 sul_J4_50 (ok_sb_appendC5 hs0 ha hl) ?hc_2 ?hk_2 rfl rfl rfl (Nat.le_of_ble_eq_true rfl) ?_; (case hc_2 => exact hc); (case hk_2 => rfl)
  rintro _ h_ ⟨q1, q2, q3, rfl⟩
  refine mm_pop (pc := 5) dJ4_append_cf468_5 rfl ?_
  refine mm_aload_n (pc := 6) dJ4_append_cf468_6 rfl (by first | trivial | assumption | exact mm_isr_rf _) ?_
  refine mm_aret (pc := 7) dJ4_append_cf468_7 rfl (Or.inl ⟨_, rfl⟩) (by first | trivial | assumption | exact mm_isr_rf _) ?_
  exact ⟨q1, q2, q3, rfl⟩

