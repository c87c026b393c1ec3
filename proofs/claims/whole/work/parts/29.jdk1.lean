/-! the library's texts -/
def bv (bs : List Int32) : List Value := bs.map Value.int
theorem bv_len (bs : List Int32) : (bv bs).length = bs.length := List.length_map ..
theorem bv_get {bs : List Int32} {i : Nat} {b : Int32} (h : bs[i]? = some b) : (bv bs)[i]? = some (.int b) := by
  unfold bv
  rw [List.getElem?_map, h]
  rfl
/-- a text at a: its letters -/
def sT (h : mm_H) (a : Nat) (bs : List Int32) : Prop := ∃ ka kv v rest, h.1 a = some (ka, .ref v :: .int 0 :: rest) ∧ ka % 200 = 13 ∧ h.1 v = some (kv, bv bs) ∧ kv % 200 = 101 ∧ bs.length < 2 ^ 30
theorem sb_shr (x : Int32) : x >>> ((0 : Int32) &&& 31) = x := by
  rw [show (0 : Int32) &&& 31 = 0 by decide, ← Int32.toBitVec_inj, Int32.toBitVec_shiftRight]
  simp
theorem sb_shl (x : Int32) : x <<< ((0 : Int32) &&& 31) = x := by
  rw [show (0 : Int32) &&& 31 = 0 by decide, ← Int32.toBitVec_inj, Int32.toBitVec_shiftLeft]
  simp
theorem mm_13 {ka : Nat} (h : ka % 200 = 13) : Nat.blt (ka % 200) 100 = true := by rw [h]; rfl
theorem mm_13c {ka : Nat} (h : ka % 200 = 13) : mm_cls[ka % 200]? = some (RJ0, TJ0, 4) := by rw [h]; rfl
theorem mm_101 {ka : Nat} (h : ka % 200 = 101) : Nat.ble 100 (ka % 200) = true := by rw [h]; rfl
theorem mm_101c {ka : Nat} (h : ka % 200 = 101) : Nat.blt (ka % 200 - 100) 10 = true := by rw [h]; rfl

theorem ok_coder {G : mm_G} {L : Nat × Nat} {d : Nat} {h : mm_H} {a ka : Nat} {v1 : Value} {rest : List Value} (hc : h.1 a = some (ka, v1 :: .int 0 :: rest)) (hk : ka % 200 = 13) : mm_Ok G mJ0_coder_7d493 L (d) [.ref a] h (fun r h1 => h1 = h ∧ r = some (.int 0)) := by
  refine mm_Ok.of [(0, .ref a)] rfl kJ0_coder_7d493.2.2.2.2.2 rfl (fun A => ?_)
  refine mm_getsC (pc := 0) dJ0_coder_7d493_0 gs_J0_38 ?_
  refine mm_if_eq (pc := 3) (tgt := 13) dJ0_coder_7d493_3 (by decide) (fun c3 => absurd c3 (by decide)) (fun c3 => ?_)
  refine mm_aload_n (pc := 6) dJ0_coder_7d493_6 rfl (by first | trivial | assumption | exact mm_isr_rf _) ?_
  refine mm_get (pc := 7) (kd := ?kd_7) (fs := ?fs_7) (v := ?v_7) dJ0_coder_7d493_7 fl_J0_15 ?hc_7 ?hk_7 ?hv_7 ?_; (case hc_7 => exact hc); (case hk_7 => first | rfl | assumption | exact mm_101 (by assumption)); (case hv_7 => rfl)
  refine mm_goto (pc := 10) (tgt := 14) dJ0_coder_7d493_10 (by decide) ?_
  refine mm_zret (pc := 14) dJ0_coder_7d493_14 rfl (by rfl) ?_
  exact ⟨rfl, rfl⟩

theorem ok_isLatin1 {G : mm_G} {L : Nat × Nat} {d : Nat} {h : mm_H} {a ka : Nat} {v1 : Value} {rest : List Value} (hc : h.1 a = some (ka, v1 :: .int 0 :: rest)) (hk : ka % 200 = 13) : mm_Ok G mJ0_isLatin1_aae02 L (d) [.ref a] h (fun r h1 => h1 = h ∧ r = some (.int 1)) := by
  refine mm_Ok.of [(0, .ref a)] rfl kJ0_isLatin1_aae02.2.2.2.2.2 rfl (fun A => ?_)
  refine mm_getsC (pc := 0) dJ0_isLatin1_aae02_0 gs_J0_38 ?_
  refine mm_if_eq (pc := 3) (tgt := 17) dJ0_isLatin1_aae02_3 (by decide) (fun c3 => absurd c3 (by decide)) (fun c3 => ?_)
  refine mm_aload_n (pc := 6) dJ0_isLatin1_aae02_6 rfl (by first | trivial | assumption | exact mm_isr_rf _) ?_
  refine mm_get (pc := 7) (kd := ?kd_7) (fs := ?fs_7) (v := ?v_7) dJ0_isLatin1_aae02_7 fl_J0_15 ?hc_7 ?hk_7 ?hv_7 ?_; (case hc_7 => exact hc); (case hk_7 => first | rfl | assumption | exact mm_101 (by assumption)); (case hv_7 => rfl)
  refine mm_if_ne (pc := 10) (tgt := 17) dJ0_isLatin1_aae02_10 (by decide) (fun c10 => absurd rfl c10) (fun c10 => ?_)
  refine mm_iconst (pc := 13) (v := 1) dJ0_isLatin1_aae02_13 (by decide) ?_
  refine mm_goto (pc := 14) (tgt := 18) dJ0_isLatin1_aae02_14 (by decide) ?_
  refine mm_zret (pc := 18) dJ0_isLatin1_aae02_18 rfl (by rfl) ?_
  exact ⟨rfl, rfl⟩

theorem ok_length {G : mm_G} {L : Nat × Nat} {d : Nat} {h : mm_H} {a : Nat} {bs : List Int32} (hs : sT h a bs) : mm_Ok G mJ0_length_8abf5 L (d + 1) [.ref a] h (fun r h1 => h1 = h ∧ r = some (.int (nI bs.length))) := by
  refine mm_Ok.of [(0, .ref a)] rfl kJ0_length_8abf5.2.2.2.2.2 rfl (fun A => ?_)
  obtain ⟨ka, kv, v, rest, hc, hk, hv, hkv, hlen⟩ := hs
  refine mm_aload_n (pc := 0) dJ0_length_8abf5_0 rfl (by first | trivial | assumption | exact mm_isr_rf _) ?_
  refine mm_get (pc := 1) (kd := ?kd_1) (fs := ?fs_1) (v := ?v_1) dJ0_length_8abf5_1 fl_J0_9 ?hc_1 ?hk_1 ?hv_1 ?_; (case hc_1 => exact hc); (case hk_1 => first | rfl | assumption | exact mm_101 (by assumption)); (case hv_1 => rfl)
  refine mm_alen2 (pc := 4) (kd := ?kd_4) (vs := ?vs_4) dJ0_length_8abf5_4 ?hc_4 ?hk_4 ?ht_4 ?_; (case hc_4 => exact hv); (case hk_4 => first | rfl | assumption | exact mm_101 (by assumption)); (case ht_4 => first | rfl | assumption | exact mm_101c (by assumption))
  refine mm_aload_n (pc := 5) dJ0_length_8abf5_5 rfl (by first | trivial | assumption | exact mm_isr_rf _) ?_
  refine mm_callV (pc := 6) (As := []) (kd := ?kd_6) (fs := ?fs_6) dJ0_length_8abf5_6 vl_J0_335 (ok_coder hc hk) ?hc_6 ?hk_6 rfl rfl (Nat.le_of_ble_eq_true rfl) ?_; (case hc_6 => exact hc); (case hk_6 => first | rfl | assumption | exact mm_101 (by assumption))
  rintro _ _ ⟨rfl, rfl⟩
  refine mm_ishr (pc := 9) dJ0_length_8abf5_9 ?_
  refine mm_iret (pc := 10) dJ0_length_8abf5_10 rfl ?_
  rw [sb_shr, bv_len]
  exact ⟨rfl, rfl⟩

theorem ok_J3_checkIndex {G : mm_G} {L : Nat × Nat} {d : Nat} {h : mm_H} {i n : Nat} (o : Option Nat) (hi : i < n) (hn : n < 2 ^ 31) : mm_Ok G mJ3_checkIndex_8e157 L d [.int (nI i), .int (nI n), va_rf o] h (fun r h1 => h1 = h ∧ r = some (.int (nI i))) := by
  cases o with
  | none =>
    refine mm_Ok.of (av := [.int (nI i), .int (nI n), .null]) [(0, .int (nI i)), (1, .int (nI n)), (2, .null)] rfl kJ3_checkIndex_8e157.2.2.2.2.2 rfl (fun A => ?_)
    refine mm_iload_n (pc := 0) dJ3_checkIndex_8e157_0 rfl ?_
    refine mm_if_lt (pc := 1) (tgt := 9) dJ3_checkIndex_8e157_1 (by decide) (fun c1 => absurd c1 (nI_pos (by omega))) (fun c1 => ?_)
    refine mm_iload_n (pc := 4) dJ3_checkIndex_8e157_4 rfl ?_
    refine mm_iload_n (pc := 5) dJ3_checkIndex_8e157_5 rfl ?_
    refine mm_icmp_lt (pc := 6) (tgt := 16) dJ3_checkIndex_8e157_6 (by decide) (fun c6 => ?_) (fun c6 => absurd (nI_lt hi hn) c6)
    refine mm_iload_n (pc := 16) dJ3_checkIndex_8e157_16 rfl ?_
    refine mm_iret (pc := 17) dJ3_checkIndex_8e157_17 rfl ?_
    exact ⟨rfl, rfl⟩
  | some q =>
    refine mm_Ok.of (av := [.int (nI i), .int (nI n), .ref q]) [(0, .int (nI i)), (1, .int (nI n)), (2, .ref q)] rfl kJ3_checkIndex_8e157.2.2.2.2.2 rfl (fun A => ?_)
    refine mm_iload_n (pc := 0) dJ3_checkIndex_8e157_0 rfl ?_
    refine mm_if_lt (pc := 1) (tgt := 9) dJ3_checkIndex_8e157_1 (by decide) (fun c1 => absurd c1 (nI_pos (by omega))) (fun c1 => ?_)
    refine mm_iload_n (pc := 4) dJ3_checkIndex_8e157_4 rfl ?_
    refine mm_iload_n (pc := 5) dJ3_checkIndex_8e157_5 rfl ?_
    refine mm_icmp_lt (pc := 6) (tgt := 16) dJ3_checkIndex_8e157_6 (by decide) (fun c6 => ?_) (fun c6 => absurd (nI_lt hi hn) c6)
    refine mm_iload_n (pc := 16) dJ3_checkIndex_8e157_16 rfl ?_
    refine mm_iret (pc := 17) dJ3_checkIndex_8e157_17 rfl ?_
    exact ⟨rfl, rfl⟩

theorem ok_J0_checkIndex {G : mm_G} {L : Nat × Nat} {d : Nat} {h : mm_H} {i n : Nat} (hi : i < n) (hn : n < 2 ^ 31) : mm_Ok G mJ0_checkIndex_df160 L (d + 1) [.int (nI i), .int (nI n)] h (fun r h1 => h1 = h ∧ r = none) := by
  refine mm_Ok.of [(0, .int (nI i)), (1, .int (nI n))] rfl kJ0_checkIndex_df160.2.2.2.2.2 rfl (fun A => ?_)
  refine mm_iload_n (pc := 0) dJ0_checkIndex_df160_0 rfl ?_
  refine mm_iload_n (pc := 1) dJ0_checkIndex_df160_1 rfl ?_
  refine mm_getsF (pc := 2) dJ0_checkIndex_df160_2 gs_J0_1053 ?_
  refine mm_callS (pc := 5) (As := [_, _, _]) dJ0_checkIndex_df160_5 sl_J0_1059 (ok_J3_checkIndex _ hi hn) rfl rfl (Nat.le_of_ble_eq_true rfl) ?_
  rintro _ _ ⟨rfl, rfl⟩
  refine mm_pop (pc := 8) dJ0_checkIndex_df160_8 rfl ?_
  refine mm_vret (pc := 9) dJ0_checkIndex_df160_9 rfl ?_
  exact ⟨rfl, rfl⟩

/-- a letter below 128 -/
def asc (b : Int32) : Prop := ∃ n, n < 128 ∧ b = nI n
theorem asc_f : ∀ n, n < 128 → (nI n &&& 255 = nI n) ∧ (((nI n).toUInt32 % 65536).toInt32 = nI n) ∧ narrow .char (.int (nI n)) = .int (nI n) ∧ (nI n).toInt8.toInt32 = nI n ∧ narrow .byte (.int (nI n)) = .int (nI n) ∧ fits .byte (.int (nI n)) = true := by decide +kernel
theorem asc.a {b : Int32} (h : asc b) : b &&& 255 = b := by obtain ⟨n, hn, rfl⟩ := h; exact (asc_f n hn).1
theorem asc.c {b : Int32} (h : asc b) : (b.toUInt32 % 65536).toInt32 = b := by obtain ⟨n, hn, rfl⟩ := h; exact (asc_f n hn).2.1
theorem asc.nc {b : Int32} (h : asc b) : narrow .char (.int b) = .int b := by obtain ⟨n, hn, rfl⟩ := h; exact (asc_f n hn).2.2.1
theorem asc.b {b : Int32} (h : asc b) : b.toInt8.toInt32 = b := by obtain ⟨n, hn, rfl⟩ := h; exact (asc_f n hn).2.2.2.1
theorem asc.nb {b : Int32} (h : asc b) : narrow .byte (.int b) = .int b := by obtain ⟨n, hn, rfl⟩ := h; exact (asc_f n hn).2.2.2.2.1
theorem asc.fb {b : Int32} (h : asc b) : fits .byte (.int b) = true := by obtain ⟨n, hn, rfl⟩ := h; exact (asc_f n hn).2.2.2.2.2

theorem ok_J1_charAt {G : mm_G} {L : Nat × Nat} {d : Nat} {h : mm_H} {v kv i : Nat} {bs : List Int32} {b : Int32} (hv : h.1 v = some (kv, bv bs)) (hkv : kv % 200 = 101) (hlen : bs.length < 2 ^ 30) (hb : bs[i]? = some b) (ha : asc b) : mm_Ok G mJ1_charAt_3b067 L (d + 2) [.ref v, .int (nI i)] h (fun r h1 => h1 = h ∧ r = some (.int b)) := by
  refine mm_Ok.of [(0, .ref v), (1, .int (nI i))] rfl kJ1_charAt_3b067.2.2.2.2.2 rfl (fun A => ?_)
  have hi : i < bs.length := (List.getElem?_eq_some_iff.mp hb).1
  refine mm_iload_n (pc := 0) dJ1_charAt_3b067_0 rfl ?_
  refine mm_aload_n (pc := 1) dJ1_charAt_3b067_1 rfl (by first | trivial | assumption | exact mm_isr_rf _) ?_
  refine mm_alen2 (pc := 2) (kd := ?kd_2) (vs := ?vs_2) dJ1_charAt_3b067_2 ?hc_2 ?hk_2 ?ht_2 ?_; (case hc_2 => exact hv); (case hk_2 => first | rfl | assumption | exact mm_101 (by assumption)); (case ht_2 => first | rfl | assumption | exact mm_101c (by assumption))
  rw [bv_len]
  refine mm_callS (pc := 3) (As := [_, _]) dJ1_charAt_3b067_3 sl_J1_9 (ok_J0_checkIndex hi (by omega)) rfl rfl (Nat.le_of_ble_eq_true rfl) ?_
  rintro _ _ ⟨rfl, rfl⟩
  refine mm_aload_n (pc := 6) dJ1_charAt_3b067_6 rfl (by first | trivial | assumption | exact mm_isr_rf _) ?_
  refine mm_iload_n (pc := 7) dJ1_charAt_3b067_7 rfl ?_
  refine mm_bald (pc := 8) (kd := ?kd_8) (vs := ?vs_8) (v := ?v_8) dJ1_charAt_3b067_8 ?hc_8 ?hk_8 ?h0_8 ?hv_8 ?_; (case hc_8 => exact hv); (case hk_8 => first | rfl | assumption | exact mm_101 (by assumption)); (case h0_8 => exact nI_pos (by omega)); (case hv_8 => rw [nI_clamp (by omega)]; exact bv_get hb)
  refine mm_sipush (pc := 9) (v := 255) dJ1_charAt_3b067_9 (by decide) ?_
  refine mm_iand (pc := 12) dJ1_charAt_3b067_12 ?_
  refine mm_topi _ ha.a ?_
  refine mm_i2c (pc := 13) dJ1_charAt_3b067_13 ?_
  refine mm_topi _ ha.c ?_
  refine mm_zret (pc := 14) dJ1_charAt_3b067_14 rfl (ha.nc) ?_
  exact ⟨rfl, rfl⟩

theorem ok_charAt {G : mm_G} {L : Nat × Nat} {d : Nat} {h : mm_H} {a : Nat} {bs : List Int32} (hs : sT h a bs) {i : Nat} {b : Int32} (hb : bs[i]? = some b) (ha : asc b) : mm_Ok G mJ0_charAt_5068e L (d + 3) [.ref a, .int (nI i)] h (fun r h1 => h1 = h ∧ r = some (.int b)) := by
  refine mm_Ok.of [(0, .ref a), (1, .int (nI i))] rfl kJ0_charAt_5068e.2.2.2.2.2 rfl (fun A => ?_)
  obtain ⟨ka, kv, v, rest, hc, hk, hv, hkv, hlen⟩ := hs
  refine mm_aload_n (pc := 0) dJ0_charAt_5068e_0 rfl (by first | trivial | assumption | exact mm_isr_rf _) ?_
  refine mm_callV (pc := 1) (As := []) (kd := ?kd_1) (fs := ?fs_1) dJ0_charAt_5068e_1 vl_J0_492 (ok_isLatin1 hc hk) ?hc_1 ?hk_1 rfl rfl (Nat.le_of_ble_eq_true rfl) ?_; (case hc_1 => exact hc); (case hk_1 => first | rfl | assumption | exact mm_101 (by assumption))
  rintro _ _ ⟨rfl, rfl⟩
  refine mm_if_eq (pc := 4) (tgt := 16) dJ0_charAt_5068e_4 (by decide) (fun c4 => absurd c4 (by decide)) (fun c4 => ?_)
  refine mm_aload_n (pc := 7) dJ0_charAt_5068e_7 rfl (by first | trivial | assumption | exact mm_isr_rf _) ?_
  refine mm_get (pc := 8) (kd := ?kd_8) (fs := ?fs_8) (v := ?v_8) dJ0_charAt_5068e_8 fl_J0_9 ?hc_8 ?hk_8 ?hv_8 ?_; (case hc_8 => exact hc); (case hk_8 => first | rfl | assumption | exact mm_101 (by assumption)); (case hv_8 => rfl)
  refine mm_iload_n (pc := 11) dJ0_charAt_5068e_11 rfl ?_
  refine mm_callS (pc := 12) (As := [_, _]) dJ0_charAt_5068e_12 sl_J0_495 (ok_J1_charAt hv hkv hlen hb ha) rfl rfl (Nat.le_of_ble_eq_true rfl) ?_
  rintro _ _ ⟨rfl, rfl⟩
  refine mm_zret (pc := 15) dJ0_charAt_5068e_15 rfl (ha.nc) ?_
  exact ⟨rfl, rfl⟩

theorem l_ext {bs cs : List Int32} (hl : bs.length = cs.length) (h : ∀ i, i < bs.length → bs[i]? = cs[i]?) : bs = cs := by
  refine List.ext_getElem? (fun i => ?_)
  by_cases hi : i < bs.length
  · exact h i hi
  · rw [List.getElem?_eq_none (by omega), List.getElem?_eq_none (by omega)]

theorem ok_J1_equals {G : mm_G} {L : Nat × Nat} {d : Nat} {h : mm_H} {v kv w kw : Nat} {bs cs : List Int32} (hv : h.1 v = some (kv, bv bs)) (hkv : kv % 200 = 101) (hlen : bs.length < 2 ^ 30) (hw : h.1 w = some (kw, bv cs)) (hkw : kw % 200 = 101) (hlen2 : cs.length < 2 ^ 30) : mm_Ok G mJ1_equals_b5fdf L d [.ref v, .ref w] h (fun r h1 => h1 = h ∧ r = some (.int (bI (decide (bs = cs))))) := by
  refine mm_Ok.of [(0, .ref v), (1, .ref w)] rfl kJ1_equals_b5fdf.2.2.2.2.2 rfl (fun A => ?_)
  have lp_ : bs.length = cs.length → ∀ (q t : Nat), t + q = bs.length → (∀ i, i < t → bs[i]? = cs[i]?) → mm_Run G mJ1_equals_b5fdf A L d 9 [(2, .int (nI t)), (0, .ref v), (1, .ref w)] [] h (fun r h1 => h1 = h ∧ r = some (.int (bI (decide (bs = cs))))) := by
    intro hl q
    induction q with
    | zero =>
      intro t ht hp
      obtain rfl : t = bs.length := by omega
      refine mm_iload_n (pc := 9) dJ1_equals_b5fdf_9 rfl ?_
      refine mm_aload_n (pc := 10) dJ1_equals_b5fdf_10 rfl (by first | trivial | assumption | exact mm_isr_rf _) ?_
      refine mm_alen2 (pc := 11) (kd := ?kd_11) (vs := ?vs_11) dJ1_equals_b5fdf_11 ?hc_11 ?hk_11 ?ht_11 ?_; (case hc_11 => exact hv); (case hk_11 => first | rfl | assumption | exact mm_101 (by assumption)); (case ht_11 => first | rfl | assumption | exact mm_101c (by assumption))
      refine mm_icmp_ge (pc := 12) (tgt := 32) dJ1_equals_b5fdf_12 (by decide) (fun c12 => ?_) (fun c12 => absurd (by rw [bv_len]; exact Int32.le_refl _) c12)
      refine mm_iconst (pc := 32) (v := 1) dJ1_equals_b5fdf_32 (by decide) ?_
      refine mm_zret (pc := 33) dJ1_equals_b5fdf_33 rfl (by rfl) ?_
      exact ⟨rfl, by rw [decide_eq_true (l_ext hl (fun i hi => hp i hi))]; rfl⟩
    | succ q ih =>
      intro t ht hp
      have hb1 : bs[t]? = some bs[t] := List.getElem?_eq_getElem (by omega)
      have hb2 : cs[t]? = some cs[t] := List.getElem?_eq_getElem (by omega)
      refine mm_iload_n (pc := 9) dJ1_equals_b5fdf_9 rfl ?_
      refine mm_aload_n (pc := 10) dJ1_equals_b5fdf_10 rfl (by first | trivial | assumption | exact mm_isr_rf _) ?_
      refine mm_alen2 (pc := 11) (kd := ?kd_11) (vs := ?vs_11) dJ1_equals_b5fdf_11 ?hc_11 ?hk_11 ?ht_11 ?_; (case hc_11 => exact hv); (case hk_11 => first | rfl | assumption | exact mm_101 (by assumption)); (case ht_11 => first | rfl | assumption | exact mm_101c (by assumption))
      refine mm_icmp_ge (pc := 12) (tgt := 32) dJ1_equals_b5fdf_12 (by decide) (fun c12 => absurd c12 (by rw [bv_len]; exact nI_ge (by omega) (by omega))) (fun c12 => ?_)
      refine mm_aload_n (pc := 15) dJ1_equals_b5fdf_15 rfl (by first | trivial | assumption | exact mm_isr_rf _) ?_
      refine mm_iload_n (pc := 16) dJ1_equals_b5fdf_16 rfl ?_
      refine mm_bald (pc := 17) (kd := ?kd_17) (vs := ?vs_17) (v := ?v_17) dJ1_equals_b5fdf_17 ?hc_17 ?hk_17 ?h0_17 ?hv_17 ?_; (case hc_17 => exact hv); (case hk_17 => first | rfl | assumption | exact mm_101 (by assumption)); (case h0_17 => exact nI_pos (by omega)); (case hv_17 => rw [nI_clamp (by omega)]; exact bv_get hb1)
      refine mm_aload_n (pc := 18) dJ1_equals_b5fdf_18 rfl (by first | trivial | assumption | exact mm_isr_rf _) ?_
      refine mm_iload_n (pc := 19) dJ1_equals_b5fdf_19 rfl ?_
      refine mm_bald (pc := 20) (kd := ?kd_20) (vs := ?vs_20) (v := ?v_20) dJ1_equals_b5fdf_20 ?hc_20 ?hk_20 ?h0_20 ?hv_20 ?_; (case hc_20 => exact hw); (case hk_20 => first | rfl | assumption | exact mm_101 (by assumption)); (case h0_20 => exact nI_pos (by omega)); (case hv_20 => rw [nI_clamp (by omega)]; exact bv_get hb2)
      refine mm_icmp_eq (pc := 21) (tgt := 26) dJ1_equals_b5fdf_21 (by decide) (fun c21 => ?_) (fun c21 => ?_)
      · refine mm_iinc (pc := 26) dJ1_equals_b5fdf_26 rfl rfl rfl (Nat.le_of_ble_eq_true rfl) ?_
        refine mm_goto (pc := 29) (tgt := 9) dJ1_equals_b5fdf_29 (by decide) ?_
        exact mm_weakK (ih (t + 1) (by omega) (fun i hi => by
          by_cases e : i = t
          · subst e; rw [hb1, hb2, c21]
          · exact hp i (by omega))) (And.intro (by rw [← nI_1]; rfl) (And.intro rfl (And.intro rfl trivial)))
      · refine mm_iconst (pc := 24) (v := 0) dJ1_equals_b5fdf_24 (by decide) ?_
        refine mm_zret (pc := 25) dJ1_equals_b5fdf_25 rfl (by rfl) ?_
        exact ⟨rfl, by rw [decide_eq_false (fun e => by subst e; rw [hb1] at hb2; cases hb2; exact absurd rfl c21)]; rfl⟩
  refine mm_aload_n (pc := 0) dJ1_equals_b5fdf_0 rfl (by first | trivial | assumption | exact mm_isr_rf _) ?_
  refine mm_alen2 (pc := 1) (kd := ?kd_1) (vs := ?vs_1) dJ1_equals_b5fdf_1 ?hc_1 ?hk_1 ?ht_1 ?_; (case hc_1 => exact hv); (case hk_1 => first | rfl | assumption | exact mm_101 (by assumption)); (case ht_1 => first | rfl | assumption | exact mm_101c (by assumption))
  refine mm_aload_n (pc := 2) dJ1_equals_b5fdf_2 rfl (by first | trivial | assumption | exact mm_isr_rf _) ?_
  refine mm_alen2 (pc := 3) (kd := ?kd_3) (vs := ?vs_3) dJ1_equals_b5fdf_3 ?hc_3 ?hk_3 ?ht_3 ?_; (case hc_3 => exact hw); (case hk_3 => first | rfl | assumption | exact mm_101 (by assumption)); (case ht_3 => first | rfl | assumption | exact mm_101c (by assumption))
  refine mm_icmp_ne (pc := 4) (tgt := 34) dJ1_equals_b5fdf_4 (by decide) (fun c4 => ?_) (fun c4 => ?_)
  · refine mm_iconst (pc := 34) (v := 0) dJ1_equals_b5fdf_34 (by decide) ?_
    refine mm_zret (pc := 35) dJ1_equals_b5fdf_35 rfl (by rfl) ?_
    exact ⟨rfl, by rw [decide_eq_false (fun e => c4 (by rw [e]))]; rfl⟩
  · refine mm_iconst (pc := 7) (v := 0) dJ1_equals_b5fdf_7 (by decide) ?_
    refine mm_istore_n (pc := 8) dJ1_equals_b5fdf_8 rfl (Nat.le_of_ble_eq_true rfl) ?_
    rw [bv_len, bv_len] at c4
    have hl : bs.length = cs.length := (nI_eq (by omega) (by omega)).mp c4
    exact mm_weakK (lp_ hl bs.length 0 (by omega) (fun i hi => by omega)) (And.intro rfl (And.intro rfl (And.intro rfl trivial)))

theorem ok_equals {G : mm_G} {L : Nat × Nat} {d : Nat} {h : mm_H} {a b : Nat} {bs cs : List Int32} (hs : sT h a bs) (hs2 : sT h b cs) : mm_Ok G mJ0_equals_9ea2d L (d + 1) [.ref a, .ref b] h (fun r h1 => h1 = h ∧ r = some (.int (bI (decide (bs = cs))))) := by
  refine mm_Ok.of [(0, .ref a), (1, .ref b)] rfl kJ0_equals_9ea2d.2.2.2.2.2 rfl (fun A => ?_)
  obtain ⟨ka, kv, v, rest, hc, hk, hv, hkv, hlen⟩ := hs
  obtain ⟨kb, kw, w, rest2, hc2, hk2, hw, hkw, hlen2⟩ := hs2
  refine mm_aload_n (pc := 0) dJ0_equals_9ea2d_0 rfl (by first | trivial | assumption | exact mm_isr_rf _) ?_
  refine mm_aload_n (pc := 1) dJ0_equals_9ea2d_1 rfl (by first | trivial | assumption | exact mm_isr_rf _) ?_
  refine mm_acmp_ne (pc := 2) (tgt := 7) dJ0_equals_9ea2d_2 (by decide) (by first | trivial | assumption | exact mm_isr_rf _) (by first | trivial | assumption | exact mm_isr_rf _) (fun c2 => ?_) (fun c2 => ?_)
  · refine mm_aload_n (pc := 7) dJ0_equals_9ea2d_7 rfl (by first | trivial | assumption | exact mm_isr_rf _) ?_
    refine mm_instS (pc := 8) (kd := ?kd_8) (fs := ?fs_8) (T := TJ0) (N := 4) dJ0_equals_9ea2d_8 cc_J0_10 ?hc_8 ?hk_8 ?hcl_8 ?_; (case hc_8 => exact hc2); (case hk_8 => exact mm_13 hk2); (case hcl_8 => exact mm_13c hk2)
    refine mm_if_eq (pc := 11) (tgt := 54) dJ0_equals_9ea2d_11 (by decide) (fun c11 => absurd c11 (by decide)) (fun c11 => ?_)
    refine mm_aload_n (pc := 14) dJ0_equals_9ea2d_14 rfl (by first | trivial | assumption | exact mm_isr_rf _) ?_
    refine mm_castS (pc := 15) (kd := ?kd_15) (fs := ?fs_15) (T := TJ0) (N := 4) dJ0_equals_9ea2d_15 cc_J0_10 ?hc_15 ?hk_15 ?hcl_15 ?_; (case hc_15 => exact hc2); (case hk_15 => exact mm_13 hk2); (case hcl_15 => exact mm_13c hk2)
    refine mm_astore_n (pc := 18) dJ0_equals_9ea2d_18 (by first | trivial | assumption | exact mm_isr_rf _) rfl (Nat.le_of_ble_eq_true rfl) ?_
    refine mm_getsC (pc := 19) dJ0_equals_9ea2d_19 gs_J0_38 ?_
    refine mm_if_eq (pc := 22) (tgt := 36) dJ0_equals_9ea2d_22 (by decide) (fun c22 => absurd c22 (by decide)) (fun c22 => ?_)
    refine mm_aload_n (pc := 25) dJ0_equals_9ea2d_25 rfl (by first | trivial | assumption | exact mm_isr_rf _) ?_
    refine mm_get (pc := 26) (kd := ?kd_26) (fs := ?fs_26) (v := ?v_26) dJ0_equals_9ea2d_26 fl_J0_15 ?hc_26 ?hk_26 ?hv_26 ?_; (case hc_26 => exact hc); (case hk_26 => first | rfl | assumption | exact mm_101 (by assumption)); (case hv_26 => rfl)
    refine mm_aload_n (pc := 29) dJ0_equals_9ea2d_29 rfl (by first | trivial | assumption | exact mm_isr_rf _) ?_
    refine mm_get (pc := 30) (kd := ?kd_30) (fs := ?fs_30) (v := ?v_30) dJ0_equals_9ea2d_30 fl_J0_15 ?hc_30 ?hk_30 ?hv_30 ?_; (case hc_30 => exact hc2); (case hk_30 => first | rfl | assumption | exact mm_101 (by assumption)); (case hv_30 => rfl)
    refine mm_icmp_ne (pc := 33) (tgt := 54) dJ0_equals_9ea2d_33 (by decide) (fun c33 => absurd rfl c33) (fun c33 => ?_)
    refine mm_aload_n (pc := 36) dJ0_equals_9ea2d_36 rfl (by first | trivial | assumption | exact mm_isr_rf _) ?_
    refine mm_get (pc := 37) (kd := ?kd_37) (fs := ?fs_37) (v := ?v_37) dJ0_equals_9ea2d_37 fl_J0_9 ?hc_37 ?hk_37 ?hv_37 ?_; (case hc_37 => exact hc); (case hk_37 => first | rfl | assumption | exact mm_101 (by assumption)); (case hv_37 => rfl)
    refine mm_aload_n (pc := 40) dJ0_equals_9ea2d_40 rfl (by first | trivial | assumption | exact mm_isr_rf _) ?_
    refine mm_get (pc := 41) (kd := ?kd_41) (fs := ?fs_41) (v := ?v_41) dJ0_equals_9ea2d_41 fl_J0_9 ?hc_41 ?hk_41 ?hv_41 ?_; (case hc_41 => exact hc2); (case hk_41 => first | rfl | assumption | exact mm_101 (by assumption)); (case hv_41 => rfl)
    refine mm_callS (pc := 44) (As := [_, _]) dJ0_equals_9ea2d_44 sl_J0_541 (ok_J1_equals hv hkv hlen hw hkw hlen2) rfl rfl (Nat.le_of_ble_eq_true rfl) ?_
    rintro _ _ ⟨rfl, rfl⟩
    refine mm_if_eq (pc := 47) (tgt := 54) dJ0_equals_9ea2d_47 (by decide) (fun c47 => ?_) (fun c47 => ?_)
    · refine mm_iconst (pc := 54) (v := 0) dJ0_equals_9ea2d_54 (by decide) ?_
      refine mm_zret (pc := 55) dJ0_equals_9ea2d_55 rfl (by rfl) ?_
      exact ⟨rfl, by rw [bI_eq0.mp c47]; rfl⟩
    · refine mm_iconst (pc := 50) (v := 1) dJ0_equals_9ea2d_50 (by decide) ?_
      refine mm_goto (pc := 51) (tgt := 55) dJ0_equals_9ea2d_51 (by decide) ?_
      refine mm_zret (pc := 55) dJ0_equals_9ea2d_55 rfl (by rfl) ?_
      exact ⟨rfl, by
        cases hz : decide (bs = cs) with
        | true => rfl
        | false => rw [hz] at c47; exact absurd rfl c47⟩
  · refine mm_iconst (pc := 5) (v := 1) dJ0_equals_9ea2d_5 (by decide) ?_
    refine mm_zret (pc := 6) dJ0_equals_9ea2d_6 rfl (by rfl) ?_
    have e1 := Value.ref.inj c2
    subst e1
    rw [hc] at hc2
    cases hc2
    rw [hv] at hw
    have e2 : bv bs = bv cs := congrArg Prod.snd (Option.some.inj hw)
    have e3 : bs = cs := (List.map_inj_right (fun x y e => Value.int.inj e)).mp e2
    exact ⟨rfl, by rw [decide_eq_true e3]; rfl⟩

