/-! texts that lie outside the reference's window -/
def sO (m : Nat) (ad : Nat → Nat) (h : mm_H) (a : Nat) (bs : List Int32) : Prop := ∃ ka kv v rest, h.1 a = some (ka, .ref v :: .int 0 :: rest) ∧ ka % 200 = 13 ∧ h.1 v = some (kv, bv bs) ∧ kv % 200 = 101 ∧ bs.length < 2 ^ 30 ∧ mw_o m ad h a ∧ mw_o m ad h v
theorem sO.t {m : Nat} {ad : Nat → Nat} {h : mm_H} {a : Nat} {bs : List Int32} (s : sO m ad h a bs) : sT h a bs := by
  obtain ⟨ka, kv, v, rest, h1, h2, h3, h4, h5, -⟩ := s
  exact ⟨ka, kv, v, rest, h1, h2, h3, h4, h5⟩
theorem sO.keep {m : Nat} {ad : Nat → Nat} {h h1 : mm_H} {M : mw_S} {a : Nat} {bs : List Int32} (s : sO m ad h a bs) (hW : mw_W m ad h M h1) : sO m ad h1 a bs := by
  obtain ⟨ka, kv, v, rest, c1, c2, c3, c4, c5, ⟨o1, o2, o3⟩, p1, p2, p3⟩ := s
  have hle := hW.2.2.2.2.2.1
  exact ⟨ka, kv, v, rest, (hW.2.2.2.2.1 a o1 o2 o3).trans c1, c2, (hW.2.2.2.2.1 v p1 p2 p3).trans c3, c4, c5, ⟨o1, o2, by omega⟩, p1, p2, by omega⟩
theorem sO.ext {m : Nat} {ad : Nat → Nat} {h h1 : mm_H} {a : Nat} {bs : List Int32} (s : sO m ad h a bs) (he : ext h h1) : sO m ad h1 a bs := by
  obtain ⟨ka, kv, v, rest, c1, c2, c3, c4, c5, ⟨o1, o2, o3⟩, p1, p2, p3⟩ := s
  have hle := he.1
  exact ⟨ka, kv, v, rest, (he.2.2 a o3).trans c1, c2, (he.2.2 v p3).trans c3, c4, c5, ⟨o1, o2, by omega⟩, p1, p2, by omega⟩
theorem sO.new {m : Nat} {ad : Nat → Nat} {h0 h h1 : mm_H} {M : mw_S} {a : Nat} {bs : List Int32} (hW : mw_W m ad h0 M h) (hs : sN h1 a bs h.2.1) (hl : bs.length < 2 ^ 30) : sO m ad h1 a bs := by
  obtain ⟨v, c1, c2, c3, c4, c5, c6⟩ := hs
  obtain ⟨w1, w2, w3, w4, w5, w6, w7, w8, w9, w10⟩ := hW
  have e : ∀ b, h.2.1 ≤ b → b < h1.2.1 → mw_o m ad h1 b := fun b h2 h3 => ⟨by omega, fun j hj hk z => by have := w9 j hj hk; omega, h3⟩
  exact ⟨13, 101, v, _, c1, rfl, c2, rfl, hl, e a c3 c5, e v c4 c6⟩
theorem LT.re {G : mm_G} {m : Nat} {ad : Nat → Nat} {h0 h : mm_H} {M : mw_S} (hL : LT G m ad h0) (hW : mw_W m ad h0 M h) : LT G m ad h := by
  intro i bs hi
  obtain ⟨v, h1, h2, ⟨o1, o2, o3⟩, p1, p2, p3⟩ := hL i bs hi
  have hle := hW.2.2.2.2.2.1
  exact ⟨v, (hW.2.2.2.2.1 _ o1 o2 o3).trans h1, (hW.2.2.2.2.1 _ p1 p2 p3).trans h2, ⟨o1, o2, by omega⟩, p1, p2, by omega⟩
/-- the first nn texts of row j are names, spelled as row g says -/
def nmT (m : Nat) (ad : Nat → Nat) (h : mm_H) (M : mw_S) (j g nn : Nat) : Prop := ∀ i, i < nn → ∃ a bs, M.2.2.2.2 j i = some a ∧ sO m ad h a (bs.map nI) ∧ ltr bs ∧ M.2.2.2.1 g i = spL bs
theorem nmT.keep {m : Nat} {ad : Nat → Nat} {h h1 : mm_H} {M M1 : mw_S} {j g nn : Nat} (s : nmT m ad h M j g nn) (hW : mw_W m ad h M1 h1) : nmT m ad h1 M j g nn := by
  intro i hi
  obtain ⟨a, bs, c1, c2, c3⟩ := s i hi
  exact ⟨a, bs, c1, c2.keep hW, c3⟩
theorem nmT.ext {m : Nat} {ad : Nat → Nat} {h h1 : mm_H} {M : mw_S} {j g nn : Nat} (s : nmT m ad h M j g nn) (he : ext h h1) : nmT m ad h1 M j g nn := by
  intro i hi
  obtain ⟨a, bs, c1, c2, c3⟩ := s i hi
  exact ⟨a, bs, c1, c2.ext he, c3⟩
theorem nmT.same {m : Nat} {ad : Nat → Nat} {h : mm_H} {M M1 : mw_S} {j g nn : Nat} (s : nmT m ad h M j g nn) (h1 : ∀ i, i < nn → M1.2.2.2.2 j i = M.2.2.2.2 j i) (h2 : ∀ i, i < nn → M1.2.2.2.1 g i = M.2.2.2.1 g i) : nmT m ad h M1 j g nn := by
  intro i hi
  obtain ⟨a, bs, c1, c2, c3, c4⟩ := s i hi
  exact ⟨a, bs, (h1 i hi).trans c1, c2, c3, (h2 i hi).trans c4⟩
theorem ltr.asc {bs : List Nat} (h : ltr bs) : ∀ c ∈ bs, c < 128 := fun c hc => by have := h.1 c hc; omega
theorem ltr_dec {bs cs : List Nat} (h1 : ltr bs) (h2 : ltr cs) : decide (bs.map nI = cs.map nI) = decide (spL bs = spL cs) := by
  rw [decide_eq_decide, map_nI_inj h1.asc h2.asc, spL_inj h1 h2]

theorem ok_kindOf {G : mm_G} {L : Nat × Nat} {d : Nat} {h0 h : mm_H} {m : Nat} {ad : Nat → Nat} {M : mw_S} {s k : Nat} {bs : List Nat} (hN : nmT m ad h M 4 100 k) (hs : sT h s (bs.map nI)) (hb : ltr bs) (hk : k ≤ 50) (hW : mw_W m ad h0 M h) : mm_Ok G mX12_kindOf L (d + 2) [.ref m, .ref s, .int (nI k)] h (fun r h1 => h1 = h ∧ r = some (.int (oI (kfi (M.2.2.2.1 100) (spL bs) k)))) := by
  refine mm_Ok.of [(0, .ref m), (1, .ref s), (2, .int (nI k))] rfl kX12_kindOf.2.2.2.2.2 rfl (fun A => ?_)
  have lp_ : ∀ (v i : Nat), i + v = k → kfA (M.2.2.2.1 100) (spL bs) v i = kfi (M.2.2.2.1 100) (spL bs) k → mm_Run G mX12_kindOf A L (d + 2) 2 [(3, .int (nI i)), (0, .ref m), (1, .ref s), (2, .int (nI k))] [] h (fun r h1 => h1 = h ∧ r = some (.int (oI (kfi (M.2.2.2.1 100) (spL bs) k)))) := by
    intro v
    induction v with
    | zero =>
      intro i hi he
      refine mm_iload_n (pc := 2) dX12_kindOf_2 rfl ?_
      refine mm_iload_n (pc := 3) dX12_kindOf_3 rfl ?_
      refine mm_icmp_ge (pc := 4) (tgt := 28) dX12_kindOf_4 (by decide) (fun c4 => ?_) (fun c4 => absurd (by rw [show i = k by omega]; exact Int32.le_refl _) c4)
      refine mm_iconst (pc := 28) (v := (-1)) dX12_kindOf_28 (by decide) ?_
      refine mm_iret (pc := 29) dX12_kindOf_29 rfl ?_
      exact ⟨rfl, by rw [← he]; rfl⟩
    | succ v ih =>
      intro i hi he
      obtain ⟨a_, bs_, hu, so, hl_, hw_⟩ := hN i (by omega)
      obtain ⟨ka, kv, v_, rest, hca, hka, -⟩ := id so
      refine mm_iload_n (pc := 2) dX12_kindOf_2 rfl ?_
      refine mm_iload_n (pc := 3) dX12_kindOf_3 rfl ?_
      refine mm_icmp_ge (pc := 4) (tgt := 28) dX12_kindOf_4 (by decide) (fun c4 => absurd c4 (nI_ge (by omega) (by omega))) (fun c4 => ?_)
      refine mm_aload_n (pc := 7) dX12_kindOf_7 rfl (by first | trivial | assumption | exact mm_isr_rf _) ?_
      refine mw_geta (pc := 8) 4 hW dX12_kindOf_8 fl_X12_19 rfl rfl ?_
      refine mm_iload_n (pc := 11) dX12_kindOf_11 rfl ?_
      refine mw_aald (pc := 12) 4 i hW dX12_kindOf_12 rfl rfl (by first | with_reducible rfl | assumption | rfl) (by show _ < 50; omega) (by omega) ?_
      rw [hu]
      show mm_Run _ _ _ _ _ _ _ (.ref a_ :: _) _ _
      refine mm_aload_n (pc := 13) dX12_kindOf_13 rfl (by first | trivial | assumption | exact mm_isr_rf _) ?_
      refine mm_callV (pc := 14) (As := [_]) (kd := ?kd_14_1) (fs := ?fs_14_1) dX12_kindOf_14 vl_X12_296 (ok_equals so.t hs) ?hc_14_1 ?hk_14_1 rfl rfl (Nat.le_of_ble_eq_true rfl) ?_; (case hc_14_1 => exact hca); (case hk_14_1 => exact hka)
      rintro _ _ ⟨rfl, rfl⟩
      rw [ltr_dec hl_ hb]
      refine mm_if_eq (pc := 17) (tgt := 22) dX12_kindOf_17 (by decide) (fun c17 => ?_) (fun c17 => ?_)
      · have nq := bI_d.mp c17
        refine mm_iinc (pc := 22) dX12_kindOf_22 rfl rfl rfl (Nat.le_of_ble_eq_true rfl) ?_
        refine mm_goto (pc := 25) (tgt := 2) dX12_kindOf_25 (by decide) ?_
        exact mm_weakK (ih (i + 1) (by omega) (by rw [← he]; show _ = (if M.2.2.2.1 100 i = spL bs then some i else _); rw [if_neg (by rw [hw_]; exact nq)])) (And.intro (by rw [← nI_1]; rfl) (And.intro rfl (And.intro rfl (And.intro rfl trivial))))
      · have yq := bI_n c17
        refine mm_iload_n (pc := 20) dX12_kindOf_20 rfl ?_
        refine mm_iret (pc := 21) dX12_kindOf_21 rfl ?_
        exact ⟨rfl, by rw [← he]; show _ = some (Value.int (oI (if M.2.2.2.1 100 i = spL bs then some i else _))); rw [if_pos (by rw [hw_]; exact yq)]; rfl⟩
  refine mm_iconst (pc := 0) (v := 0) dX12_kindOf_0 (by decide) ?_
  refine mm_istore_n (pc := 1) dX12_kindOf_1 rfl (Nat.le_of_ble_eq_true rfl) ?_
  exact mm_weakK (lp_ k 0 (by omega) rfl) (And.intro rfl (And.intro rfl (And.intro rfl (And.intro rfl trivial))))

theorem ok_with {G : mm_G} {L : Nat × Nat} {d : Nat} {h0 h : mm_H} {m : Nat} {ad : Nat → Nat} {M : mw_S} {s np : Nat} {bs : List Nat} (hN : nmT m ad h M 20 101 np) (hs : sT h s (bs.map nI)) (hb : ltr bs) (hs19 : M.1 19 = nI np) (hk : np ≤ 12) (hL : LT G m ad h0) (hW : mw_W m ad h0 M h) : mm_Ok G mX12_with L (d + 2) [.ref m, .ref s] h (fun r h1 => mw_W m ad h0 (rm_with M np (spL bs)) h1 ∧ h1.2 = h.2 ∧ r = none) := by
  refine mm_Ok.of [(0, .ref m), (1, .ref s)] rfl kX12_with.2.2.2.2.2 rfl (fun A => ?_)
  obtain ⟨ka, kv, v_, rest, hca, hka, -⟩ := id hs
  have lp_ : ¬ spL bs = spL [104, 111, 117, 115, 101] → ∀ (v : Nat), v ≤ np → klA (M.2.2.2.1 101) (spL bs) v = klA (M.2.2.2.1 101) (spL bs) np → mm_Run G mX12_with A L (d + 2) 23 [(2, .int (nI v - 1)), (0, .ref m), (1, .ref s)] [] h (fun r h1 => mw_W m ad h0 (rm_with M np (spL bs)) h1 ∧ h1.2 = h.2 ∧ r = none) := by
    intro hh v
    induction v with
    | zero =>
      intro hi he
      refine mm_iload_n (pc := 23) dX12_with_23 rfl ?_
      refine mm_if_lt (pc := 24) (tgt := 57) dX12_with_24 (by decide) (fun c24 => ?_) (fun c24 => absurd (show nI 0 - 1 < 0 by decide) c24)
      refine mm_aload_n (pc := 57) dX12_with_57 rfl (by first | trivial | assumption | exact mm_isr_rf _) ?_
      refine mm_iconst (pc := 58) (v := 2) dX12_with_58 (by decide) ?_
      refine mm_aload_n (pc := 59) dX12_with_59 rfl (by first | trivial | assumption | exact mm_isr_rf _) ?_
      refine mw_gets (pc := 60) 27 hW dX12_with_60 fl_X12_212 rfl rfl ?_
      refine mm_callV (pc := 63) (As := [_, _]) (kd := ?kd_63_2) (fs := ?fs_63_2) dX12_with_63 vl_X12_333 (ok_X12_faulty hW) ?hc_63_2 ?hk_63_2 rfl rfl (Nat.le_of_ble_eq_true rfl) ?_; (case hc_63_2 => exact hW.1); (case hk_63_2 => rfl)
      rintro _ h63 ⟨hW, e63, rfl⟩
      refine mm_vret (pc := 66) dX12_with_66 rfl ?_
      unfold rm_with
      rw [if_neg hh, ← he]
      exact ⟨hW, e63, rfl⟩
    | succ v ih =>
      intro hi he
      obtain ⟨a_, bs_, hu, so, hl_, hw_⟩ := hN v (by omega)
      obtain ⟨ka, kv, v_, rest, hca, hka, -⟩ := id so
      refine mm_iload_n (pc := 23) dX12_with_23 rfl ?_
      refine mm_if_lt (pc := 24) (tgt := 57) dX12_with_24 (by decide) (fun c24 => absurd c24 (by rw [nI_pred]; exact nI_pos (by omega))) (fun c24 => ?_)
      refine mm_aload_n (pc := 27) dX12_with_27 rfl (by first | trivial | assumption | exact mm_isr_rf _) ?_
      refine mw_geta (pc := 28) 20 hW dX12_with_28 fl_X12_63 rfl rfl ?_
      refine mm_iload_n (pc := 31) dX12_with_31 rfl ?_
      refine mw_aald (pc := 32) 20 v hW dX12_with_32 rfl rfl (nI_pred v) (by show _ < 12; omega) (by omega) ?_
      rw [hu]
      show mm_Run _ _ _ _ _ _ _ (.ref a_ :: _) _ _
      refine mm_aload_n (pc := 33) dX12_with_33 rfl (by first | trivial | assumption | exact mm_isr_rf _) ?_
      refine mm_callV (pc := 34) (As := [_]) (kd := ?kd_34_3) (fs := ?fs_34_3) dX12_with_34 vl_X12_296 (ok_equals so.t hs) ?hc_34_3 ?hk_34_3 rfl rfl (Nat.le_of_ble_eq_true rfl) ?_; (case hc_34_3 => exact hca); (case hk_34_3 => exact hka)
      rintro _ _ ⟨rfl, rfl⟩
      rw [ltr_dec hl_ hb]
      refine mm_if_eq (pc := 37) (tgt := 51) dX12_with_37 (by decide) (fun c37 => ?_) (fun c37 => ?_)
      · have nq := bI_d.mp c37
        refine mm_iinc (pc := 51) dX12_with_51 rfl rfl rfl (Nat.le_of_ble_eq_true rfl) ?_
        refine mm_goto (pc := 54) (tgt := 23) dX12_with_54 (by decide) ?_
        exact mm_weakK (ih (by omega) (by rw [← he]; show _ = (if M.2.2.2.1 101 v = spL bs then some v else _); rw [if_neg (by rw [hw_]; exact nq)])) (And.intro (congrArg (fun z : Int32 => some (Value.int z)) (show nI (v + 1) - 1 + -1 = nI v - 1 by rw [nI_pred, Int32.sub_eq_add_neg])) (And.intro rfl (And.intro rfl trivial)))
      · have yq := bI_n c37
        refine mm_aload_n (pc := 40) dX12_with_40 rfl (by first | trivial | assumption | exact mm_isr_rf _) ?_
        refine mm_aload_n (pc := 41) dX12_with_41 rfl (by first | trivial | assumption | exact mm_isr_rf _) ?_
        refine mw_geta (pc := 42) 21 hW dX12_with_42 fl_X12_66 rfl rfl ?_
        refine mm_iload_n (pc := 45) dX12_with_45 rfl ?_
        refine mw_iald (pc := 46) 21 v hW dX12_with_46 rfl rfl (nI_pred v) (by show _ < 12; omega) (by omega) ?_
        refine mw_put (pc := 47) 34 hW dX12_with_47 (pl_X12_313 _) rfl (fun h47 hW e47 => ?_)
        refine mm_vret (pc := 50) dX12_with_50 rfl ?_
        unfold rm_with
        rw [if_neg hh, ← he, show klA (M.2.2.2.1 101) (spL bs) (v + 1) = (if M.2.2.2.1 101 v = spL bs then some v else _) from rfl, if_pos (by rw [hw_]; exact yq)]
        exact ⟨hW, e47, rfl⟩
  refine mm_aload_n (pc := 0) dX12_with_0 rfl (by first | trivial | assumption | exact mm_isr_rf _) ?_
  refine mm_ldcSw (pc := 1) (i := 14) dX12_with_1 rfl ?_
  refine mm_callV (pc := 4) (As := [_]) (kd := ?kd_4_4) (fs := ?fs_4_4) dX12_with_4 vl_X12_296 (ok_equals hs (hL.at hW (i := 14) (bs := [104, 111, 117, 115, 101].map nI) (by decide +kernel))) ?hc_4_4 ?hk_4_4 rfl rfl (Nat.le_of_ble_eq_true rfl) ?_; (case hc_4_4 => exact hca); (case hk_4_4 => exact hka)
  rintro _ _ ⟨rfl, rfl⟩
  rw [ltr_dec hb (show ltr [104, 111, 117, 115, 101] from ⟨by decide, by decide⟩)]
  refine mm_if_eq (pc := 7) (tgt := 16) dX12_with_7 (by decide) (fun c7 => ?_) (fun c7 => ?_)
  · have hh := bI_d.mp c7
    refine mm_aload_n (pc := 16) dX12_with_16 rfl (by first | trivial | assumption | exact mm_isr_rf _) ?_
    refine mw_gets (pc := 17) 19 hW dX12_with_17 fl_X12_330 rfl rfl ?_
    refine mm_iconst (pc := 20) (v := 1) dX12_with_20 (by decide) ?_
    refine mm_isub (pc := 21) dX12_with_21 ?_
    refine mm_istore_n (pc := 22) dX12_with_22 rfl (Nat.le_of_ble_eq_true rfl) ?_
    exact mm_weakK (lp_ hh np (Nat.le_refl _) rfl) (And.intro (by rw [hs19]; rfl) (And.intro rfl (And.intro rfl trivial)))
  · have hy := bI_n c7
    refine mm_aload_n (pc := 10) dX12_with_10 rfl (by first | trivial | assumption | exact mm_isr_rf _) ?_
    refine mm_iconst (pc := 11) (v := 0) dX12_with_11 (by decide) ?_
    refine mw_put (pc := 12) 34 hW dX12_with_12 (pl_X12_313 _) rfl (fun h12 hW e12 => ?_)
    refine mm_vret (pc := 15) dX12_with_15 rfl ?_
    unfold rm_with
    rw [if_pos hy]
    exact ⟨hW, e12, rfl⟩

