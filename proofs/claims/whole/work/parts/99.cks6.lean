/-! the registry -/
theorem lc0 {a b : Int64} : lg_cmp a b = 0 ↔ a = b := by
  unfold lg_cmp
  constructor
  · intro h
    split at h
    · exact absurd h (by decide)
    · split at h
      · assumption
      · exact absurd h (by decide)
  · intro h
    rw [if_neg (fun z => by rw [h] at z; exact absurd z (Int64.lt_irrefl)), if_pos h]
/-- a pack that is known -/
def pkK (ad : Nat → Nat → Nat) (C : cw_C) (M : mw_S) (p : Nat) : Prop := cR C 19 0 p = some (ad 5 p) ∧ cL C 5 p 0 = M.2.2.2.1 101 p ∧ cI C 5 p 4 = M.2.2.1 21 p ∧ cI C 5 p 5 = M.2.2.1 22 p
def rgR (ad : Nat → Nat → Nat) (C : cw_C) (M : mw_S) (nk np : Nat) : Prop := (0 < cN C 7 ∧ 0 < cN C 18 ∧ 0 < cN C 19 ∧ nk ≤ cN C 4 ∧ np ≤ cN C 5) ∧ (nk ≤ 40 ∧ np ≤ 12) ∧ cR C 7 0 0 = some (ad 18 0) ∧ cI C 7 0 1 = nI nk ∧ cR C 7 0 2 = some (ad 19 0) ∧ cI C 7 0 3 = nI np ∧ cI C 7 0 4 + 1 = M.1 23 ∧ (∀ i, i < nk → cR C 18 0 i = some (ad 4 i) ∧ cL C 4 i 0 = M.2.2.2.1 100 i) ∧ ∀ p, p < np → pkK ad C M p
theorem kfA_st {f : Nat → Int64} {w : Int64} {v i : Nat} : kfA f w (v + 1) i = if f i = w then some i else kfA f w v (i + 1) := rfl

theorem kn_loop {G : mm_G} {L : Nat × Nat} {d : Nat} {h h0 : mm_H} {A : Nat → Prop} {ad : Nat → Nat → Nat} {C : cw_C} {M : mw_S} {nk np : Nat} {w : Int64} (hR : rgR ad C M nk np) (hC : cw ad h0 C h) : ∀ (v i : Nat), i + v = nk → kfi (M.2.2.2.1 100) w nk = kfA (M.2.2.2.1 100) w v i → mm_Run G mX7_kindNamed A L d 2 [(0, .ref (ad 7 0)), (1, .long w), (3, .int (nI i))] [] h (fun r h1 => h1 = h ∧ r = some (va_rf ((kfi (M.2.2.2.1 100) w nk).map (ad 4)))) := by
  obtain ⟨⟨n7, n18, n19, h4, h5⟩, ⟨hk40, hp12⟩, r0, r1, r2, r3, r4, hK, hP⟩ := hR
  intro v
  induction v using Nat.strongRecOn with
  | _ v ih =>
    intro i hv hz
    refine mm_iload_n (pc := 2) dX7_kindNamed_2 rfl ?_
    refine mm_aload_n (pc := 3) dX7_kindNamed_3 rfl (by first | trivial | assumption | exact mm_isr_rf _) ?_
    refine cw_gi (pc := 4) 7 _ 1 hC (rfl) rfl (n7) dX7_kindNamed_4 fl_X7_17 rfl rfl rfl ?_
    refine mm_topi _ r1 ?_
    refine mm_icmp_ge (pc := 7) (tgt := 46) dX7_kindNamed_7 (by decide) (fun c7 => ?_) (fun c7 => ?_)
    · have hi : i = nk := by have := (nI_leI (by omega) (by omega)).mp c7; omega
      refine mm_null (pc := 46) dX7_kindNamed_46 ?_
      refine mm_aret (pc := 47) dX7_kindNamed_47 rfl (Or.inl ⟨_, rfl⟩) (by first | trivial | assumption | exact mm_isr_rf _) ?_
      exact ⟨rfl, by rw [hz, show v = 0 by omega]; rfl⟩
    · have hi : i < nk := Nat.not_le.mp (fun z => c7 (nI_le z (by omega)))
      refine mm_iload_n (pc := 10) dX7_kindNamed_10 rfl ?_
      refine mm_aload_n (pc := 11) dX7_kindNamed_11 rfl (by first | trivial | assumption | exact mm_isr_rf _) ?_
      refine cw_grS (pc := 12) 7 _ 0 hC (rfl) rfl (n7) dX7_kindNamed_12 fl_X7_11 rfl rfl rfl (r0) ?_
      refine cw_alen (pc := 15) 18 _ hC (rfl) rfl (n18) dX7_kindNamed_15 rfl rfl ?_
      refine mm_icmp_ge (pc := 16) (tgt := 46) dX7_kindNamed_16 (by decide) (fun c16 => absurd c16 (nI_ge (b := (40 : Nat)) (by omega) (by decide))) (fun c16 => ?_)
      refine mm_aload_n (pc := 19) dX7_kindNamed_19 rfl (by first | trivial | assumption | exact mm_isr_rf _) ?_
      refine cw_grS (pc := 20) 7 _ 0 hC (rfl) rfl (n7) dX7_kindNamed_20 fl_X7_11 rfl rfl rfl (r0) ?_
      refine mm_iload_n (pc := 23) dX7_kindNamed_23 rfl ?_
      refine cw_aald (pc := 24) (v := (.ref (ad 4 i))) 18 0 i hC (rfl) rfl (n18) dX7_kindNamed_24 rfl rfl rfl (by first | with_reducible rfl | assumption | rfl) (by show i < 40; omega) (by omega) rfl (by rw [(hK i hi).1]; rfl) ?_
      refine cw_gl (pc := 25) 4 i 0 hC (rfl) rfl ((by omega)) dX7_kindNamed_25 fl_X7_33 rfl rfl rfl ?_
      refine mm_lload_n (pc := 28) dX7_kindNamed_28 rfl ?_
      refine mm_lcmp (pc := 29) dX7_kindNamed_29 ?_
      refine mm_if_ne (pc := 30) (tgt := 40) dX7_kindNamed_30 (by decide) (fun c30 => ?_) (fun c30 => ?_)
      · have hne : ¬ M.2.2.2.1 100 i = w := fun z => c30 (lc0.mpr ((hK i hi).2.trans z))
        refine mm_iinc (pc := 40) dX7_kindNamed_40 rfl rfl rfl (Nat.le_of_ble_eq_true rfl) ?_
        refine mm_goto (pc := 43) (tgt := 2) dX7_kindNamed_43 (by decide) ?_
        obtain ⟨v, rfl⟩ : ∃ x, v = x + 1 := ⟨v - 1, by omega⟩
        exact mm_weakK (ih v (by omega) (i + 1) (by omega) (by rw [hz, kfA_st, if_neg hne])) (And.intro rfl (And.intro rfl (And.intro (congrArg (fun z => some (Value.int z)) (nI_add i 1)) trivial)))
      · have he : M.2.2.2.1 100 i = w := by rw [← (hK i hi).2]; exact lc0.mp c30
        refine mm_aload_n (pc := 33) dX7_kindNamed_33 rfl (by first | trivial | assumption | exact mm_isr_rf _) ?_
        refine cw_grS (pc := 34) 7 _ 0 hC (rfl) rfl (n7) dX7_kindNamed_34 fl_X7_11 rfl rfl rfl (r0) ?_
        refine mm_iload_n (pc := 37) dX7_kindNamed_37 rfl ?_
        refine cw_aald (pc := 38) (v := (.ref (ad 4 i))) 18 0 i hC (rfl) rfl (n18) dX7_kindNamed_38 rfl rfl rfl (by first | with_reducible rfl | assumption | rfl) (by show i < 40; omega) (by omega) rfl (by rw [(hK i hi).1]; rfl) ?_
        refine mm_aret (pc := 39) dX7_kindNamed_39 rfl (Or.inl ⟨_, rfl⟩) (by first | trivial | assumption | exact mm_isr_rf _) ?_
        exact ⟨rfl, by obtain ⟨v, rfl⟩ : ∃ x, v = x + 1 := ⟨v - 1, by omega⟩; rw [hz, kfA_st, if_pos he]; rfl⟩

theorem kn_ok {G : mm_G} {L : Nat × Nat} {d : Nat} {h : mm_H} {h0 : mm_H} {ad : Nat → Nat → Nat} {C : cw_C} {M : mw_S} {nk np : Nat} {w : Int64} (hR : rgR ad C M nk np) (hC : cw ad h0 C h) : mm_Ok G mX7_kindNamed L (d) [.ref (ad 7 0), .long w] h (fun r h1 => h1 = h ∧ r = some (va_rf ((kfi (M.2.2.2.1 100) w nk).map (ad 4)))) := by
  refine mm_Ok.of [(0, .ref (ad 7 0)), (1, .long w)] rfl kX7_kindNamed.2.2.2.2.2 rfl (fun A => ?_)
  refine mm_iconst (pc := 0) (v := 0) dX7_kindNamed_0 (by decide) ?_
  refine mm_istore_n (pc := 1) dX7_kindNamed_1 rfl (Nat.le_of_ble_eq_true rfl) ?_
  exact mm_weakK (kn_loop hR hC nk 0 (by omega) rfl) (And.intro rfl (And.intro rfl (And.intro rfl trivial)))

theorem nI_sp : ∀ c, 97 ≤ c → c ≤ 122 → (nI c - 97 + 1).toInt64 = Int64.ofNat (c - 96) := by
  intro c h1 h2
  have : ∀ c, c < 123 → 97 ≤ c → (nI c - 97 + 1).toInt64 = Int64.ofNat (c - 96) := by decide +kernel
  exact this c (by omega) h1
theorem sp_loop {G : mm_G} {L : Nat × Nat} {d : Nat} {h : mm_H} {A : Nat → Prop} {sa : Nat} {cs : List Nat} (hs : sT h sa (cs.map nI)) (hl : ltr cs) : ∀ (v i : Nat), i + v = cs.length → mm_Run G mX11_spell A L (d + 4) 4 [(0, .ref sa), (1, .long (spL (cs.take i))), (3, .int (nI i))] [] h (fun r h1 => h1 = h ∧ r = some (.long (spL cs))) := by
  obtain ⟨ka, kv, v_, rest, hsc, hk0, hv_, hkv, hlen⟩ := id hs
  have h8 := hl.2
  intro v
  induction v with
  | zero =>
    intro i hv
    refine mm_iload_n (pc := 4) dX11_spell_4 rfl ?_
    refine mm_aload_n (pc := 5) dX11_spell_5 rfl (by first | trivial | assumption | exact mm_isr_rf _) ?_
    refine mm_callV (pc := 6) (As := []) (kd := ?kd_6_1) (fs := ?fs_6_1) dX11_spell_6 vl_X11_301 (ok_length hs) ?hc_6_1 ?hk_6_1 rfl rfl (Nat.le_of_ble_eq_true rfl) ?_; (case hc_6_1 => exact hsc); (case hk_6_1 => exact hk0)
    rintro _ _ ⟨rfl, rfl⟩
    refine mm_icmp_ge (pc := 9) (tgt := 28) dX11_spell_9 (by decide) (fun c9 => ?_) (fun c9 => absurd (by rw [List.length_map]; exact nI_le (by omega) (by omega)) c9)
    refine mm_lload_n (pc := 28) dX11_spell_28 rfl ?_
    refine mm_lret (pc := 29) dX11_spell_29 rfl ?_
    exact ⟨rfl, by rw [show i = cs.length by omega, List.take_length]⟩
  | succ v ih =>
    intro i hv
    refine mm_iload_n (pc := 4) dX11_spell_4 rfl ?_
    refine mm_aload_n (pc := 5) dX11_spell_5 rfl (by first | trivial | assumption | exact mm_isr_rf _) ?_
    refine mm_callV (pc := 6) (As := []) (kd := ?kd_6_2) (fs := ?fs_6_2) dX11_spell_6 vl_X11_301 (ok_length hs) ?hc_6_2 ?hk_6_2 rfl rfl (Nat.le_of_ble_eq_true rfl) ?_; (case hc_6_2 => exact hsc); (case hk_6_2 => exact hk0)
    rintro _ _ ⟨rfl, rfl⟩
    refine mm_icmp_ge (pc := 9) (tgt := 28) dX11_spell_9 (by decide) (fun c9 => ?_) (fun c9 => ?_)
    · have hi : i = cs.length := by have := (nI_leI (by rw [List.length_map]; omega) (by omega)).mp c9; rw [List.length_map] at this; omega
      refine mm_lload_n (pc := 28) dX11_spell_28 rfl ?_
      refine mm_lret (pc := 29) dX11_spell_29 rfl ?_
      exact ⟨rfl, by rw [hi, List.take_length]⟩
    · have hi : i < cs.length := Nat.not_le.mp (fun z => c9 (by rw [List.length_map]; exact nI_le z (by omega)))
      have hg : cs[i]? = some (cs.getD i 0) := by rw [List.getD_eq_getElem?_getD, List.getElem?_eq_getElem hi]; rfl
      have hb : (cs.map nI)[i]? = some (nI (cs.getD i 0)) := by rw [List.getElem?_map, hg]; rfl
      have hc := hl.1 (cs.getD i 0) (List.mem_of_getElem? hg)
      refine mm_lload_n (pc := 12) dX11_spell_12 rfl ?_
      refine mm_aload_n (pc := 13) dX11_spell_13 rfl (by first | trivial | assumption | exact mm_isr_rf _) ?_
      refine mm_iload_n (pc := 14) dX11_spell_14 rfl ?_
      refine mm_callV (pc := 15) (As := [_]) (kd := ?kd_15_3) (fs := ?fs_15_3) dX11_spell_15 vl_X11_306 (ok_charAt hs (i := i) (b := nI (cs.getD i 0)) hb (asc_nI (by omega))) ?hc_15_3 ?hk_15_3 rfl rfl (Nat.le_of_ble_eq_true rfl) ?_; (case hc_15_3 => exact hsc); (case hk_15_3 => exact hk0)
      rintro _ _ ⟨rfl, rfl⟩
      refine mm_callS (pc := 18) (As := [_, _]) dX11_spell_18 sl_X11_310 (ok_X11_spelledOn) rfl rfl (Nat.le_of_ble_eq_true rfl) ?_
      rintro _ _ ⟨rfl, rfl⟩
      refine mm_lstore_n (pc := 21) dX11_spell_21 rfl rfl (Nat.le_of_ble_eq_true rfl) ?_
      refine mm_iinc (pc := 22) dX11_spell_22 rfl rfl rfl (Nat.le_of_ble_eq_true rfl) ?_
      refine mm_goto (pc := 25) (tgt := 4) dX11_spell_25 (by decide) ?_
      have ht : cs.take (i + 1) = cs.take i ++ [cs.getD i 0] := by rw [List.take_succ, hg]; rfl
      have hsp : spL (cs.take i) * 32 + (nI (cs.getD i 0) - 97 + 1).toInt64 = spL (cs.take (i + 1)) := by
        rw [ht]
        unfold spL
        rw [spN_app, Int64.ofNat_add, Int64.ofNat_mul, Int64.mul_comm, nI_sp _ hc.1 hc.2]
        rfl
      exact mm_weakK (ih (i + 1) (by omega)) (And.intro rfl (And.intro (congrArg (fun z => some (Value.long z)) hsp) (And.intro (congrArg (fun z => some (Value.int z)) (nI_add i 1)) trivial)))

theorem sp_ok {G : mm_G} {L : Nat × Nat} {d : Nat} {h : mm_H} {sa : Nat} {cs : List Nat} (hs : sT h sa (cs.map nI)) (hl : ltr cs) : mm_Ok G mX11_spell L (d + 4) [.ref sa] h (fun r h1 => h1 = h ∧ r = some (.long (spL cs))) := by
  refine mm_Ok.of [(0, .ref sa)] rfl kX11_spell.2.2.2.2.2 rfl (fun A => ?_)
  refine mm_lconst (pc := 0) (v := 0) dX11_spell_0 (by decide) ?_
  refine mm_lstore_n (pc := 1) dX11_spell_1 rfl rfl (Nat.le_of_ble_eq_true rfl) ?_
  refine mm_iconst (pc := 2) (v := 0) dX11_spell_2 (by decide) ?_
  refine mm_istore_n (pc := 3) dX11_spell_3 rfl (Nat.le_of_ble_eq_true rfl) ?_
  exact mm_weakK (sp_loop hs hl cs.length 0 (by omega)) (And.intro rfl (And.intro rfl (And.intro rfl trivial)))

