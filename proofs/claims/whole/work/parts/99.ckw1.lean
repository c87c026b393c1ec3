/-! the registry: a pack more -/
theorem MinF.same {P : Nat → Nat → Prop} {a b : fp_T} (h : MinF P a) (h' : MinF P b) : (a.1 = 0 ∧ b.1 = 0) ∨ (¬ a.1 = 0 ∧ a = b) := by
  rcases h with ⟨h1, h2⟩ | ⟨p, f, rfl, a1, a2, a3, a4, a5⟩
  · rcases h' with ⟨k1, -⟩ | ⟨p, f, -, -, -, -, k, -⟩
    · exact Or.inl ⟨h1, k1⟩
    · exact absurd k (h2 p f)
  · rcases h' with ⟨-, k2⟩ | ⟨p', f', rfl, b1, b2, b3, b4, b5⟩
    · exact absurd a4 (k2 p f)
    · obtain ⟨e1, e2⟩ := MinF.uniq a4 b4 a5 b5 a2 b2
      refine Or.inr ⟨fun z => ?_, by rw [e1, e2]⟩
      have := (nI_eq (b := 0) (by omega) (by decide)).mp z
      omega
/-- the fault of the package that is joined comes first -/
theorem cls_FW {tb : Nat → Nat} {n nk np a0 g0 kc t p0 p : Nat} {M : mw_S} {ab : Nat → Option Nat} (hR : RI tb n nk np a0 g0 kc kc M t) (hI : pI tb n a0 M t) (hk : kc ≤ 50) (hZ : ZL p0 nk kc M) (hab : ∀ i, nk ≤ i → i < kc → ab i = kfi (M.2.2.2.1 100) (M.2.2.2.1 103 i) i) (hw : FW M np p 2) (hp : p < p0) (hp2 : p < 2 ^ 31) : MinF (FF M ab nk np g0 a0 kc) (2, nI p) := by
  refine Or.inr ⟨p, 2, rfl, by decide, by decide, hp2, (FF_iff hR hI hk hab).mpr (Or.inl ⟨hp2, hw⟩), fun p' f' h' => ?_⟩
  rcases (FF_iff hR hI hk hab).mp h' with ⟨b, z⟩ | ⟨i, i1, i2, z⟩
  · refine Or.inr ⟨(nI_eq hp2 b).mp (hw.2.2.symm.trans z.2.2), by rw [z.1]; exact Nat.le_refl _⟩
  · have a := (z.pl hR hZ i1 i2).1
    have c := hZ.1 i i1 i2
    exact Or.inl (by omega)

theorem hr_ok {G : mm_G} {L : Nat × Nat} {d : Nat} {h : mm_H} {h0 : mm_H} {ad : Nat → Nat → Nat} {C : cw_C} {M : mw_S} {nk np nn p : Nat} (hR : rgR ad C M nk np) (hD : pkD ad C p nn) (hnn : nn ≤ 10) (hC : cw ad h0 C h) : mm_Ok G mX7_hasRoomFor L (d) [.ref (ad 7 0), .ref (ad 5 p)] h (fun r h1 => h1 = h ∧ r = some (.int (bI (decide (np < 12 ∧ nk + nn ≤ 40))))) := by
  refine mm_Ok.of [(0, .ref (ad 7 0)), (1, .ref (ad 5 p))] rfl kX7_hasRoomFor.2.2.2.2.2 rfl (fun A => ?_)
  obtain ⟨⟨n7, n18, n19, h4, h5⟩, ⟨hk40, hp12⟩, r0, r1, r2, r3, r4, hK, hP⟩ := hR
  refine mm_aload_n (pc := 0) dX7_hasRoomFor_0 rfl (by first | trivial | assumption | exact mm_isr_rf _) ?_
  refine cw_gi (pc := 1) 7 _ 3 hC (rfl) rfl (n7) dX7_hasRoomFor_1 fl_X7_27 rfl rfl rfl ?_
  refine mm_topi _ r3 ?_
  refine mm_aload_n (pc := 4) dX7_hasRoomFor_4 rfl (by first | trivial | assumption | exact mm_isr_rf _) ?_
  refine cw_grS (pc := 5) 7 _ 2 hC (rfl) rfl (n7) dX7_hasRoomFor_5 fl_X7_23 rfl rfl rfl (r2) ?_
  refine cw_alen (pc := 8) 19 _ hC (rfl) rfl (n19) dX7_hasRoomFor_8 rfl rfl ?_
  refine mm_icmp_ge (pc := 9) (tgt := 33) dX7_hasRoomFor_9 (by decide) (fun c9 => ?_) (fun c9 => ?_)
  · have c1 : 12 ≤ np := (nI_leI (a := 12) (by decide) (by omega)).mp c9
    refine mm_iconst (pc := 33) (v := 0) dX7_hasRoomFor_33 (by decide) ?_
    refine mm_zret (pc := 34) dX7_hasRoomFor_34 rfl (by first | rfl | decide) ?_
    exact ⟨rfl, by rw [decide_eq_false (by omega)]; rfl⟩
  · have c1 : ¬ 12 ≤ np := fun z => c9 (nI_le (a := 12) z (by omega))
    refine mm_aload_n (pc := 12) dX7_hasRoomFor_12 rfl (by first | trivial | assumption | exact mm_isr_rf _) ?_
    refine cw_gi (pc := 13) 7 _ 1 hC (rfl) rfl (n7) dX7_hasRoomFor_13 fl_X7_17 rfl rfl rfl ?_
    refine mm_topi _ r1 ?_
    refine mm_aload_n (pc := 16) dX7_hasRoomFor_16 rfl (by first | trivial | assumption | exact mm_isr_rf _) ?_
    refine cw_gi (pc := 17) 5 p 7 hC (rfl) rfl (hD.1) dX7_hasRoomFor_17 fl_X7_53 rfl rfl rfl ?_
    refine mm_topi _ hD.2.2.2 ?_
    refine mm_iadd (pc := 20) dX7_hasRoomFor_20 ?_
    refine mm_topi _ (nI_add nk nn) ?_
    refine mm_aload_n (pc := 21) dX7_hasRoomFor_21 rfl (by first | trivial | assumption | exact mm_isr_rf _) ?_
    refine cw_grS (pc := 22) 7 _ 0 hC (rfl) rfl (n7) dX7_hasRoomFor_22 fl_X7_11 rfl rfl rfl (r0) ?_
    refine cw_alen (pc := 25) 18 _ hC (rfl) rfl (n18) dX7_hasRoomFor_25 rfl rfl ?_
    refine mm_icmp_gt (pc := 26) (tgt := 33) dX7_hasRoomFor_26 (by decide) (fun c26 => ?_) (fun c26 => ?_)
    · have c2 : 40 < nk + nn := (nI_ltI (a := 40) (by decide) (by omega)).mp c26
      refine mm_iconst (pc := 33) (v := 0) dX7_hasRoomFor_33 (by decide) ?_
      refine mm_zret (pc := 34) dX7_hasRoomFor_34 rfl (by first | rfl | decide) ?_
      exact ⟨rfl, by rw [decide_eq_false (by omega)]; rfl⟩
    · have c2 : ¬ 40 < nk + nn := fun z => c26 ((nI_ltI (a := 40) (by decide) (by omega)).mpr z)
      refine mm_iconst (pc := 29) (v := 1) dX7_hasRoomFor_29 (by decide) ?_
      refine mm_goto (pc := 30) (tgt := 34) dX7_hasRoomFor_30 (by decide) ?_
      refine mm_zret (pc := 34) dX7_hasRoomFor_34 rfl (by first | rfl | decide) ?_
      exact ⟨rfl, by rw [decide_eq_true (by omega)]; rfl⟩

theorem ap_ok {G : mm_G} {L : Nat × Nat} {d : Nat} {h : mm_H} {h0 : mm_H} {ad : Nat → Nat → Nat} {C : cw_C} {k m : Nat} (n7 : 0 < cN C 7) (n18 : 0 < cN C 18) (n4 : k < cN C 4) (hk : m < 40) (r0 : cR C 7 0 0 = some (ad 18 0)) (r1 : cI C 7 0 1 = nI m) (hC : cw ad h0 C h) : mm_Ok G mX7_append L (d) [.ref (ad 7 0), .ref (ad 4 k)] h (fun r h1 => cw ad h0 (cw_sI (cw_sR C 18 0 m (some (ad 4 k))) 7 0 1 (nI (m + 1))) h1 ∧ h1.2 = h.2 ∧ r = none) := by
  refine mm_Ok.of [(0, .ref (ad 7 0)), (1, .ref (ad 4 k))] rfl kX7_append.2.2.2.2.2 rfl (fun A => ?_)
  refine mm_aload_n (pc := 0) dX7_append_0 rfl (by first | trivial | assumption | exact mm_isr_rf _) ?_
  refine cw_gi (pc := 1) 7 _ 1 hC (rfl) rfl (n7) dX7_append_1 fl_X7_17 rfl rfl rfl ?_
  refine mm_topi _ r1 ?_
  refine mm_aload_n (pc := 4) dX7_append_4 rfl (by first | trivial | assumption | exact mm_isr_rf _) ?_
  refine cw_grS (pc := 5) 7 _ 0 hC (rfl) rfl (n7) dX7_append_5 fl_X7_11 rfl rfl rfl (r0) ?_
  refine cw_alen (pc := 8) 18 _ hC (rfl) rfl (n18) dX7_append_8 rfl rfl ?_
  refine mm_icmp_ge (pc := 9) (tgt := 32) dX7_append_9 (by decide) (fun c9 => absurd c9 (nI_ge (b := (40 : Nat)) hk (by decide))) (fun c9 => ?_)
  refine mm_aload_n (pc := 12) dX7_append_12 rfl (by first | trivial | assumption | exact mm_isr_rf _) ?_
  refine cw_grS (pc := 13) 7 _ 0 hC (rfl) rfl (n7) dX7_append_13 fl_X7_11 rfl rfl rfl (r0) ?_
  refine mm_aload_n (pc := 16) dX7_append_16 rfl (by first | trivial | assumption | exact mm_isr_rf _) ?_
  refine cw_gi (pc := 17) 7 _ 1 hC (rfl) rfl (n7) dX7_append_17 fl_X7_17 rfl rfl rfl ?_
  refine mm_topi _ r1 ?_
  refine mm_aload_n (pc := 20) dX7_append_20 rfl (by first | trivial | assumption | exact mm_isr_rf _) ?_
  refine cw_aast (pc := 21) 18 0 _ hC (rfl) rfl (n18) dX7_append_21 rfl rfl (cw_cell (f := 4) hC rfl rfl n4) rfl rfl (by first | with_reducible rfl | assumption | rfl) (by show m < 40; exact hk) (by omega) rfl (fun h21 hC e21 => ?_)
  refine mm_aload_n (pc := 22) dX7_append_22 rfl (by first | trivial | assumption | exact mm_isr_rf _) ?_
  refine mm_dup (pc := 23) dX7_append_23 rfl ?_
  refine cw_gi (pc := 24) 7 _ 1 hC (rfl) rfl ((by rw [cw_sR_N]; exact n7)) dX7_append_24 fl_X7_17 rfl rfl rfl ?_
  refine mm_topi _ (show cI (cw_sR C 18 0 m (some (ad 4 k))) 7 0 1 = nI m by rw [cI_sR]; exact r1) ?_
  refine mm_iconst (pc := 27) (v := 1) dX7_append_27 (by decide) ?_
  refine mm_iadd (pc := 28) dX7_append_28 ?_
  refine cw_pi (pc := 29) 7 _ 1 hC (rfl) rfl ((by rw [cw_sR_N]; exact n7)) dX7_append_29 (pl_X7_17 _) rfl rfl (rfl) (rfl) (fun h29 hC e29 => ?_)
  refine mm_vret (pc := 32) dX7_append_32 rfl ?_
  exact ⟨by rw [← nI_add]; exact hC, by rw [e29, e21], rfl⟩

theorem neg_c1 : ∀ c, 1 ≤ c → c ≤ 4 → ¬ (-1 : Int32) < -(nI c) := by
  intro c h1 h4
  have : ∀ c, c < 5 → 1 ≤ c → ¬ (-1 : Int32) < -(nI c) := by decide +kernel
  exact this c (by omega) h1
theorem neg_c4 : ∀ c, 1 ≤ c → c ≤ 4 → ¬ -(nI c) < (-4 : Int32) := by
  intro c h1 h4
  have : ∀ c, c < 5 → 1 ≤ c → ¬ -(nI c) < (-4 : Int32) := by decide +kernel
  exact this c (by omega) h1

theorem tl_ok {G : mm_G} {L : Nat × Nat} {d : Nat} {h : mm_H} {h0 : mm_H} {ad : Nat → Nat → Nat} {C : cw_C} {x : Int32} {c : Nat} (n11 : 0 < cN C 11) (n13 : 0 < cN C 13) (hf : cR C 11 0 9 = some (ad 13 0)) (hx : x = -(nI c)) (hc1 : 1 ≤ c) (h4 : c ≤ 4) (hC : cw ad h0 C h) : mm_Ok G mX11_tell L (d) [.ref (ad 11 0), .int x] h (fun r h1 => cw ad h0 (cw_sI C 13 0 c (cI C 13 0 c + 1)) h1 ∧ h1.2 = h.2 ∧ r = some (.int x)) := by
  refine mm_Ok.of [(0, .ref (ad 11 0)), (1, .int x)] rfl kX11_tell.2.2.2.2.2 rfl (fun A => ?_)
  refine mm_iload_n (pc := 0) dX11_tell_0 rfl ?_
  refine mm_iconst (pc := 1) (v := (-1)) dX11_tell_1 (by decide) ?_
  refine mm_icmp_gt (pc := 2) (tgt := 22) dX11_tell_2 (by decide) (fun c2 => absurd c2 (by rw [hx]; exact neg_c1 c hc1 h4)) (fun c2 => ?_)
  refine mm_iload_n (pc := 5) dX11_tell_5 rfl ?_
  refine mm_bipush (pc := 6) (v := (-4)) dX11_tell_6 (by decide) ?_
  refine mm_icmp_lt (pc := 8) (tgt := 22) dX11_tell_8 (by decide) (fun c8 => absurd c8 (by rw [hx]; exact neg_c4 c hc1 h4)) (fun c8 => ?_)
  refine mm_aload_n (pc := 11) dX11_tell_11 rfl (by first | trivial | assumption | exact mm_isr_rf _) ?_
  refine cw_grS (pc := 12) 11 _ 9 hC (rfl) rfl (n11) dX11_tell_12 fl_X11_52 rfl rfl rfl (hf) ?_
  refine mm_iload_n (pc := 15) dX11_tell_15 rfl ?_
  refine mm_ineg (pc := 16) dX11_tell_16 ?_
  refine mm_topi _ (show -x = nI c by rw [hx]; exact Int32.neg_neg) ?_
  refine mm_dup2 (pc := 17) dX11_tell_17 rfl rfl ?_
  refine cw_iald (pc := 18) 13 0 c hC (rfl) rfl (n13) dX11_tell_18 rfl (by first | with_reducible rfl | assumption | rfl) (by show c < 5; omega) (by omega) rfl ?_
  refine mm_iconst (pc := 19) (v := 1) dX11_tell_19 (by decide) ?_
  refine mm_iadd (pc := 20) dX11_tell_20 ?_
  refine cw_iast (pc := 21) 13 0 c hC (rfl) rfl (n13) dX11_tell_21 rfl (by first | with_reducible rfl | assumption | rfl) (by show c < 5; omega) (by omega) rfl (fun h21 hC e21 => ?_)
  refine mm_iload_n (pc := 22) dX11_tell_22 rfl ?_
  refine mm_iret (pc := 23) dX11_tell_23 rfl ?_
  exact ⟨hC, e21, rfl⟩

