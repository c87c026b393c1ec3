/-! the reference's constructor as a contract -/
theorem ip_k : ip_n 74 = 44 ∧ ip_s 74 = 38086 ∧ ip_n 0 = 0 ∧ ip_s 0 = 0 := by decide +kernel
theorem lt_LT {G : mm_G} {h h1 : mm_H} {am : Nat → Nat} (hlt : lt_ G h) (hk : ∀ a, a < h.2.1 → h1.1 a = h.1 a) (ha : ∀ j, h.2.1 < am j) (hs : h.2.1 ≤ h1.2.1) : LT G h.2.1 am h1 := by
  intro i bs hi
  obtain ⟨v, l1, l2, l3, l4⟩ := hlt i bs hi
  have o : ∀ a, a < h.2.1 → mw_o h.2.1 am h1 a := fun a hl => ⟨by omega, fun j _ _ e => by have := ha j; omega, by omega⟩
  exact ⟨v, (hk _ l3).trans l1, (hk _ l4).trans l2, o _ l3, o _ l4⟩
theorem LT.sO_ {G : mm_G} {m : Nat} {ad : Nat → Nat} {h : mm_H} (hL : LT G m ad h) {i : Nat} {bs : List Int32} (hi : mm_litb[i]? = some bs) : sO m ad h (G.2.2.2.2.1 i) bs := by
  obtain ⟨v, l1, l2, l3, l4⟩ := hL i bs hi
  have hl := (mm_lit_asc hi).1
  exact ⟨213, 301, v, [], l1, rfl, l2, rfl, by omega, l3, l4⟩
theorem x12_ok {G : mm_G} {L : Nat × Nat} {d : Nat} {h : mm_H} {fs : List Value} (hlt : lt_ G h) (hL1 : h.2.1 + 45 ≤ L.1) (hL2 : h.2.2 + 74 + 38086 ≤ L.2) (hfs : fs = (List.range 74).map (ip_f (h.2.1 + 1) 0)) : mm_Ok G mX12_init L (d + 3) [.ref h.2.1] (mm_push h (12, fs)) (fun r h1 => mw_W h.2.1 (fun i => h.2.1 + 1 + ip_n i) h1 (MF (G.2.2.2.2.1 7) (G.2.2.2.2.1 8) (G.2.2.2.2.1 9)) h1 ∧ (∀ a, a < h.2.1 → h1.1 a = h.1 a) ∧ h1.2 = (h.2.1 + 45, h.2.2 + 74 + 38086) ∧ r = none) := by
  have hfl : fs.length = 74 := by rw [hfs, List.length_map, List.length_range]
  obtain ⟨k1, k2, k3, k4⟩ := ip_k
  refine mm_Ok.of [(0, .ref h.2.1)] rfl kX12_init.2.2.2.2.2 rfl (fun A => ?_)
  refine mm_aload_n (pc := 0) dX12_init_0 rfl (by first | trivial | assumption | exact mm_isr_rf _) ?_
  refine mm_objInit (pc := 1) dX12_init_1 ol_X12_1 mm_objI mm_objC (Nat.le_of_ble_eq_true rfl) ?_
  have es : (mm_push h (12, fs)).2 = (h.2.1 + 1, h.2.2 + 74) := by show (h.2.1 + 1, h.2.2 + fs.length) = _; rw [hfl]
  have g0 : ip_W h.2.1 (h.2.1 + 1) (mm_push h (12, fs)) 0 (mm_push h (12, fs)) := ⟨by rw [← hfs]; exact mm_push_eq, fun j hj => absurd hj (Nat.not_lt_zero _), fun _ _ _ => rfl, by rw [k3, es], by rw [k4]; rfl, by omega, by rw [es]⟩
  refine in_arrays g0 (by omega) (by rw [es]; exact hL2) (fun h1 g => ?_)
  have sz := ip_at g k1 k2
  rw [es] at sz
  have fr : ∀ a, a < h.2.1 → h1.1 a = h.1 a := fun a ha => (g.2.2.1 a (by omega) (by omega)).trans (mm_push_ne (by omega) rfl)
  have hW := ip_end g
  have hL : LT G h.2.1 (fun i => h.2.1 + 1 + ip_n i) h1 := lt_LT hlt fr (fun j => by show h.2.1 < h.2.1 + 1 + ip_n j; omega) (by have := sz.1; omega)
  refine in_kinds (M := ip_M) rfl rfl (hL.sO_ (i := 7) rfl) (hL.sO_ (i := 8) rfl) (hL.sO_ (i := 9) rfl) hW (fun h2 hW2 e2 => ?_)
  refine ⟨hW2.re, fun a ha => ?_, by rw [e2]; exact Prod.ext sz.1 sz.2, rfl⟩
  refine (hW2.2.2.2.2.1 a (by omega) (fun j _ _ => by show ¬ a = h.2.1 + 1 + ip_n j; omega) (by have := sz.1; omega)).trans (fr a ha)

/-! the law's entry -/
section LAW
variable {G : mm_G} {L : Nat × Nat} {A : Nat → Prop} {Q : Option Value → mm_H → Prop} {h h1 h2 : mm_H} {ad : Nat → Nat → Nat} {C : cw_C} {b N xa : Nat} {am : Nat → Nat} {scr : List Value} {xs : Nat → Int32}
theorem MG_W {m x y z : Nat} {h0 : mm_H} (hW : mw_W m am h0 (MF x y z) h) : mw_W m am h0 (MG x y z) h := hW.re74 (fun j hj => if_neg (by omega)) rfl (fun j hj => MG_V hj) (fun j hj => funext fun i => if_neg (by omega)) (fun _ _ => rfl)
theorem kN3 : ∀ i, i < 3 → mm_litb[7 + i]? = some ((kNm.getD i []).map nI) ∧ (kNm.getD i []).length ≤ 8 ∧ ∀ c ∈ kNm.getD i [], 97 ≤ c ∧ c ≤ 122 := by decide +kernel
theorem u4 {x y z : Nat} : (MF x y z).2.2.2.2 4 0 = some x ∧ (MF x y z).2.2.2.2 4 1 = some y ∧ (MF x y z).2.2.2.2 4 2 = some z := ⟨rfl, rfl, rfl⟩
theorem RV_0 (hlt : lt_ G h1) (hb : h1.1 b = some (300, scr)) (hbl : b < h1.2.1) (hC : cw ad h C h1) (hW : mw_W h1.2.1 am h2 (MF (G.2.2.2.2.1 7) (G.2.2.2.2.1 8) (G.2.2.2.2.1 9)) h2) (hk : ∀ a, a < h1.2.1 → h2.1 a = h1.1 a) (ha : ∀ j, h1.2.1 < am j) (hs : h1.2.1 ≤ h2.2.1) : RV G h1.2.1 am b scr (MG (G.2.2.2.2.1 7) (G.2.2.2.2.1 8) (G.2.2.2.2.1 9)) 3 0 (hdr (clS ad C) h2) := by
  have hi_ : ∀ a, h1.2.1 ≤ a → (hdr (clS ad C) h2).1 a = h2.1 a := fun a hl => by
    show (bif clS ad C a then none else h2.1 a) = h2.1 a
    cases e : clS ad C a with
    | false => rfl
    | true =>
      obtain ⟨f, i, hf, hi, rfl⟩ := clS_iff.mp e
      have := hC.2.2.2.2.2.1 f i hf hi
      omega
  have lo : ∀ a c, h1.1 a = some c → 200 ≤ c.1 → a < h1.2.1 → (hdr (clS ad C) h2).1 a = some c := fun a c z hc hl => by
    show (bif clS ad C a then none else h2.1 a) = some c
    cases e : clS ad C a with
    | false => exact (hk a hl).trans z
    | true =>
      obtain ⟨f, i, hf, hi, rfl⟩ := clS_iff.mp e
      have q := hC.1 f i hf hi
      rw [z] at q
      have : c.1 = cw_k f := congrArg Prod.fst (Option.some.inj q)
      have := cw_k_lt f
      omega
  have o : ∀ a, a < h1.2.1 → mw_o h1.2.1 am (hdr (clS ad C) h2) a := fun a hl => ⟨by omega, fun j _ _ e => by have := ha j; omega, by show a < h2.2.1; omega⟩
  have hL : LT G h1.2.1 am (hdr (clS ad C) h2) := by
    intro i bs hi
    obtain ⟨v, l1, l2, l3, l4⟩ := hlt i bs hi
    exact ⟨v, lo _ _ l1 (Nat.le_of_ble_eq_true rfl) l3, lo _ _ l2 (Nat.le_of_ble_eq_true rfl) l4, o _ l3, o _ l4⟩
  obtain ⟨w1, w2, w3, w4, w5, w6, w7, w8, w9, w10⟩ := MG_W hW
  refine ⟨⟨(hi_ _ (Nat.le_refl _)).trans w1, fun j hj hk2 => (hi_ _ (by have := ha j; omega)).trans (w2 j hj hk2), w3, w4, fun _ _ _ _ => rfl, Nat.le_refl _, Nat.le_refl _, w8, w9, w10⟩, fun i hi => ?_, fun _ h => absurd h (Nat.not_lt_zero _), hL, lo _ _ hb (Nat.le_of_ble_eq_true rfl) hbl, o _ hbl⟩
  obtain ⟨n1, n2, n3⟩ := kN3 i hi
  refine ⟨G.2.2.2.2.1 (7 + i), kNm.getD i [], ?_, hL.sO_ n1, ⟨n3, n2⟩, show wG 100 i = _ from if_pos rfl⟩
  obtain ⟨u0, u1, u2⟩ := u4 (x := G.2.2.2.2.1 7) (y := G.2.2.2.2.1 8) (z := G.2.2.2.2.1 9)
  have : i = 0 ∨ i = 1 ∨ i = 2 := by omega
  rcases this with rfl | rfl | rfl
  · exact u0
  · exact u1
  · exact u2

theorem fs12 : [.null, .int 0, .null, .int 0, .null, .null, .null, .null, .null, .null, .null, .null, .null, .int 0, .null, .null, .null, .null, .null, .int 0, .null, .null, .null, .int 0, .int 0, .null, .int 0, .int 0, .int 0, .int 0, .int 0, .int 0, .int 0, .null, .int 0, .int 0, .null, .int 0, .null, .null, .null, .int 0, .null, .null, .null, .null, .null, .int 0, .int 0, .null, .null, .null, .null, .null, .int 0, .null, .null, .null, .null, .null, .null, .int 0, .int 0, .int 0, .int 0, .int 0, .int 0, .int 0, .int 0, .null, .null, .null, .int 0, .null] = (List.range 74).map ip_d := by decide +kernel
theorem fs12b {b : Nat} : [.null, .int 0, .null, .int 0, .null, .null, .null, .null, .null, .null, .null, .null, .null, .int 0, .null, .null, .null, .null, .null, .int 0, .null, .null, .null, .int 0, .int 0, .null, .int 0, .int 0, .int 0, .int 0, .int 0, .int 0, .int 0, .null, .int 0, .int 0, .null, .int 0, .null, .null, .null, .int 0, .null, .null, .null, .null, .null, .int 0, .int 0, .null, .null, .null, .null, .null, .int 0, .null, .null, .null, .null, .null, .null, .int 0, .int 0, .int 0, .int 0, .int 0, .int 0, .int 0, .int 0, .null, .null, .null, .int 0, .null] = (List.range 74).map (ip_f b 0) := by
  rw [fs12]
  exact List.map_congr_left (fun j _ => (if_neg (Nat.not_lt_zero j)).symm)
theorem cw_C0 : cw (fun _ _ => 0) h C0 h := ⟨fun f i _ hi => absurd hi (Nat.not_lt_zero _), fun f i _ _ _ _ hi => absurd hi (Nat.not_lt_zero _), fun _ _ _ => rfl, Nat.le_refl _, Nat.le_refl _, fun f i _ hi => absurd hi (Nat.not_lt_zero _), fun _ _ hz _ _ => hz⟩

theorem law_all (hN : N ≤ 2048) (hlt : lt_ G h) (hb : h.1 b = some (300, scO N xs)) (hbl : b < h.2.1) (hL1 : h.2.1 + 82 + 330 * 512 + 400 ≤ L.1) (hL2 : h.2.2 + 41382 + 2460 * 512 + 3000 ≤ L.2) (hQ : ∀ h1, Q (some (.int 1)) h1) : mm_Run G mL_law A L 1211 0 [(0, .ref b)] [] h Q := by
  refine mm_new (pc := 0) dL_law_0 nl_L_7 (by omega) (by show h.2.2 + 10 ≤ L.2; omega) ?_
  have hC := (cw_C0 (h := h)).new 11 (by decide) rfl rfl
  have en : cw_ad (fun _ _ => 0) C0 11 h.2.1 11 0 = h.2.1 := rfl
  rw [← en]
  refine mm_dup (pc := 3) dL_law_3 rfl ?_
  refine mm_callI (pc := 4) (As := []) dL_law_4 il_L_9 (x11_ok (d := 1202) (x := G.2.2.2.2.1 7) (y := G.2.2.2.2.1 8) (z := G.2.2.2.2.1 9) hlt (by show h.2.1 + 1 + 36 ≤ L.1; omega) (by show h.2.2 + 10 + 3212 ≤ L.2; omega) hC) rfl rfl (Nat.le_of_ble_eq_true rfl) ?_
  rintro _ h4 ⟨ad1, C1, hC, hS, hn, e4, rfl⟩
  have e4 : h4.2 = (h.2.1 + 1 + 36, h.2.2 + 10 + 3212) := e4
  have hlt4 := lt_.of hlt hC
  have hb4 := hC.2.2.2.2.2.2 b _ hb (Nat.le_of_ble_eq_true rfl) hbl
  refine mm_astore_n (pc := 7) dL_law_7 (by first | trivial | assumption | exact mm_isr_rf _) rfl (Nat.le_of_ble_eq_true rfl) ?_
  refine mm_new (pc := 8) dL_law_8 nl_L_10 (by rw [e4]; show h.2.1 + 1 + 36 + 1 ≤ L.1; omega) (by rw [e4, fs12, List.length_map, List.length_range]; show h.2.2 + 10 + 3212 + 74 ≤ L.2; omega) ?_
  refine mm_dup (pc := 11) dL_law_11 rfl ?_
  refine mm_callI (pc := 12) (As := []) dL_law_12 il_L_12 (x12_ok (d := 1207) hlt4 (by rw [e4]; show h.2.1 + 1 + 36 + 45 ≤ L.1; omega) (by rw [e4]; show h.2.2 + 10 + 3212 + 74 + 38086 ≤ L.2; omega) fs12b) rfl rfl (Nat.le_of_ble_eq_true rfl) ?_
  rintro _ h12 ⟨hW, hk, e12, rfl⟩
  refine mm_astore_n (pc := 15) dL_law_15 (by first | trivial | assumption | exact mm_isr_rf _) rfl (Nat.le_of_ble_eq_true rfl) ?_
  refine mm_iconst (pc := 16) (v := 0) dL_law_16 (by decide) ?_
  refine mm_istore_n (pc := 17) dL_law_17 rfl (Nat.le_of_ble_eq_true rfl) ?_
  obtain ⟨f1, f2⟩ := Prod.mk.inj (show (h4.2.1, h4.2.2) = (h.2.1 + 1 + 36, h.2.2 + 10 + 3212) from e4)
  obtain ⟨f3, f4⟩ := Prod.mk.inj (show (h12.2.1, h12.2.2) = (h4.2.1 + 45, h4.2.2 + 74 + 38086) from e12)
  have xl : b < h4.2.1 := by omega
  have sl : h4.2.1 ≤ h12.2.1 := by omega
  have z1 : h12.2.1 + 330 * 512 + 400 ≤ L.1 := by omega
  have z2 : h12.2.2 + 2460 * 512 + 3000 ≤ L.2 := by omega
  have hI : INV G h4.2.1 (fun i => h4.2.1 + 1 + ip_n i) b (scO N xs) (cw_ad (fun _ _ => 0) C0 11 h.2.1 11 0) h12.2 0 h12 := ⟨MG (G.2.2.2.2.1 7) (G.2.2.2.2.1 8) (G.2.2.2.2.1 9), ab3, 3, 0, ⟨ad1, C1, 0, 0, 0, 0, _, hC.keep2 (fun f i hf hi => hk _ (hC.2.2.2.2.2.1 f i hf hi)) sl, hS.2.2.1.2.2.2.2.2.2, rs_0 hS hn, RV_0 hlt4 hb4 xl hC hW hk (fun j => by show h4.2.1 < h4.2.1 + 1 + ip_n j; omega) sl⟩, PX_0, 0, sG_v.1, by decide, by omega, by omega⟩
  exact mm_weakK (law_loop hN z1 z2 (fun _ h_ _ _ => hQ h_) 512 0 h12 (by omega) (by omega) hI) (And.intro rfl (And.intro rfl (And.intro rfl (And.intro rfl trivial))))
end LAW

