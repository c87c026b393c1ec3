/-! the class's constructor: arrays, registry, run -/
theorem cz_I {f n : Nat} (h : ∀ j, cw_y f j = 0) : List.replicate n (.int 0) = (List.range n).map (cw_x f (fun _ => 0) (fun _ => 0) (fun _ => none)) := by
  rw [← ip_rep n (Value.int 0)]
  exact List.map_congr_left (fun j _ => (cw_xI (a := fun _ => 0) (b := fun _ => 0) (c := fun _ => none) (h j)).symm)
theorem cz_N {f n : Nat} (h : ∀ j, cw_y f j = 2) : List.replicate n .null = (List.range n).map (cw_x f (fun _ => 0) (fun _ => 0) (fun _ => none)) := by
  rw [← ip_rep n Value.null]
  exact List.map_congr_left (fun j _ => (cw_xR (a := fun _ => 0) (b := fun _ => 0) (c := fun _ => none) (h j)).symm)
def C0 : cw_C := fun _ => (fun _ _ => 0, fun _ _ => 0, fun _ _ => none, 0)
def cA_ (x : Nat) : cw_C := cw_sI (cw_sI (cw_sR (cw_new (cw_new C0 11) 12) 11 0 0 (some x)) 11 0 1 0) 11 0 2 (-1)
def c7 (C : cw_C) (a b : Nat) : cw_C := cw_sI (cw_sI (cw_sR (cw_new (cw_sI (cw_sR (cw_new C 18) 7 0 0 (some a)) 7 0 1 0) 19) 7 0 2 (some b)) 7 0 3 0) 7 0 4 0
def ad7 (ad : Nat → Nat → Nat) (C : cw_C) (a b : Nat) : Nat → Nat → Nat := cw_ad (cw_ad ad C 18 a) (cw_sI (cw_sR (cw_new C 18) 7 0 0 (some a)) 7 0 1 0) 19 b

theorem x7_i {G : mm_G} {L : Nat × Nat} {d : Nat} {h : mm_H} {h0 : mm_H} {ad : Nat → Nat → Nat} {x : Nat} (hL1 : h.2.1 + 2 ≤ L.1) (hL2 : h.2.2 + 52 ≤ L.2) (hC : cw ad h0 (cw_new (cA_ x) 7) h) : mm_Ok G mX7_init L (d + 1) [.ref (ad 7 0)] h (fun r h1 => ∃ a b, cw (ad7 ad (cw_new (cA_ x) 7) a b) h0 (c7 (cw_new (cA_ x) 7) a b) h1 ∧ h1.2 = (h.2.1 + 2, h.2.2 + 52) ∧ r = none) := by
  refine mm_Ok.of [(0, .ref (ad 7 0))] rfl kX7_init.2.2.2.2.2 rfl (fun A => ?_)
  refine mm_aload_n (pc := 0) dX7_init_0 rfl (by first | trivial | assumption | exact mm_isr_rf _) ?_
  refine mm_objInit (pc := 1) dX7_init_1 ol_X7_3 mm_objI mm_objC (Nat.le_of_ble_eq_true rfl) ?_
  refine mm_aload_n (pc := 4) dX7_init_4 rfl (by first | trivial | assumption | exact mm_isr_rf _) ?_
  refine mm_bipush (pc := 5) (v := 40) dX7_init_5 (by decide) ?_
  refine mm_anew (pc := 7) (N := 40) (t := 4) (i := 0) dX7_init_7 al_X7_9 rfl rfl (by decide) (by decide) (by decide) (by omega) (by omega) ?_
  have hC := hC.new 18 (by decide) rfl (cz_N (fun _ => rfl))
  refine cw_prA (pc := 10) 7 _ 0 hC (rfl) rfl ((Nat.le_of_ble_eq_true rfl)) dX7_init_10 (pl_X7_11) rfl rfl rfl rfl (fun h10 hC e10 => ?_)
  refine mm_aload_n (pc := 13) dX7_init_13 rfl (by first | trivial | assumption | exact mm_isr_rf _) ?_
  refine mm_iconst (pc := 14) (v := 0) dX7_init_14 (by decide) ?_
  refine cw_pi (pc := 15) 7 _ 1 hC (rfl) rfl ((Nat.le_of_ble_eq_true rfl)) dX7_init_15 (pl_X7_17 _) rfl rfl (rfl) (rfl) (fun h15 hC e15 => ?_)
  have s15 : h15.2 = (h.2.1 + 1, h.2.2 + 40) := by rw [e15, e10]; show (h.2.1 + 1, h.2.2 + (List.replicate 40 Value.null).length) = _; rw [List.length_replicate]
  refine mm_aload_n (pc := 18) dX7_init_18 rfl (by first | trivial | assumption | exact mm_isr_rf _) ?_
  refine mm_bipush (pc := 19) (v := 12) dX7_init_19 (by decide) ?_
  refine mm_anew (pc := 21) (N := 12) (t := 5) (i := 1) dX7_init_21 al_X7_21 rfl rfl (by decide) (by decide) (by decide) (by rw [s15]; show h.2.1 + 1 + 1 ≤ L.1; omega) (by rw [s15]; show h.2.2 + 40 + 12 ≤ L.2; omega) ?_
  have hC := hC.new 19 (by decide) rfl (cz_N (fun _ => rfl))
  refine cw_prA (pc := 24) 7 _ 2 hC (rfl) rfl ((Nat.le_of_ble_eq_true rfl)) dX7_init_24 (pl_X7_23) rfl rfl rfl rfl (fun h24 hC e24 => ?_)
  refine mm_aload_n (pc := 27) dX7_init_27 rfl (by first | trivial | assumption | exact mm_isr_rf _) ?_
  refine mm_iconst (pc := 28) (v := 0) dX7_init_28 (by decide) ?_
  refine cw_pi (pc := 29) 7 _ 3 hC (rfl) rfl ((Nat.le_of_ble_eq_true rfl)) dX7_init_29 (pl_X7_27 _) rfl rfl (rfl) (rfl) (fun h29 hC e29 => ?_)
  refine mm_aload_n (pc := 32) dX7_init_32 rfl (by first | trivial | assumption | exact mm_isr_rf _) ?_
  refine mm_iconst (pc := 33) (v := 0) dX7_init_33 (by decide) ?_
  refine cw_pi (pc := 34) 7 _ 4 hC (rfl) rfl ((Nat.le_of_ble_eq_true rfl)) dX7_init_34 (pl_X7_30 _) rfl rfl (rfl) (rfl) (fun h34 hC e34 => ?_)
  refine mm_vret (pc := 37) dX7_init_37 rfl ?_
  exact ⟨h.2.1, h15.2.1, hC, by rw [e34, e29, e24]; show (h15.2.1 + 1, h15.2.2 + (List.replicate 12 Value.null).length) = _; rw [List.length_replicate, s15], rfl⟩

def cB_ (x a b y v : Nat) : cw_C := cw_sI (cw_sR (cw_new (cw_sR (c7 (cw_new (cA_ x) 7) a b) 11 0 3 (some y)) 16) 11 0 4 (some v)) 11 0 5 0
def c8a (C : cw_C) : cw_C := cw_sI (cw_sI (cw_sI (cw_sI (cw_sI (cw_sI (cw_sI C 8 0 0 0) 8 0 1 0) 8 0 2 0) 8 0 3 0) 8 0 4 0) 8 0 5 0) 8 0 6 0
def c8b (C : cw_C) (a : Nat) : cw_C := cw_sR (cw_new (c8a C) 14) 8 0 7 (some a)
def c8c (C : cw_C) (a b : Nat) : cw_C := cw_sR (cw_new (c8b C a) 14) 8 0 8 (some b)
def c8d (C : cw_C) (a b c : Nat) : cw_C := cw_sR (cw_new (c8c C a b) 14) 8 0 9 (some c)
def c8 (C : cw_C) (a b c e : Nat) : cw_C := cw_sI (cw_sI (cw_sR (cw_sR (cw_new (c8d C a b c) 15) 8 0 10 (some e)) 8 0 11 none) 8 0 12 0) 8 0 13 0
def ad8 (ad : Nat → Nat → Nat) (C : cw_C) (a b c e : Nat) : Nat → Nat → Nat := cw_ad (cw_ad (cw_ad (cw_ad ad (c8a C) 14 a) (c8b C a) 14 b) (c8c C a b) 14 c) (c8d C a b c) 15 e

theorem x8_i {G : mm_G} {L : Nat × Nat} {d : Nat} {h : mm_H} {h0 : mm_H} {ad : Nat → Nat → Nat} {x a b y v : Nat} (hL1 : h.2.1 + 4 ≤ L.1) (hL2 : h.2.2 + 1618 ≤ L.2) (hC : cw ad h0 (cw_new (cB_ x a b y v) 8) h) : mm_Ok G mX8_init L (d + 1) [.ref (ad 8 0)] h (fun r h1 => ∃ p q s t, cw (ad8 ad (cw_new (cB_ x a b y v) 8) p q s t) h0 (c8 (cw_new (cB_ x a b y v) 8) p q s t) h1 ∧ h1.2 = (h.2.1 + 4, h.2.2 + 1618) ∧ r = none) := by
  refine mm_Ok.of [(0, .ref (ad 8 0))] rfl kX8_init.2.2.2.2.2 rfl (fun A => ?_)
  refine mm_aload_n (pc := 0) dX8_init_0 rfl (by first | trivial | assumption | exact mm_isr_rf _) ?_
  refine mm_objInit (pc := 1) dX8_init_1 ol_X8_3 mm_objI mm_objC (Nat.le_of_ble_eq_true rfl) ?_
  refine mm_aload_n (pc := 4) dX8_init_4 rfl (by first | trivial | assumption | exact mm_isr_rf _) ?_
  refine mm_iconst (pc := 5) (v := 0) dX8_init_5 (by decide) ?_
  refine cw_pi (pc := 6) 8 _ 0 hC (rfl) rfl ((Nat.le_of_ble_eq_true rfl)) dX8_init_6 (pl_X8_9 _) rfl rfl (rfl) (rfl) (fun h6 hC e6 => ?_)
  refine mm_aload_n (pc := 9) dX8_init_9 rfl (by first | trivial | assumption | exact mm_isr_rf _) ?_
  refine mm_iconst (pc := 10) (v := 0) dX8_init_10 (by decide) ?_
  refine cw_pi (pc := 11) 8 _ 1 hC (rfl) rfl ((Nat.le_of_ble_eq_true rfl)) dX8_init_11 (pl_X8_15 _) rfl rfl (rfl) (rfl) (fun h11 hC e11 => ?_)
  refine mm_aload_n (pc := 14) dX8_init_14 rfl (by first | trivial | assumption | exact mm_isr_rf _) ?_
  refine mm_iconst (pc := 15) (v := 0) dX8_init_15 (by decide) ?_
  refine cw_pi (pc := 16) 8 _ 2 hC (rfl) rfl ((Nat.le_of_ble_eq_true rfl)) dX8_init_16 (pl_X8_18 _) rfl rfl (rfl) (rfl) (fun h16 hC e16 => ?_)
  refine mm_aload_n (pc := 19) dX8_init_19 rfl (by first | trivial | assumption | exact mm_isr_rf _) ?_
  refine mm_iconst (pc := 20) (v := 0) dX8_init_20 (by decide) ?_
  refine cw_pi (pc := 21) 8 _ 3 hC (rfl) rfl ((Nat.le_of_ble_eq_true rfl)) dX8_init_21 (pl_X8_21 _) rfl rfl (rfl) (rfl) (fun h21 hC e21 => ?_)
  refine mm_aload_n (pc := 24) dX8_init_24 rfl (by first | trivial | assumption | exact mm_isr_rf _) ?_
  refine mm_iconst (pc := 25) (v := 0) dX8_init_25 (by decide) ?_
  refine cw_pi (pc := 26) 8 _ 4 hC (rfl) rfl ((Nat.le_of_ble_eq_true rfl)) dX8_init_26 (pl_X8_24 _) rfl rfl (rfl) (rfl) (fun h26 hC e26 => ?_)
  refine mm_aload_n (pc := 29) dX8_init_29 rfl (by first | trivial | assumption | exact mm_isr_rf _) ?_
  refine mm_iconst (pc := 30) (v := 0) dX8_init_30 (by decide) ?_
  refine cw_pi (pc := 31) 8 _ 5 hC (rfl) rfl ((Nat.le_of_ble_eq_true rfl)) dX8_init_31 (pl_X8_27 _) rfl rfl (rfl) (rfl) (fun h31 hC e31 => ?_)
  refine mm_aload_n (pc := 34) dX8_init_34 rfl (by first | trivial | assumption | exact mm_isr_rf _) ?_
  refine mm_iconst (pc := 35) (v := 0) dX8_init_35 (by decide) ?_
  refine cw_pi (pc := 36) 8 _ 6 hC (rfl) rfl ((Nat.le_of_ble_eq_true rfl)) dX8_init_36 (pl_X8_30 _) rfl rfl (rfl) (rfl) (fun h36 hC e36 => ?_)
  have s36 : h36.2 = (h.2.1, h.2.2) := by rw [e36, e31, e26, e21, e16, e11, e6]
  refine mm_aload_n (pc := 39) dX8_init_39 rfl (by first | trivial | assumption | exact mm_isr_rf _) ?_
  refine mm_sipush (pc := 40) (v := 406) dX8_init_40 (by decide) ?_
  refine mm_newa_int (pc := 43) (N := 406) dX8_init_43 mm_ac_int (by decide) (by decide) (by decide) (by rw [s36]; show h.2.1 + 1 ≤ L.1; omega) (by rw [s36]; show h.2.2 + 406 ≤ L.2; omega) ?_
  have hC := hC.new 14 (by decide) rfl (cz_I (fun _ => rfl))
  refine cw_prA (pc := 45) 8 _ 7 hC (rfl) rfl ((Nat.le_of_ble_eq_true rfl)) dX8_init_45 (pl_X8_33) rfl rfl rfl rfl (fun h45 hC e45 => ?_)
  have s45 : h45.2 = (h.2.1 + 1, h.2.2 + 406) := by rw [e45]; show (h36.2.1 + 1, h36.2.2 + (List.replicate 406 (Value.int 0)).length) = _; rw [List.length_replicate, s36]
  refine mm_aload_n (pc := 48) dX8_init_48 rfl (by first | trivial | assumption | exact mm_isr_rf _) ?_
  refine mm_sipush (pc := 49) (v := 406) dX8_init_49 (by decide) ?_
  refine mm_newa_int (pc := 52) (N := 406) dX8_init_52 mm_ac_int (by decide) (by decide) (by decide) (by rw [s45]; show h.2.1 + 1 + 1 ≤ L.1; omega) (by rw [s45]; show h.2.2 + 406 + 406 ≤ L.2; omega) ?_
  have hC := hC.new 14 (by decide) rfl (cz_I (fun _ => rfl))
  refine cw_prA (pc := 54) 8 _ 8 hC (rfl) rfl ((Nat.le_of_ble_eq_true rfl)) dX8_init_54 (pl_X8_37) rfl rfl rfl rfl (fun h54 hC e54 => ?_)
  have s54 : h54.2 = (h.2.1 + 2, h.2.2 + 812) := by rw [e54]; show (h45.2.1 + 1, h45.2.2 + (List.replicate 406 (Value.int 0)).length) = _; rw [List.length_replicate, s45]
  refine mm_aload_n (pc := 57) dX8_init_57 rfl (by first | trivial | assumption | exact mm_isr_rf _) ?_
  refine mm_sipush (pc := 58) (v := 406) dX8_init_58 (by decide) ?_
  refine mm_newa_int (pc := 61) (N := 406) dX8_init_61 mm_ac_int (by decide) (by decide) (by decide) (by rw [s54]; show h.2.1 + 2 + 1 ≤ L.1; omega) (by rw [s54]; show h.2.2 + 812 + 406 ≤ L.2; omega) ?_
  have hC := hC.new 14 (by decide) rfl (cz_I (fun _ => rfl))
  refine cw_prA (pc := 63) 8 _ 9 hC (rfl) rfl ((Nat.le_of_ble_eq_true rfl)) dX8_init_63 (pl_X8_40) rfl rfl rfl rfl (fun h63 hC e63 => ?_)
  have s63 : h63.2 = (h.2.1 + 3, h.2.2 + 1218) := by rw [e63]; show (h54.2.1 + 1, h54.2.2 + (List.replicate 406 (Value.int 0)).length) = _; rw [List.length_replicate, s54]
  refine mm_aload_n (pc := 66) dX8_init_66 rfl (by first | trivial | assumption | exact mm_isr_rf _) ?_
  refine mm_sipush (pc := 67) (v := 400) dX8_init_67 (by decide) ?_
  refine mm_newa_int (pc := 70) (N := 400) dX8_init_70 mm_ac_int (by decide) (by decide) (by decide) (by rw [s63]; show h.2.1 + 3 + 1 ≤ L.1; omega) (by rw [s63]; show h.2.2 + 1218 + 400 ≤ L.2; omega) ?_
  have hC := hC.new 15 (by decide) rfl (cz_I (fun _ => rfl))
  refine cw_prA (pc := 72) 8 _ 10 hC (rfl) rfl ((Nat.le_of_ble_eq_true rfl)) dX8_init_72 (pl_X8_43) rfl rfl rfl rfl (fun h72 hC e72 => ?_)
  have s72 : h72.2 = (h.2.1 + 4, h.2.2 + 1618) := by rw [e72]; show (h63.2.1 + 1, h63.2.2 + (List.replicate 400 (Value.int 0)).length) = _; rw [List.length_replicate, s63]
  refine mm_aload_n (pc := 75) dX8_init_75 rfl (by first | trivial | assumption | exact mm_isr_rf _) ?_
  refine mm_null (pc := 76) dX8_init_76 ?_
  refine cw_pr (pc := 77) (x := none) 8 _ 11 hC (rfl) rfl ((Nat.le_of_ble_eq_true rfl)) dX8_init_77 (pl_X8_46 _) rfl rfl (rfl) (fun h77 hC e77 => ?_)
  refine mm_aload_n (pc := 80) dX8_init_80 rfl (by first | trivial | assumption | exact mm_isr_rf _) ?_
  refine mm_iconst (pc := 81) (v := 0) dX8_init_81 (by decide) ?_
  refine cw_pi (pc := 82) 8 _ 12 hC (rfl) rfl ((Nat.le_of_ble_eq_true rfl)) dX8_init_82 (pl_X8_50 _) rfl rfl (rfl) (rfl) (fun h82 hC e82 => ?_)
  refine mm_aload_n (pc := 85) dX8_init_85 rfl (by first | trivial | assumption | exact mm_isr_rf _) ?_
  refine mm_iconst (pc := 86) (v := 0) dX8_init_86 (by decide) ?_
  refine cw_pi (pc := 87) 8 _ 13 hC (rfl) rfl ((Nat.le_of_ble_eq_true rfl)) dX8_init_87 (pl_X8_53 _) rfl rfl (rfl) (rfl) (fun h87 hC e87 => ?_)
  refine mm_vret (pc := 90) dX8_init_90 rfl ?_
  exact ⟨h36.2.1, h45.2.1, h54.2.1, h63.2.1, hC, by rw [e87, e82, e77, s72], rfl⟩

def PRE (ad : Nat → Nat → Nat) (C : cw_C) : Prop := ((cN C 0 = 0 ∧ cN C 1 = 0 ∧ cN C 2 = 0 ∧ cN C 3 = 0 ∧ cN C 4 = 0 ∧ cN C 5 = 0 ∧ cN C 6 = 0 ∧ cN C 9 = 0 ∧ cN C 10 = 0 ∧ cN C 20 = 0 ∧ cN C 21 = 0) ∧ (cN C 7 = 1 ∧ cN C 8 = 1 ∧ cN C 11 = 1 ∧ cN C 12 = 1 ∧ cN C 13 = 1 ∧ cN C 14 = 3 ∧ cN C 15 = 1 ∧ cN C 16 = 1 ∧ cN C 17 = 1 ∧ cN C 18 = 1 ∧ cN C 19 = 1)) ∧ (cR C 7 0 0 = some (ad 18 0) ∧ cI C 7 0 1 = 0 ∧ cR C 7 0 2 = some (ad 19 0) ∧ cI C 7 0 3 = 0 ∧ cI C 7 0 4 = 0) ∧ (cR C 11 0 0 = some (ad 12 0) ∧ cI C 11 0 1 = 0 ∧ cI C 11 0 2 = -1 ∧ cR C 11 0 3 = some (ad 7 0) ∧ cR C 11 0 4 = some (ad 16 0) ∧ cI C 11 0 5 = 0 ∧ cR C 11 0 6 = some (ad 8 0) ∧ cR C 11 0 7 = some (ad 17 0) ∧ cI C 11 0 8 = 0 ∧ cR C 11 0 9 = some (ad 13 0)) ∧ (∀ i, cI C 13 0 i = 0) ∧ (∀ i, cI C 12 0 i = 0) ∧ (cI C 8 0 0 = 0 ∧ cI C 8 0 1 = 0 ∧ cI C 8 0 2 = 0 ∧ cI C 8 0 3 = 0 ∧ cR C 8 0 7 = some (ad 14 0) ∧ cR C 8 0 8 = some (ad 14 1) ∧ cR C 8 0 9 = some (ad 14 2) ∧ cR C 8 0 10 = some (ad 15 0))

theorem x11_a {G : mm_G} {A : Nat → Prop} {L : Nat × Nat} {d : Nat} {Q : Option Value → mm_H → Prop} {h0 h : mm_H} {ad : Nat → Nat → Nat} (hL1 : h.2.1 + 12 ≤ L.1) (hL2 : h.2.2 + 3026 ≤ L.2) (hC : cw ad h0 (cw_new C0 11) h) (kk : ∀ ad1 C1 h1, cw ad1 h0 C1 h1 → PRE ad1 C1 → ad1 11 0 = ad 11 0 → h1.2 = (h.2.1 + 12, h.2.2 + 3026) → mm_Run G mX11_init A L (d + 2) 81 [(0, .ref (ad 11 0))] [] h1 Q) : mm_Run G mX11_init A L (d + 2) 0 [(0, .ref (ad 11 0))] [] h Q := by
  refine mm_aload_n (pc := 0) dX11_init_0 rfl (by first | trivial | assumption | exact mm_isr_rf _) ?_
  refine mm_objInit (pc := 1) dX11_init_1 ol_X11_1 mm_objI mm_objC (Nat.le_of_ble_eq_true rfl) ?_
  refine mm_aload_n (pc := 4) dX11_init_4 rfl (by first | trivial | assumption | exact mm_isr_rf _) ?_
  refine mm_sipush (pc := 5) (v := 800) dX11_init_5 (by decide) ?_
  refine mm_newa_byte (pc := 8) (N := 800) dX11_init_8 mm_ac_byte (by decide) (by decide) (by decide) (by omega) (by omega) ?_
  have hC := hC.new 12 (by decide) rfl (cz_I (fun _ => rfl))
  refine cw_prA (pc := 10) 11 _ 0 hC (rfl) rfl ((Nat.le_of_ble_eq_true rfl)) dX11_init_10 (pl_X11_9) rfl rfl rfl rfl (fun h10 hC e10 => ?_)
  refine mm_aload_n (pc := 13) dX11_init_13 rfl (by first | trivial | assumption | exact mm_isr_rf _) ?_
  refine mm_iconst (pc := 14) (v := 0) dX11_init_14 (by decide) ?_
  refine cw_pi (pc := 15) 11 _ 1 hC (rfl) rfl ((Nat.le_of_ble_eq_true rfl)) dX11_init_15 (pl_X11_13 _) rfl rfl (rfl) (rfl) (fun h15 hC e15 => ?_)
  refine mm_aload_n (pc := 18) dX11_init_18 rfl (by first | trivial | assumption | exact mm_isr_rf _) ?_
  refine mm_iconst (pc := 19) (v := (-1)) dX11_init_19 (by decide) ?_
  refine cw_pi (pc := 20) 11 _ 2 hC (rfl) rfl ((Nat.le_of_ble_eq_true rfl)) dX11_init_20 (pl_X11_17 _) rfl rfl (rfl) (rfl) (fun h20 hC e20 => ?_)
  have s20 : h20.2 = (h.2.1 + 1, h.2.2 + 800) := by rw [e20, e15, e10]; show (h.2.1 + 1, h.2.2 + (List.replicate 800 (Value.int 0)).length) = _; rw [List.length_replicate]
  refine mm_aload_n (pc := 23) dX11_init_23 rfl (by first | trivial | assumption | exact mm_isr_rf _) ?_
  refine mm_new (pc := 24) dX11_init_24 nl_X11_20 (by rw [s20]; show h.2.1 + 1 + 1 ≤ L.1; omega) (by rw [s20]; show h.2.2 + 800 + 5 ≤ L.2; omega) ?_
  have hC := hC.new 7 (by decide) rfl rfl
  refine mm_dup (pc := 27) dX11_init_27 rfl ?_
  refine mm_callIN (pc := 28) (As := []) dX11_init_28 inl_X11_22 (x7_i (x := h.2.1) (by show h20.2.1 + 1 + 2 ≤ L.1; rw [s20]; show h.2.1 + 1 + 1 + 2 ≤ L.1; omega) (by show h20.2.2 + 5 + 52 ≤ L.2; rw [s20]; show h.2.2 + 800 + 5 + 52 ≤ L.2; omega) hC) rfl rfl (Nat.le_of_ble_eq_true rfl) ?_
  rintro _ h28 ⟨a7, b7, hC, e28, rfl⟩
  have s28 : h28.2 = (h.2.1 + 4, h.2.2 + 857) := by rw [e28]; show (h20.2.1 + 1 + 2, h20.2.2 + 5 + 52) = _; rw [s20]
  refine cw_prS (pc := 31) 11 _ 3 hC (rfl) rfl ((Nat.le_of_ble_eq_true rfl)) dX11_init_31 (pl_X11_23) rfl rfl (fun h31 hC e31 => ?_)
  have s31 : h31.2 = (h.2.1 + 4, h.2.2 + 857) := by rw [e31, s28]
  refine mm_aload_n (pc := 34) dX11_init_34 rfl (by first | trivial | assumption | exact mm_isr_rf _) ?_
  refine mm_bipush (pc := 35) (v := 20) dX11_init_35 (by decide) ?_
  refine mm_anew (pc := 37) (N := 20) (t := 7) (i := 2) dX11_init_37 al_X11_27 rfl rfl (by decide) (by decide) (by decide) (by rw [s31]; show h.2.1 + 4 + 1 ≤ L.1; omega) (by rw [s31]; show h.2.2 + 857 + 20 ≤ L.2; omega) ?_
  have hC := hC.new 16 (by decide) rfl (cz_N (fun _ => rfl))
  refine cw_prA (pc := 40) 11 _ 4 hC (rfl) rfl ((Nat.le_of_ble_eq_true rfl)) dX11_init_40 (pl_X11_29) rfl rfl rfl rfl (fun h40 hC e40 => ?_)
  refine mm_aload_n (pc := 43) dX11_init_43 rfl (by first | trivial | assumption | exact mm_isr_rf _) ?_
  refine mm_iconst (pc := 44) (v := 0) dX11_init_44 (by decide) ?_
  refine cw_pi (pc := 45) 11 _ 5 hC (rfl) rfl ((Nat.le_of_ble_eq_true rfl)) dX11_init_45 (pl_X11_33 _) rfl rfl (rfl) (rfl) (fun h45 hC e45 => ?_)
  have s45 : h45.2 = (h.2.1 + 5, h.2.2 + 877) := by rw [e45, e40]; show (h31.2.1 + 1, h31.2.2 + (List.replicate 20 Value.null).length) = _; rw [List.length_replicate, s31]
  refine mm_aload_n (pc := 48) dX11_init_48 rfl (by first | trivial | assumption | exact mm_isr_rf _) ?_
  refine mm_new (pc := 49) dX11_init_49 nl_X11_36 (by rw [s45]; show h.2.1 + 5 + 1 ≤ L.1; omega) (by rw [s45]; show h.2.2 + 877 + 14 ≤ L.2; omega) ?_
  have hC := hC.new 8 (by decide) rfl rfl
  refine mm_dup (pc := 52) dX11_init_52 rfl ?_
  refine mm_callIN (pc := 53) (As := []) dX11_init_53 inl_X11_38 (x8_i (x := h.2.1) (a := a7) (b := b7) (y := h20.2.1) (v := h31.2.1) (by show h45.2.1 + 1 + 4 ≤ L.1; rw [s45]; show h.2.1 + 5 + 1 + 4 ≤ L.1; omega) (by show h45.2.2 + 14 + 1618 ≤ L.2; rw [s45]; show h.2.2 + 877 + 14 + 1618 ≤ L.2; omega) hC) rfl rfl (Nat.le_of_ble_eq_true rfl) ?_
  rintro _ h53 ⟨a8, b8, d8, e8, hC, e53, rfl⟩
  have s53 : h53.2 = (h.2.1 + 10, h.2.2 + 2509) := by rw [e53]; show (h45.2.1 + 1 + 4, h45.2.2 + 14 + 1618) = _; rw [s45]
  refine cw_prS (pc := 56) 11 _ 6 hC (rfl) rfl ((Nat.le_of_ble_eq_true rfl)) dX11_init_56 (pl_X11_39) rfl rfl (fun h56 hC e56 => ?_)
  have s56 : h56.2 = (h.2.1 + 10, h.2.2 + 2509) := by rw [e56, s53]
  refine mm_aload_n (pc := 59) dX11_init_59 rfl (by first | trivial | assumption | exact mm_isr_rf _) ?_
  refine mm_sipush (pc := 60) (v := 512) dX11_init_60 (by decide) ?_
  refine mm_anew (pc := 63) (N := 512) (t := 8) (i := 3) dX11_init_63 al_X11_43 rfl rfl (by decide) (by decide) (by decide) (by rw [s56]; show h.2.1 + 10 + 1 ≤ L.1; omega) (by rw [s56]; show h.2.2 + 2509 + 512 ≤ L.2; omega) ?_
  have hC := hC.new 17 (by decide) rfl (cz_N (fun _ => rfl))
  refine cw_prA (pc := 66) 11 _ 7 hC (rfl) rfl ((Nat.le_of_ble_eq_true rfl)) dX11_init_66 (pl_X11_45) rfl rfl rfl rfl (fun h66 hC e66 => ?_)
  refine mm_aload_n (pc := 69) dX11_init_69 rfl (by first | trivial | assumption | exact mm_isr_rf _) ?_
  refine mm_iconst (pc := 70) (v := 0) dX11_init_70 (by decide) ?_
  refine cw_pi (pc := 71) 11 _ 8 hC (rfl) rfl ((Nat.le_of_ble_eq_true rfl)) dX11_init_71 (pl_X11_49 _) rfl rfl (rfl) (rfl) (fun h71 hC e71 => ?_)
  have s71 : h71.2 = (h.2.1 + 11, h.2.2 + 3021) := by rw [e71, e66]; show (h56.2.1 + 1, h56.2.2 + (List.replicate 512 Value.null).length) = _; rw [List.length_replicate, s56]
  refine mm_aload_n (pc := 74) dX11_init_74 rfl (by first | trivial | assumption | exact mm_isr_rf _) ?_
  refine mm_iconst (pc := 75) (v := 5) dX11_init_75 (by decide) ?_
  refine mm_newa_int (pc := 76) (N := 5) dX11_init_76 mm_ac_int (by decide) (by decide) (by decide) (by rw [s71]; show h.2.1 + 11 + 1 ≤ L.1; omega) (by rw [s71]; show h.2.2 + 3021 + 5 ≤ L.2; omega) ?_
  have hC := hC.new 13 (by decide) rfl (cz_I (fun _ => rfl))
  refine cw_prA (pc := 78) 11 _ 9 hC (rfl) rfl ((Nat.le_of_ble_eq_true rfl)) dX11_init_78 (pl_X11_52) rfl rfl rfl rfl (fun h78 hC e78 => ?_)
  have s78 : h78.2 = (h.2.1 + 12, h.2.2 + 3026) := by rw [e78]; show (h71.2.1 + 1, h71.2.2 + (List.replicate 5 (Value.int 0)).length) = _; rw [List.length_replicate, s71]
  refine kk _ _ _ hC ?_ rfl s78
  exact ⟨⟨⟨rfl, rfl, rfl, rfl, rfl, rfl, rfl, rfl, rfl, rfl, rfl⟩, rfl, rfl, rfl, rfl, rfl, rfl, rfl, rfl, rfl, rfl, rfl⟩, ⟨rfl, rfl, rfl, rfl, rfl⟩, ⟨rfl, rfl, rfl, rfl, rfl, rfl, rfl, rfl, rfl, rfl⟩, fun _ => rfl, fun _ => rfl, rfl, rfl, rfl, rfl, rfl, rfl, rfl, rfl⟩

