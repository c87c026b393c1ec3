/-! the first picture of the heap: the script, the String constants and their bytes -/
section W1
variable {s : State} {args : Array Value} {l : Launch} {K0 V0 : Nat → Nat}
def litF (s : State) (args : Array Value) (K0 V0 : Nat → Nat) : Prop := ∀ i : Nat, i < 42 → (Term.string (lAt i).1 (lAt i).2.1).eval args s none [] s = some (.ref (K0 i)) ∧ va_O "java/lang/String" (K0 i) (fun q => s.heap.size ≤ q) s s.heap ∧ va_OF "java/lang/String" "coder" "B" (.int 0) (K0 i) (fun q => s.heap.size ≤ q) s s.heap ∧ va_OF "java/lang/String" "value" "[B" (.ref (V0 i)) (K0 i) (fun q => s.heap.size ≤ q) s s.heap ∧ va_T .byte (V0 i) (lBy i).length (fun j => .int ((lBy i).getD j 0)) (fun q => s.heap.size ≤ q) s s.heap
theorem lit_fun (hgv : (Jvm.Cond.and given_1 narrow_1).before args s = true) : ∃ K0 V0 : Nat → Nat, litF s args K0 V0 := by
  have h0 : ∀ i : Nat, ∃ q : Nat × Nat, i < 42 → (Term.string (lAt i).1 (lAt i).2.1).eval args s none [] s = some (.ref q.1) ∧ va_O "java/lang/String" q.1 (fun q => s.heap.size ≤ q) s s.heap ∧ va_OF "java/lang/String" "coder" "B" (.int 0) q.1 (fun q => s.heap.size ≤ q) s s.heap ∧ va_OF "java/lang/String" "value" "[B" (.ref q.2) q.1 (fun q => s.heap.size ≤ q) s s.heap ∧ va_T .byte q.2 (lBy i).length (fun j => .int ((lBy i).getD j 0)) (fun q => s.heap.size ≤ q) s s.heap := by
    intro i
    by_cases hi : i < 42
    · obtain ⟨a, v, h⟩ := lit_of (A := fun q => s.heap.size ≤ q) (lit_in hgv hi) (lit_all i hi).2.1 (fun a h1 h2 => by omega)
      exact ⟨(a, v), fun _ => h⟩
    · exact ⟨(0, 0), fun h => absurd h hi⟩
  obtain ⟨ad, had⟩ := Classical.axiomOfChoice h0
  exact ⟨fun i => (ad i).1, fun i => (ad i).2, had⟩
theorem k0_lit : ∀ i : Nat, i < 42 → Cond.stringRef (lAt i).1 (lAt i).2.1 (lAt i).2.2 ∈ lw_tbl := by decide +kernel
theorem k0_nest : ∀ r ∈ mm_nest, Cond.methodLinkNest r.1 r.2.1 r.2.2.1 r.2.2.2 ∈ lw_tbl := by decide +kernel
theorem k0_over : ∀ C ∈ mm_over, Cond.arrayOver (.object C) ∈ lw_tbl := by decide +kernel
theorem k0_prv : ∀ y ∈ mm_prv, Cond.privateMethod y ∈ lw_tbl := by decide +kernel
def w0G (s : State) (l : Launch) (dC : Nat → ClassId) (dI : Nat → Nat → Nat) (dA : Nat → ClassId) (K0 : Nat → Nat) (fm : Option Nat) : mm_G := (l, dC, dI, dA, K0, s.heap.size, fm, fun t c => ∀ ty : FieldType, mm_arr[t]? = some ty → ArrOfT s c ty)
theorem k0_K (hts : ∀ w ∈ lw_tbl, w.before args s = true) (hl : litF s args K0 V0) {dC : Nat → ClassId} {dI : Nat → Nat → Nat} {dA : Nat → ClassId} {fm : Option Nat} (hc : ∀ (c : Nat) (q : vw_C), mm_cls[c]? = some q → u_Kn s q.1 q.2.1 q.2.2 (dC c) (dI c)) (ha : ∀ (t : Nat) (ty : FieldType), mm_arr[t]? = some ty → ArrOfT s (dA t) ty ∧ va_RA s (dA t) ty) : mm_K (w0G s l dC dI dA K0 fm) s := by
  refine ⟨hc, ha, fun i r hr => ?_, fun i r hr => va_Nw.of rfl (hts _ (k0_nest r (List.mem_of_getElem? hr))), fun i C hC => va_AO.of (hts _ (k0_over C (List.mem_of_getElem? hC))), fun i y hy => va_Nw.of rfl (hts _ (k0_prv y (List.mem_of_getElem? hy))), fun t ty ht c hcc => hcc ty ht⟩
  have hi : i < 42 := by
    have := (List.getElem?_eq_some_iff.mp hr).1
    rw [lit_n.1] at this
    exact this
  have er : r = lAt i := Option.some.inj (hr.symm.trans (lit_all i hi).2.2.1)
  rw [er]
  exact vk_R.of (A := args) (hts _ (k0_lit i hi)) (hl i hi).1
theorem k0_Z (hts : ∀ w ∈ lw_tbl, w.before args s = true) (hgv : (Jvm.Cond.and given_1 narrow_1).before args s = true) : ∃ fm : Option Nat, ∀ (i : Nat) (r : String × String × String × Option Value), mm_stat[i]? = some r → va_Z r.1 r.2.1 r.2.2.1 (r.2.2.2.getD (va_rf fm)) (fun q => s.heap.size ≤ q) s s.heap := by
  have hA : ∀ a : Nat, a < s.heap.size → ¬ s.heap.size ≤ a := fun a h1 h2 => by omega
  have hs := flat_of_before _ hgv
  have z0 : va_Z "java/lang/String" "COMPACT_STRINGS" "Z" (.int 1) (fun q => s.heap.size ≤ q) s s.heap := va_Zof (hts _ (by decide +kernel)) (hts _ (by decide +kernel)) (va_eqi (hs (.eq (.static "java/lang/String" "COMPACT_STRINGS" "Z") (.int 1)) (by decide +kernel))) hA
  have z1 : va_Zq "jdk/internal/util/Preconditions" "SIOOBE_FORMATTER" "Ljava/util/function/BiFunction;" (fun q => s.heap.size ≤ q) s s.heap := va_Zqof (hts _ (by decide +kernel)) (hts _ (by decide +kernel)) (hs (.isRef (.static "jdk/internal/util/Preconditions" "SIOOBE_FORMATTER" "Ljava/util/function/BiFunction;")) (by decide +kernel)) hA
  rcases z1 with z1 | ⟨t, z1⟩
  · refine ⟨none, fun i r hr => ?_⟩
    match i, hr with
    | 0, hr => cases hr; exact z0
    | 1, hr => cases hr; exact z1
    | n + 2, hr => cases hr
  · refine ⟨some t, fun i r hr => ?_⟩
    match i, hr with
    | 0, hr => cases hr; exact z0
    | 1, hr => cases hr; exact z1
    | n + 2, hr => cases hr

/-! what stands at one address is one thing -/
def hkd (s : State) (a : Nat) (k : Class) : Prop := ∃ cell : Cell, s.heap[a]? = some cell ∧ s.vm.classes[cell.cls]? = some k
theorem hkd.one {a : Nat} {k k' : Class} (h : hkd s a k) (h' : hkd s a k') : k = k' := by
  obtain ⟨c1, e1, g1⟩ := h
  obtain ⟨c2, e2, g2⟩ := h'
  have e : c1 = c2 := Option.some.inj (e1.symm.trans e2)
  rw [e] at g1
  exact Option.some.inj (g1.symm.trans g2)
theorem litF.kK (hl : litF s args K0 V0) {dC : Nat → ClassId} {dI : Nat → Nat → Nat} (hc : ∀ (c : Nat) (q : vw_C), mm_cls[c]? = some q → u_Kn s q.1 q.2.1 q.2.2 (dC c) (dI c)) {i : Nat} (hi : i < 42) : ∃ k : Class, hkd s (K0 i) k ∧ k.kind = .ordinary := by
  obtain ⟨-, ⟨cell, e1, e2, e3, -⟩, -⟩ := hl i hi
  obtain ⟨-, g1, k, g2, g3⟩ := hc 13 _ rfl
  have g1 : s.vm.findClass "java/lang/String" = some (dC 13) := g1
  have e : cell.cls = dC 13 := Option.some.inj (e3.symm.trans g1)
  exact ⟨k, ⟨cell, e1, by rw [e]; exact g2⟩, g3⟩
theorem litF.kV (hl : litF s args K0 V0) {i : Nat} (hi : i < 42) : ∃ (k : Class) (cp : ClassId), hkd s (V0 i) k ∧ k.kind = .array cp .byte := by
  obtain ⟨-, -, -, -, cell, e1, ⟨-, k, e2, cp, e3⟩, -⟩ := hl i hi
  exact ⟨k, cp, ⟨cell, e1, e2⟩, e3⟩
theorem vaX_k {b L : Nat} {xs : Nat → Int32} (hX : va_X b L xs s s.heap) : ∃ (k : Class) (cp : ClassId), hkd s b k ∧ k.kind = .array cp .int := by
  obtain ⟨cell, e1, ⟨-, k, e2, cp, e3⟩, -⟩ := hX
  exact ⟨k, cp, ⟨cell, e1, e2⟩, e3⟩
theorem litF.VV (hl : litF s args K0 V0) {i j : Nat} (hi : i < 42) (hj : j < 42) (e : K0 i = K0 j) : V0 i = V0 j := by
  obtain ⟨-, -, -, ⟨c1, k1, i1, f1, d1, a1, a2, a3, a4, a5, -⟩, -⟩ := hl i hi
  obtain ⟨-, -, -, ⟨c2, k2, i2, f2, d2, b1, b2, b3, b4, b5, -⟩, -⟩ := hl j hj
  rw [e] at a3
  have ed : d1 = d2 := Option.some.inj (a3.symm.trans b3)
  have ef : (c1, k1, i1, f1) = (c2, k2, i2, f2) := Option.some.inj (a1.symm.trans b1)
  have ef : f1 = f2 := by cases ef; rfl
  rw [ed, ef] at a5
  have := Option.some.inj (a5.symm.trans b5)
  injection this
theorem lBy_len {i : Nat} (hi : i < 42) : (lBy i).length < 200 := (mm_lit_asc (lit_all i hi).2.2.2).1
theorem ofNat_one {n m : Nat} (hn : n < 200) (hm : m < 200) (e : Int32.ofNat n = Int32.ofNat m) : n = m := by
  have h := congrArg Int32.toNatClampNeg e
  rwa [Int32.toNatClampNeg_ofNat_of_lt (by omega), Int32.toNatClampNeg_ofNat_of_lt (by omega)] at h
theorem litF.BB (hl : litF s args K0 V0) {i j : Nat} (hi : i < 42) (hj : j < 42) (e : V0 i = V0 j) : lBy i = lBy j := by
  obtain ⟨-, -, -, -, d1, a1, -, -, a2, a3, a4, -⟩ := hl i hi
  obtain ⟨-, -, -, -, d2, b1, -, -, b2, b3, b4, -⟩ := hl j hj
  rw [e] at a1
  have ed : d1 = d2 := Option.some.inj (a1.symm.trans b1)
  rw [ed] at a3 a4
  have en : (lBy i).length = (lBy j).length := ofNat_one (lBy_len hi) (lBy_len hj) (a3.symm.trans b3)
  refine List.ext_getElem en (fun k h1 h2 => ?_)
  have h := Option.some.inj ((a4 k h1).symm.trans (b4 k h2))
  injection h with h
  rw [List.getD_eq_getElem?_getD, List.getD_eq_getElem?_getD, List.getElem?_eq_getElem h1, List.getElem?_eq_getElem h2] at h
  exact h
def p0 (b N : Nat) (xs : Nat → Int32) (K0 V0 : Nat → Nat) (a : Nat) : Option mm_C :=
  if a = b then some (300, scO N xs) else match (List.range 42).find? (fun i => Nat.beq (K0 i) a) with
  | some i => some (213, [.ref (V0 i), .int 0])
  | none => match (List.range 42).find? (fun i => Nat.beq (V0 i) a) with
    | some i => some (301, bv (lBy i))
    | none => none
theorem p0_inv {b N : Nat} {xs : Nat → Int32} {a : Nat} {c : mm_C} (h : p0 b N xs K0 V0 a = some c) : (a = b ∧ c = (300, scO N xs)) ∨ (∃ i, i < 42 ∧ a = K0 i ∧ c = (213, [.ref (V0 i), .int 0])) ∨ ∃ i, i < 42 ∧ a = V0 i ∧ c = (301, bv (lBy i)) := by
  unfold p0 at h
  by_cases e : a = b
  · rw [if_pos e] at h
    exact Or.inl ⟨e, (Option.some.inj h).symm⟩
  · rw [if_neg e] at h
    cases q : (List.range 42).find? (fun i => Nat.beq (K0 i) a) with
    | some i =>
      rw [q] at h
      have g1 := List.mem_range.mp (List.mem_of_find?_eq_some q)
      have g2 : Nat.beq (K0 i) a = true := List.find?_some (p := fun i => Nat.beq (K0 i) a) q
      exact Or.inr (Or.inl ⟨i, g1, (Nat.eq_of_beq_eq_true g2).symm, (Option.some.inj h).symm⟩)
    | none =>
      rw [q] at h
      cases q2 : (List.range 42).find? (fun i => Nat.beq (V0 i) a) with
      | some i =>
        rw [q2] at h
        have g1 := List.mem_range.mp (List.mem_of_find?_eq_some q2)
        have g2 : Nat.beq (V0 i) a = true := List.find?_some (p := fun i => Nat.beq (V0 i) a) q2
        exact Or.inr (Or.inr ⟨i, g1, (Nat.eq_of_beq_eq_true g2).symm, (Option.some.inj h).symm⟩)
      | none => rw [q2] at h; cases h
theorem find_no {f : Nat → Nat} {a : Nat} (h : ∀ i, i < 42 → f i ≠ a) : (List.range 42).find? (fun i => Nat.beq (f i) a) = none := by
  rw [List.find?_eq_none]
  intro i hi e
  exact h i (List.mem_range.mp hi) (Nat.eq_of_beq_eq_true e)
theorem find_yes {f : Nat → Nat} {a i : Nat} (hi : i < 42) (h : f i = a) : ∃ j, j < 42 ∧ f j = a ∧ (List.range 42).find? (fun i => Nat.beq (f i) a) = some j := by
  cases q : (List.range 42).find? (fun i => Nat.beq (f i) a) with
  | some j => exact ⟨j, List.mem_range.mp (List.mem_of_find?_eq_some q), Nat.eq_of_beq_eq_true (List.find?_some (p := fun i => Nat.beq (f i) a) q), rfl⟩
  | none =>
    rw [List.find?_eq_none] at q
    exact absurd (by rw [h]; exact Nat.beq_refl a) (q i (List.mem_range.mpr hi))
theorem litF.lt (hl : litF s args K0 V0) {i : Nat} (hi : i < 42) : K0 i < s.heap.size ∧ V0 i < s.heap.size := by
  obtain ⟨-, ⟨c1, e1, -⟩, -, -, c2, e2, -⟩ := hl i hi
  exact ⟨(Array.getElem?_eq_some_iff.mp e1).1, (Array.getElem?_eq_some_iff.mp e2).1⟩
section P0
variable {b N : Nat} {xs : Nat → Int32} {dC : Nat → ClassId} {dI : Nat → Nat → Nat} {dA : Nat → ClassId} {fm : Option Nat}
theorem p0_b : p0 b N xs K0 V0 b = some (300, scO N xs) := if_pos rfl
theorem p0_K (hl : litF s args K0 V0) (hc : ∀ (c : Nat) (q : vw_C), mm_cls[c]? = some q → u_Kn s q.1 q.2.1 q.2.2 (dC c) (dI c)) (hX : va_X b N xs s s.heap) {i : Nat} (hi : i < 42) : p0 b N xs K0 V0 (K0 i) = some (213, [.ref (V0 i), .int 0]) := by
  have hne : K0 i ≠ b := fun e => by
    obtain ⟨k1, g1, g2⟩ := hl.kK hc hi
    obtain ⟨k2, cp, g3, g4⟩ := vaX_k hX
    rw [e] at g1
    rw [g1.one g3, g4] at g2
    cases g2
  obtain ⟨j, hj, ej, q⟩ := find_yes (f := K0) hi rfl
  unfold p0
  rw [if_neg hne, q]
  show some (213, [Value.ref (V0 j), Value.int 0]) = _
  rw [hl.VV hj hi ej]
theorem p0_V (hl : litF s args K0 V0) (hc : ∀ (c : Nat) (q : vw_C), mm_cls[c]? = some q → u_Kn s q.1 q.2.1 q.2.2 (dC c) (dI c)) (hX : va_X b N xs s s.heap) {i : Nat} (hi : i < 42) : p0 b N xs K0 V0 (V0 i) = some (301, bv (lBy i)) := by
  obtain ⟨kv, cv, v1, v2⟩ := hl.kV hi
  have hne : V0 i ≠ b := fun e => by
    obtain ⟨k2, cp, g3, g4⟩ := vaX_k hX
    rw [e] at v1
    rw [v1.one g3, g4] at v2
    cases v2
  have q1 := find_no (f := K0) (a := V0 i) (fun j hj e => by
    obtain ⟨k1, g1, g2⟩ := hl.kK hc hj
    rw [e] at g1
    rw [g1.one v1, v2] at g2
    cases g2)
  obtain ⟨j, hj, ej, q⟩ := find_yes (f := V0) hi rfl
  unfold p0
  rw [if_neg hne, q1]
  show (match (List.range 42).find? (fun k => Nat.beq (V0 k) (V0 i)) with
    | some i => some (301, bv (lBy i))
    | none => none) = _
  rw [q]
  show some (301, bv (lBy j)) = _
  rw [hl.BB hj hi ej]
theorem vm_stat {v : Cell} (h : ∀ k, v.vm ≠ .statics k) : v.vm.isStatics = false := by
  cases q : v.vm with
  | statics k => exact absurd q (h k)
  | _ => rfl
theorem mm_body_arr {G : mm_G} {c : mm_C} {cell : Cell} (t : Nat) (e : c.1 % 200 = 100 + t) (hw : mm_wr c.1 = false) (hG : G.2.2.2.2.2.2.2 t cell.cls) (hp : mm_pf c cell) (ht : t < mm_arr.length) : mm_body G c cell := by
  unfold mm_body
  rw [e, if_neg (fun z => by have := Nat.le_of_ble_eq_true z; omega), Nat.add_sub_cancel_left]
  exact ⟨Or.inr ⟨hw, hG⟩, hp, ht⟩
theorem mm_body_obj {G : mm_G} {c : mm_C} {cell : Cell} {q : vw_C} (t : Nat) (e : c.1 % 200 = t) (ht : Nat.blt t 100 = true) (hw : mm_wr c.1 = false) (hc : cell.cls = G.2.1 t) (hq : mm_cls[t]? = some q) (hs : ∀ (j : Nat) (v : Value), c.2[j]? = some v → cell.slots[G.2.2.1 t j]? = some v) : mm_body G c cell := by
  unfold mm_body
  rw [e, if_pos ht]
  exact ⟨hc, q, hq, (fun h => by rw [hw] at h; cases h), hs⟩
theorem mm_pf_ro {k : Nat} {vs : List Value} {cell : Cell} (hw : mm_wr k = false) (h1 : cell.slots.size.toInt32 = Int32.ofNat vs.length) (h2 : ∀ (j : Nat) (v : Value), vs[j]? = some v → cell.slots[j]? = some v) : mm_pf (k, vs) cell := ⟨(fun h => by rw [show mm_wr (k, vs).1 = mm_wr k from rfl, hw] at h; cases h), h1, h2⟩
theorem p0_atb (hX : va_X b N xs s s.heap) : mm_at (w0G s l dC dI dA K0 fm) b (300, scO N xs) s.heap := by
  obtain ⟨cell, e1, ⟨e2, k, e3, cp, e4⟩, e5, e6, e7⟩ := hX
  refine ⟨cell, e1, e5, vm_stat e2, (fun h => by cases h), mm_body_arr 0 (by decide : 300 % 200 = 100 + 0) rfl (fun ty hty => ?_) (mm_pf_ro rfl ?_ (fun j v h => ?_)) (by decide)⟩
  · cases hty
    exact fun n z => ⟨(fun k h => by cases h), k, e3, cp, e4⟩
  · unfold scO
    rw [List.length_map, List.length_range, e6]
  · have hj : j < N := by
      have := (List.getElem?_eq_some_iff.mp h).1
      unfold scO at this
      rwa [List.length_map, List.length_range] at this
    unfold scO at h
    rw [List.getElem?_map, List.getElem?_range hj] at h
    rw [e7 j hj]
    exact h
theorem p0_atV (hl : litF s args K0 V0) {i : Nat} (hi : i < 42) : mm_at (w0G s l dC dI dA K0 fm) (V0 i) (301, bv (lBy i)) s.heap := by
  obtain ⟨-, -, -, -, cell, e1, ⟨e2, k, e3, cp, e4⟩, e5, e6, e7, e8, -⟩ := hl i hi
  refine ⟨cell, e1, e5, vm_stat e2, (fun h => by cases h), mm_body_arr 1 (by decide : 301 % 200 = 100 + 1) rfl (fun ty hty => ?_) (mm_pf_ro rfl ?_ (fun j v h => ?_)) (by decide)⟩
  · cases hty
    exact fun n z => ⟨(fun k h => by cases h), k, e3, cp, e4⟩
  · unfold bv
    rw [List.length_map]
    exact e7
  · have hj : j < (lBy i).length := by
      have := (List.getElem?_eq_some_iff.mp h).1
      unfold bv at this
      rwa [List.length_map] at this
    unfold bv at h
    rw [List.getElem?_map, List.getElem?_eq_getElem hj] at h
    rw [e8 j hj, ← h]
    show some (Value.int ((lBy i).getD j 0)) = some (Value.int (lBy i)[j])
    rw [List.getD_eq_getElem?_getD, List.getElem?_eq_getElem hj]
    rfl
theorem p0_atK (hl : litF s args K0 V0) (hc : ∀ (c : Nat) (q : vw_C), mm_cls[c]? = some q → u_Kn s q.1 q.2.1 q.2.2 (dC c) (dI c)) {i : Nat} (hi : i < 42) : mm_at (w0G s l dC dI dA K0 fm) (K0 i) (213, [.ref (V0 i), .int 0]) s.heap := by
  obtain ⟨-, ⟨cell, e1, e2, e3, -⟩, ⟨c2, k2, i2, f2, d2, b1, b2, b3, b4, b5, -⟩, ⟨c1, k1, i1, f1, d1, a1, a2, a3, a4, a5, -⟩, -⟩ := hl i hi
  obtain ⟨g0, g1, -⟩ := hc 13 _ rfl
  have g1 : s.vm.findClass "java/lang/String" = some (dC 13) := g1
  have e : cell.cls = dC 13 := Option.some.inj (e3.symm.trans g1)
  have ed1 : d1 = cell := Option.some.inj (a3.symm.trans e1)
  have ed2 : d2 = cell := Option.some.inj (b3.symm.trans e1)
  rw [ed1] at a4 a5
  rw [ed2] at b5
  refine ⟨cell, e1, a4, e2, (fun h => by cases h), mm_body_obj (q := (RJ0, TJ0, 4)) 13 (by decide : 213 % 200 = 13) rfl rfl e rfl (fun j v h => ?_)⟩
  match j, h with
  | 0, h =>
    cases h
    obtain ⟨cf, kf, fi, fd, r1, r2⟩ := g0 0 (by decide)
    have r1 : s.fieldFound? "java/lang/String" "value" "[B" = some (cf, kf, fi, fd) := r1
    have ef : (c1, k1, i1, f1) = (cf, kf, fi, fd) := Option.some.inj (a1.symm.trans r1)
    have ef : f1 = fd := by cases ef; rfl
    show cell.slots[dI 13 0]? = _
    rw [← r2, ← ef]
    exact a5
  | 1, h =>
    cases h
    obtain ⟨cf, kf, fi, fd, r1, r2⟩ := g0 1 (by decide)
    have r1 : s.fieldFound? "java/lang/String" "coder" "B" = some (cf, kf, fi, fd) := r1
    have ef : (c2, k2, i2, f2) = (cf, kf, fi, fd) := Option.some.inj (b1.symm.trans r1)
    have ef : f2 = fd := by cases ef; rfl
    show cell.slots[dI 13 1]? = _
    rw [← r2, ← ef]
    exact b5
  | n + 2, h => cases h
def h0P (s : State) (b N : Nat) (xs : Nat → Int32) (K0 V0 : Nat → Nat) : mm_H := (p0 b N xs K0 V0, s.heap.size, mm_tot s.heap)
theorem p0_hp (hl : litF s args K0 V0) (hc : ∀ (c : Nat) (q : vw_C), mm_cls[c]? = some q → u_Kn s q.1 q.2.1 q.2.2 (dC c) (dI c)) (hX : va_X b N xs s s.heap) : mm_hp (w0G s l dC dI dA K0 fm) (h0P s b N xs K0 V0) s.heap := by
  refine ⟨rfl, rfl, fun a c h => ?_⟩
  rcases p0_inv h with ⟨rfl, rfl⟩ | ⟨i, hi, rfl, rfl⟩ | ⟨i, hi, rfl, rfl⟩
  · exact p0_atb hX
  · exact p0_atK hl hc hi
  · exact p0_atV hl hi
theorem p0_lt (hl : litF s args K0 V0) (hc : ∀ (c : Nat) (q : vw_C), mm_cls[c]? = some q → u_Kn s q.1 q.2.1 q.2.2 (dC c) (dI c)) (hX : va_X b N xs s s.heap) : lt_ (w0G s l dC dI dA K0 fm) (h0P s b N xs K0 V0) := by
  intro i bs hi
  have h42 : i < 42 := by
    have := (List.getElem?_eq_some_iff.mp hi).1
    rw [lit_n.2] at this
    exact this
  have eb : bs = lBy i := Option.some.inj (hi.symm.trans (lit_all i h42).2.2.2)
  rw [eb]
  exact ⟨V0 i, p0_K hl hc hX h42, p0_V hl hc hX h42, (hl.lt h42).1, (hl.lt h42).2⟩
theorem p0_in : mm_in (w0G s l dC dI dA K0 fm) (fun q => s.heap.size ≤ q) (h0P s b N xs K0 V0) := by
  refine ⟨fun q c h hw => ?_, fun q h => h, fun q h => h⟩
  rcases p0_inv h with ⟨rfl, rfl⟩ | ⟨i, hi, rfl, rfl⟩ | ⟨i, hi, rfl, rfl⟩
  · cases hw
  · cases hw
  · cases hw
end P0
end W1
