/-! THE SMALL MACHINE: one judgement over pictures of the heap, and a row an instruction.
A picture h: which cell (number of its kind, contents) stands at an address; the next free address; the slots in use. -/
abbrev mm_C : Type := Nat × List Value
abbrev mm_H : Type := (Nat → Option mm_C) × (Nat × Nat)
/-- launch, class of a kind, slot of a field, array class, address of a text, the lowest address that may be written, the library's formatter -/
abbrev mm_G : Type := Launch × (Nat → ClassId) × (Nat → Nat → Nat) × (Nat → ClassId) × (Nat → Nat) × Nat × Option Nat × (Nat → ClassId → Prop)
def mm_wr (k : Nat) : Bool := Nat.blt k 200
def mm_lk : List (Nat × Value) → Nat → Option Value
  | [], _ => none
  | (j, v) :: l, i => bif Nat.beq j i then some v else mm_lk l i
def mm_n2 (lv : List (Nat × Value)) : Nat → Bool
  | 0 => true
  | i + 1 => match mm_lk lv i with
    | some v => Nat.beq v.category 1
    | none => true
def mm_sub : List (Nat × Value) → List (Nat × Value) → Prop
  | [], _ => True
  | q :: l, lv => mm_lk lv q.1 = some q.2 ∧ mm_sub l lv
def mm_set (h : mm_H) (a : Nat) (c : mm_C) : mm_H := (fun b => if b = a then some c else h.1 b, h.2)
def mm_push (h : mm_H) (c : mm_C) : mm_H := (fun b => if b = h.2.1 then some c else h.1 b, h.2.1 + 1, h.2.2 + c.2.length)
def mm_isr : Value → Prop
  | .null => True
  | .ref _ => True
  | _ => False
def mm_tot (H : Heap) : Nat := (H.toList.map (fun c : Cell => c.slots.size)).sum
def mm_ws (y : mm_M) : List Cond := .code y.1 y.2.1 y.2.2.1 y.2.2.2 :: mm_tbl
theorem mm_tblG : ∀ w ∈ mm_tbl, (w.onTables && w.keeps) = true ∨ ∃ ty, w = .arrayClass ty := fun w hw => good_of_word (List.mem_filter.mp hw).2
def mm_prv : List MethodName := [⟨"java/lang/AbstractStringBuilder", "ensureCapacityInternal", "(I)V"⟩, ⟨"java/lang/AbstractStringBuilder", "putStringAt", "(ILjava/lang/String;)V"⟩, ⟨"java/lang/AbstractStringBuilder", "inflateIfNeededFor", "(Ljava/lang/String;)V"⟩]
/-- what the tables say, of a state -/
def mm_K (G : mm_G) (U : State) : Prop :=
  (∀ (c : Nat) (q : vw_C), mm_cls[c]? = some q → u_Kn U q.1 q.2.1 q.2.2 (G.2.1 c) (G.2.2.1 c)) ∧
  (∀ (t : Nat) (ty : FieldType), mm_arr[t]? = some ty → ArrOfT U (G.2.2.2.1 t) ty ∧ va_RA U (G.2.2.2.1 t) ty) ∧
  (∀ (i : Nat) (r : String × Nat × String), mm_lit[i]? = some r → vk_R r.1 r.2.1 r.2.2 (G.2.2.2.2.1 i) U) ∧
  (∀ (i : Nat) (r : String × Nat × MethodName × String), mm_nest[i]? = some r → va_Nw (.methodLinkNest r.1 r.2.1 r.2.2.1 r.2.2.2) U) ∧
  (∀ (i : Nat) (C : String), mm_over[i]? = some C → va_AO C U) ∧ (∀ (i : Nat) (x : MethodName), mm_prv[i]? = some x → va_Nw (.privateMethod x) U) ∧ ∀ (t : Nat) (ty : FieldType), mm_arr[t]? = some ty → ∀ c : ClassId, G.2.2.2.2.2.2.2 t c → ArrOfT U c ty
theorem mm_K.warm {G : mm_G} {s U : State} (hW : s.WarmedH U.vm) (h : mm_K G s) : mm_K G U :=
  ⟨fun c q hq => u_Kn_moved hW.alike (h.1 c q hq), fun t ty ht => ⟨arrOfT_moved hW.alike (h.2.1 t ty ht).1, (h.2.1 t ty ht).2.moved hW.alike⟩, fun i r hr => vk_R.warm hW (h.2.2.1 i r hr), fun i r hr => va_Nw.warmM hW (h.2.2.2.1 i r hr), fun i C hC => va_AO.moved hW.alike (h.2.2.2.2.1 i C hC), fun i x hx => va_tabs rfl (rfl : (s.setVm U.vm).vm = U.vm) (by rw [Cond.privateMethod_setVm hW.alike]; exact h.2.2.2.2.2.1 i x hx), fun t ty ht c hc => arrOfT_moved hW.alike (h.2.2.2.2.2.2 t ty ht c hc)⟩
/-- statics of the library, as they were at the start -/
def mm_Z (G : mm_G) (U : State) (H : Heap) : Prop := ∀ (i : Nat) (r : String × String × String × Option Value), mm_stat[i]? = some r → va_Z r.1 r.2.1 r.2.2.1 (r.2.2.2.getD (va_rf G.2.2.2.2.2.2.1)) (fun q => G.2.2.2.2.2.1 ≤ q) U H
/-- an array's contents: exactly, where it may be written; else as far as its picture goes (a constant's cell is known up to its length as a number of 32 bits) -/
def mm_pf (c : mm_C) (cell : Cell) : Prop := (mm_wr c.1 = true → cell.slots.toList = c.2) ∧ cell.slots.size.toInt32 = Int32.ofNat c.2.length ∧ ∀ (j : Nat) (v : Value), c.2[j]? = some v → cell.slots[j]? = some v
theorem mm_pf.of {c : mm_C} {cell : Cell} (e : cell.slots.toList = c.2) : mm_pf c cell := ⟨fun _ => e, by rw [← e, Array.length_toList], fun j v h => by rw [← Array.getElem?_toList, e]; exact h⟩
/-- a cell of the heap is as its picture -/
def mm_body (G : mm_G) (c : mm_C) (cell : Cell) : Prop :=
  if Nat.blt (c.1 % 200) 100 then cell.cls = G.2.1 (c.1 % 200) ∧ ∃ q : vw_C, mm_cls[c.1 % 200]? = some q ∧ (mm_wr c.1 = true → c.2.length = q.2.2) ∧ ∀ (j : Nat) (v : Value), c.2[j]? = some v → cell.slots[G.2.2.1 (c.1 % 200) j]? = some v
  else ((mm_wr c.1 = true ∧ cell.cls = G.2.2.2.1 (c.1 % 200 - 100)) ∨ (mm_wr c.1 = false ∧ G.2.2.2.2.2.2.2 (c.1 % 200 - 100) cell.cls)) ∧ mm_pf c cell ∧ c.1 % 200 - 100 < mm_arr.length
def mm_at (G : mm_G) (a : Nat) (c : mm_C) (H : Heap) : Prop :=
  ∃ cell : Cell, H[a]? = some cell ∧ cell.vm ≠ .unknown ∧ cell.vm.isStatics = false ∧ (mm_wr c.1 = true → cell.vm = .none) ∧ mm_body G c cell
def mm_hp (G : mm_G) (h : mm_H) (H : Heap) : Prop := H.size = h.2.1 ∧ mm_tot H = h.2.2 ∧ ∀ (a : Nat) (c : mm_C), h.1 a = some c → mm_at G a c H
def mm_in (G : mm_G) (A : Nat → Prop) (h : mm_H) : Prop := (∀ (q : Nat) (c : mm_C), h.1 q = some c → mm_wr c.1 = true → A q) ∧ (∀ q : Nat, h.2.1 ≤ q → A q) ∧ ∀ q : Nat, A q → G.2.2.2.2.2.1 ≤ q
def mm_fit (L : Nat × Nat) (h : mm_H) : Prop := h.2.1 ≤ L.1 ∧ h.2.2 ≤ L.2
def mm_ls (ls : Array Slot) (nL : Nat) (lv : List (Nat × Value)) : Prop := ls.size = nL ∧ lv_wf ls ∧ ∀ (i : Nat) (v : Value), mm_lk lv i = some v → ls[i]? = some (.val v)
def mm_Fix (G : mm_G) (y : mm_M) (p : Program) (s : State) (m : MethodId) (args : Array Value) (meth : Method) (c : Code) : Prop :=
  p.tables.exec = Jvm.exec ∧ c.code = y.2.1 ∧ meth.sig.returnType = y.2.2.2 ∧ c.maxLocals = y.2.2.1 ∧ s.vm.findClass y.1.cls = some m.cls ∧ meth.locks = false ∧ (y.1.name = "<init>" → meth.name = y.1.name) ∧ (∀ w ∈ mm_tbl, w.before args s = true) ∧ mm_K G s
def mm_Rm (L : Nat × Nat) (d : Nat) (R : Room) (s : State) : Prop := d ≤ R.frames ∧ 64 * d ≤ R.locals ∧ L.1 ≤ s.heap.size + R.cells ∧ L.2 ≤ mm_tot s.heap + R.slots
def mm_ok (G : mm_G) (A : Nat → Prop) (L : Nat × Nat) (h : mm_H) (s : State) (H : Heap) (locs : List Loc) : Prop :=
  mm_hp G h H ∧ mm_in G A h ∧ mm_fit L h ∧ va_S A s.heap H locs ∧ mm_Z G s H ∧ mm_tot s.heap ≤ mm_tot H
def mm_Qc (G : mm_G) (L : Nat × Nat) (A : Nat → Prop) (Q : Option Value → mm_H → Prop) : Array Value → State → Outcome → State → Prop := fun _ st o t =>
  (∃ (r : Option Value) (h : mm_H), o = .returned r ∧ Q r h ∧ mm_hp G h t.heap ∧ mm_in G A h ∧ mm_fit L h) ∧ va_F A st t
/-- from pc on, with locals lv, stack st and a heap like h, the method comes to its end with Q -/
def mm_Run (G : mm_G) (y : mm_M) (A : Nat → Prop) (L : Nat × Nat) (d pc : Nat) (lv : List (Nat × Value)) (st : List Value) (h : mm_H) (Q : Option Value → mm_H → Prop) : Prop :=
  ∀ (p : Program) (e : Env) (R : Room) (s : State) (m : MethodId) (args : Array Value) (below : List Frame) (meth : Method) (c : Code) (H : Heap) (locs : List Loc) (ls : Array Slot),
    mm_Fix G y p s m args meth c → mm_Rm L d R s → mm_ok G A L h s H locs → mm_ls ls y.2.2.1 lv →
    W p G.1 e R s m args below meth c H locs (H.size - s.heap.size) (mm_tot H - mm_tot s.heap) (MQ below (mm_Qc G L A Q) args s R.cells R.slots A) (F0 m pc ls st)
def mm_room (L : Nat × Nat) (d : Nat) (h : mm_H) : Room := { frames := d, cells := L.1 - h.2.1, slots := L.2 - h.2.2, locals := 64 * d }
def mm_Pc (G : mm_G) (av : List Value) (h : mm_H) : Array Value → State → Prop := va_Pc av (fun U => mm_hp G h U.heap ∧ mm_K G U ∧ mm_Z G U U.heap)
/-- a method's contract -/
def mm_Ok (G : mm_G) (y : mm_M) (L : Nat × Nat) (d : Nat) (av : List Value) (h : mm_H) (Q : Option Value → mm_H → Prop) : Prop :=
  ∀ A : Nat → Prop, mm_in G A h → mm_fit L h → Met G.1 y.1 (mm_ws y) (mm_room L d h) (mm_Pc G av h) (mm_Qc G L A Q) (L.1 - h.2.1) (L.2 - h.2.2) A
theorem mm_lk_mem {l : List (Nat × Value)} {i : Nat} {v : Value} (h : mm_lk l i = some v) : (i, v) ∈ l := by
  induction l with
  | nil => cases h
  | cons q l ih =>
    obtain ⟨q1, q2⟩ := q
    unfold mm_lk at h
    cases hb : Nat.beq q1 i with
    | true =>
      rw [hb] at h
      have e1 : q1 = i := Nat.eq_of_beq_eq_true hb
      have e2 : q2 = v := Option.some.inj h
      rw [← e1, ← e2]
      exact List.mem_cons_self
    | false =>
      rw [hb] at h
      exact List.mem_cons_of_mem _ (ih h)
def mm_li (lv : List (Nat × Value)) : List (Nat × Value) := (lv.map (fun q => q.1)).filterMap (fun i => (mm_lk lv i).map (fun v => (i, v)))
theorem mm_li_mem {lv : List (Nat × Value)} {i : Nat} {v : Value} (h : mm_lk lv i = some v) : (i, v) ∈ mm_li lv :=
  List.mem_filterMap.mpr ⟨i, List.mem_map.mpr ⟨(i, v), mm_lk_mem h, rfl⟩, by rw [h]; rfl⟩
theorem mm_li_lk {lv : List (Nat × Value)} {q : Nat × Value} (h : q ∈ mm_li lv) : mm_lk lv q.1 = some q.2 := by
  obtain ⟨i, -, hi⟩ := List.mem_filterMap.mp h
  cases hk : mm_lk lv i with
  | none => rw [hk] at hi; cases hi
  | some v => rw [hk] at hi; cases hi; exact hk
theorem mm_ls.has {ls : Array Slot} {nL : Nat} {lv : List (Nat × Value)} (h : mm_ls ls nL lv) : lv_has ls nL (mm_li lv) := ⟨h.1, h.2.1, fun q hq => h.2.2 q.1 q.2 (mm_li_lk hq)⟩
theorem mm_ls.of {ls : Array Slot} {nL : Nat} {lv : List (Nat × Value)} (h : lv_has ls nL lv) : mm_ls ls nL lv := ⟨h.1, h.2.1, fun i v hk => h.2.2 (i, v) (mm_lk_mem hk)⟩
theorem mm_ls.sub {ls : Array Slot} {nL : Nat} {lv lv' : List (Nat × Value)} (h : mm_ls ls nL lv') (hs : mm_sub lv lv') : mm_ls ls nL lv := by
  refine ⟨h.1, h.2.1, ?_⟩
  induction lv with
  | nil => intro i v hk; cases hk
  | cons q l ih =>
    intro i v hk
    obtain ⟨q1, q2⟩ := q
    unfold mm_lk at hk
    cases hb : Nat.beq q1 i with
    | true =>
      rw [hb] at hk
      have e1 : q1 = i := Nat.eq_of_beq_eq_true hb
      have e2 : q2 = v := Option.some.inj hk
      rw [← e1, ← e2]
      exact h.2.2 _ _ hs.1
    | false =>
      rw [hb] at hk
      exact ih hs.2 i v hk
theorem mm_ls.put1 {ls ls' : Array Slot} {nL i : Nat} {v : Value} {lv : List (Nat × Value)} (hn : mm_n2 lv i = true) (h : lv_has ls' nL ((i, v) :: (mm_li lv).filter (fun q => !(q.1 == i) && !(q.1 + 1 == i && q.2.category == 2)))) : mm_ls ls' nL ((i, v) :: lv) := by
  refine ⟨h.1, h.2.1, fun j w hk => ?_⟩
  unfold mm_lk at hk
  cases hb : Nat.beq i j with
  | true =>
    rw [hb] at hk
    have e1 : i = j := Nat.eq_of_beq_eq_true hb
    have e2 : v = w := Option.some.inj hk
    rw [← e1, ← e2]
    exact h.2.2 (i, v) List.mem_cons_self
  | false =>
    rw [hb] at hk
    have hk2 : mm_lk lv j = some w := hk
    have hne : ¬ j = i := fun e => Nat.ne_of_beq_eq_false hb e.symm
    refine h.2.2 (j, w) (List.mem_cons_of_mem _ (List.mem_filter.mpr ⟨mm_li_mem hk2, ?_⟩))
    have h2 : ¬ (j + 1 = i ∧ w.category = 2) := by
      rintro ⟨e, hc⟩
      subst e
      have hn2 : (match mm_lk lv j with
        | some v => Nat.beq v.category 1
        | none => true) = true := hn
      rw [hk2] at hn2
      have := Nat.eq_of_beq_eq_true hn2
      omega
    simp only [Bool.and_eq_true, Bool.not_eq_true', beq_eq_false_iff_ne, ne_eq, Bool.and_eq_false_iff]
    refine ⟨hne, ?_⟩
    by_cases e : j + 1 = i
    · exact Or.inr (fun hc => h2 ⟨e, hc⟩)
    · exact Or.inl e
theorem mm_ls.put2 {ls ls' : Array Slot} {nL i : Nat} {v : Value} {lv : List (Nat × Value)} (hn : mm_n2 lv i = true) (hu : mm_lk lv (i + 1) = none) (h : lv_has ls' nL ((i, v) :: (mm_li lv).filter (fun q => !(q.1 == i) && (!(q.1 == i + 1) && !(q.1 + 1 == i && q.2.category == 2))))) : mm_ls ls' nL ((i, v) :: lv) := by
  refine ⟨h.1, h.2.1, fun j w hk => ?_⟩
  unfold mm_lk at hk
  cases hb : Nat.beq i j with
  | true =>
    rw [hb] at hk
    have e1 : i = j := Nat.eq_of_beq_eq_true hb
    have e2 : v = w := Option.some.inj hk
    rw [← e1, ← e2]
    exact h.2.2 (i, v) List.mem_cons_self
  | false =>
    rw [hb] at hk
    have hk2 : mm_lk lv j = some w := hk
    have hne : ¬ j = i := fun e => Nat.ne_of_beq_eq_false hb e.symm
    have hne1 : ¬ j = i + 1 := fun e => by rw [e, hu] at hk2; cases hk2
    refine h.2.2 (j, w) (List.mem_cons_of_mem _ (List.mem_filter.mpr ⟨mm_li_mem hk2, ?_⟩))
    have h2 : ¬ (j + 1 = i ∧ w.category = 2) := by
      rintro ⟨e, hc⟩
      subst e
      have hn2 : (match mm_lk lv j with
        | some v => Nat.beq v.category 1
        | none => true) = true := hn
      rw [hk2] at hn2
      have := Nat.eq_of_beq_eq_true hn2
      omega
    simp only [Bool.and_eq_true, Bool.not_eq_true', beq_eq_false_iff_ne, ne_eq, Bool.and_eq_false_iff]
    refine ⟨hne, hne1, ?_⟩
    by_cases e : j + 1 = i
    · exact Or.inr (fun hc => h2 ⟨e, hc⟩)
    · exact Or.inl e
theorem mm_foldl (l : List Cell) (n : Nat) : l.foldl (fun (n : Nat) (c : Cell) => n + c.slots.size) n = n + (l.map (fun c : Cell => c.slots.size)).sum := by
  induction l generalizing n with
  | nil => simp
  | cons c l ih => simp only [List.foldl_cons, List.map_cons, List.sum_cons]; rw [ih]; omega
theorem mm_slotsTrue {s : State} (h : s.slotsTrue = true) : s.slotsUsed = mm_tot s.heap := by
  unfold State.slotsTrue at h
  have h1 := beq_iff_eq.mp h
  rw [h1, ← Array.foldl_toList, mm_foldl]
  unfold mm_tot
  omega
theorem mm_tot_congr {H H' : Heap} (h : ∀ q : Nat, (H'[q]?).map (fun c : Cell => c.slots.size) = (H[q]?).map (fun c : Cell => c.slots.size)) : mm_tot H' = mm_tot H := by
  unfold mm_tot
  congr 1
  refine List.ext_getElem? (fun i => ?_)
  rw [List.getElem?_map, List.getElem?_map, Array.getElem?_toList, Array.getElem?_toList]
  exact h i
theorem mm_heap_push {H H' : Heap} {cell : Cell} (z : H'.size = H.size + 1) (e : H'[H.size]? = some cell) (o : ∀ q : Nat, q < H.size → H'[q]? = H[q]?) : H' = H.push cell := by
  refine Array.ext_getElem? (fun i => ?_)
  rw [Array.getElem?_push]
  by_cases h1 : i = H.size
  · rw [if_pos h1, h1, e]
  · rw [if_neg h1]
    by_cases h2 : i < H.size
    · exact o i h2
    · rw [Array.getElem?_eq_none (by omega), Array.getElem?_eq_none (by omega)]
theorem mm_tot_push (H : Heap) (cell : Cell) : mm_tot (H.push cell) = mm_tot H + cell.slots.size := by
  unfold mm_tot
  rw [Array.toList_push, List.map_append, List.sum_append]
  simp
section MMT
variable {p : Program} {l : Launch} {e : Env} {R : Room} {s : State} {m : MethodId} {args : Array Value} {below : List Frame} {meth : Method} {c : Code} {H : Heap} {locs : List Loc} {cells slots : Nat} {Qs : State → Prop}
theorem mm_tightX {T : State} (hT : T.heap = H) (X : Stand p l e R s m args below meth c T locs cells slots) : Stand p l e R s m args below meth c T locs (H.size - s.heap.size) (mm_tot H - mm_tot s.heap) ∧ mm_tot s.heap ≤ mm_tot H := by
  obtain ⟨a1, b1, c1, d1, e1, f1⟩ := X.same
  have hb : T.slotsUsed = mm_tot T.heap := mm_slotsTrue X.book
  have hs : s.slotsUsed = mm_tot s.heap := mm_slotsTrue (by
    have h := X.room
    simp only [State.hasRoom, Bool.and_eq_true] at h
    exact h.2)
  have d2 : T.slotsUsed = s.slotsUsed + ((T.heap.toList.drop s.heap.size).map (fun c : Cell => c.slots.size)).sum := d1
  have b2 : s.heap.size ≤ T.heap.size := b1
  subst hT
  refine ⟨{ X with same := ⟨a1, b1, ?_, d1, ?_, f1⟩ }, by omega⟩
  · show T.heap.size ≤ s.heap.size + (T.heap.size - s.heap.size)
    omega
  · show ((T.heap.toList.drop s.heap.size).map (fun c : Cell => c.slots.size)).sum ≤ mm_tot T.heap - mm_tot s.heap
    omega
theorem mm_tight {g : JFrame} (k : mm_tot s.heap ≤ mm_tot H → W p l e R s m args below meth c H locs (H.size - s.heap.size) (mm_tot H - mm_tot s.heap) Qs g) : W p l e R s m args below meth c H locs cells slots Qs g := fun T hT X => k (mm_tightX hT X).2 T hT (mm_tightX hT X).1
end MMT
theorem mm_at.kept {G : mm_G} {a : Nat} {c : mm_C} {H H' : Heap} (h : mm_at G a c H) (e : H'[a]? = H[a]?) : mm_at G a c H' := by
  obtain ⟨cell, h1, h2⟩ := h
  exact ⟨cell, by rw [e]; exact h1, h2⟩
theorem mm_at.lt {G : mm_G} {a : Nat} {c : mm_C} {H : Heap} (h : mm_at G a c H) : a < H.size := by
  obtain ⟨cell, h1, h2⟩ := h
  exact (Array.getElem?_eq_some_iff.mp h1).1
theorem mm_Z.kept {G : mm_G} {U : State} {H H' : Heap} (h : mm_Z G U H) (e : ∀ q : Nat, q < H.size → ¬ G.2.2.2.2.2.1 ≤ q → H'[q]? = H[q]?) : mm_Z G U H' := fun i r hr => (h i r hr).kept e
theorem mm_ok.upd {G : mm_G} {A : Nat → Prop} {L : Nat × Nat} {h : mm_H} {s : State} {H H' : Heap} {locs : List Loc} {a k : Nat} {c0 c1 : mm_C} {cell cell' : Cell} (Ok : mm_ok G A L h s H locs) (hc : h.1 a = some c0) (hw : mm_wr c0.1 = true) (e0 : H[a]? = some cell) (e1 : H'[a]? = some cell') (z : H'.size = H.size) (oq : ∀ q : Nat, q ≠ a → H'[q]? = H[q]?) (hsz : cell'.slots.size = cell.slots.size) (hat : mm_at G a c1 H') : mm_ok G A L (mm_set h a c1) s H' (locs ++ [⟨a, k⟩]) := by
  obtain ⟨⟨o1, o2, o3⟩, ⟨i1, i2, i3⟩, f, S, Z, t⟩ := Ok
  have ht : mm_tot H' = mm_tot H := mm_tot_congr (fun q => by
    by_cases e : q = a
    · subst e; rw [e0, e1]; simp [hsz]
    · rw [oq q e])
  have hA : A a := i1 a c0 hc hw
  refine ⟨⟨by rw [z]; exact o1, by rw [ht]; exact o2, fun b c hb => ?_⟩, ⟨fun q c hq hwq => ?_, i2, i3⟩, f, S.put z oq hA, Z.kept (fun q _ hq => oq q (fun e => hq (by rw [e]; exact i3 a hA))), by rw [ht]; exact t⟩
  · have hb : (if b = a then some c1 else h.1 b) = some c := hb
    by_cases e : b = a
    · rw [if_pos e] at hb
      cases hb
      rw [e]
      exact hat
    · rw [if_neg e] at hb
      exact (o3 b c hb).kept (oq b e)
  · have hq : (if q = a then some c1 else h.1 q) = some c := hq
    by_cases e : q = a
    · rw [e]; exact hA
    · rw [if_neg e] at hq
      exact i1 q c hq hwq
theorem mm_ok.new {G : mm_G} {A : Nat → Prop} {L : Nat × Nat} {h : mm_H} {s : State} {H H' : Heap} {locs : List Loc} {c1 : mm_C} {cell : Cell} (Ok : mm_ok G A L h s H locs) (e1 : H'[H.size]? = some cell) (z : H'.size = H.size + 1) (o : ∀ q : Nat, q < H.size → H'[q]? = H[q]?) (hat : mm_at G H.size c1 H') (hsl : cell.slots.size = c1.2.length) (hL1 : h.2.1 + 1 ≤ L.1) (hL2 : h.2.2 + c1.2.length ≤ L.2) : mm_ok G A L (mm_push h c1) s H' locs := by
  obtain ⟨⟨o1, o2, o3⟩, ⟨i1, i2, i3⟩, f, S, Z, t⟩ := Ok
  have ht : mm_tot H' = mm_tot H + c1.2.length := by rw [mm_heap_push z e1 o, mm_tot_push, hsl]
  refine ⟨⟨by rw [z, o1]; rfl, by rw [ht, o2]; rfl, fun b c hb => ?_⟩, ⟨fun q c hq hwq => ?_, fun q hq => i2 q (Nat.le_of_succ_le hq), i3⟩, ⟨hL1, hL2⟩, ⟨Nat.le_trans S.1 (by omega), fun x h1 h2 => (o x (Nat.lt_of_lt_of_le h1 S.1)).trans (S.2.1 x h1 h2), S.2.2⟩, Z.kept (fun q hq _ => o q hq), by omega⟩
  · have hb : (if b = h.2.1 then some c1 else h.1 b) = some c := hb
    by_cases e : b = h.2.1
    · rw [if_pos e] at hb
      cases hb
      rw [e, ← o1]
      exact hat
    · rw [if_neg e] at hb
      exact (o3 b c hb).kept (o b (o3 b c hb).lt)
  · have hq : (if q = h.2.1 then some c1 else h.1 q) = some c := hq
    by_cases e : q = h.2.1
    · exact i2 q (by omega)
    · rw [if_neg e] at hq
      exact i1 q c hq hwq
