/-! fields -/
section MMH
variable {G : mm_G} {y : mm_M} {A : Nat → Prop} {L : Nat × Nat} {d pc : Nat} {lv : List (Nat × Value)} {st : List Value} {h : mm_H} {Q : Option Value → mm_H → Prop}
theorem mm_mod_of {c k : Nat} (hk : k % 200 = c) (hc : Nat.blt c 100 = true) : Nat.blt (k % 200) 100 = true := by rw [hk]; exact hc
theorem mm_get {a kd idx c j : Nat} {fs : List Value} {v : Value} (hd : decode y.2.1 pc = .ok (.getfield idx, 3)) (hl0 : mm_fl y.1.cls idx c j) (hc : h.1 a = some (kd, fs)) (hk : kd % 200 = c) (hv : fs[j]? = some v)
    (k : mm_Run G y A L d (pc + 3) lv (v :: st) h Q) : mm_Run G y A L d pc lv (.ref a :: st) h Q := by
  intro p e R s m args below meth c0 H locs ls F Rm Ok hl
  obtain ⟨hc1, C, T, N, hcl, hj, hin, hlink⟩ := hl0
  obtain ⟨cell, q1, q2, q3, q4, q5⟩ := Ok.1.2.2 a _ hc
  unfold mm_body at q5
  rw [if_pos (mm_mod_of hk hc1)] at q5
  obtain ⟨q6, q, q7, q8, q9⟩ := q5
  rw [show (kd, fs).1 % 200 = c from hk] at q6 q7 q9
  have hK := F.2.2.2.2.2.2.2.2
  have hts := F.2.2.2.2.2.2.2.1
  obtain ⟨hS, hfc, kC, hkC, hkind⟩ := hK.1 c _ hcl
  obtain ⟨cf, kf, fi, f, hi, hsl⟩ := hS j hj
  refine W.getf F.1 F.2.1 F.2.2.2.2.1 (hts _ hlink) hi (u_facts hfc hkC (u_lays hts hin hj) hi).1 q1 q2 (v := v) ?_ rfl rfl hd (k p e R s m args below meth c0 H locs ls F Rm Ok hl)
  rw [hsl]
  exact q9 j v hv
theorem mm_put {a kd idx c j : Nat} {fs : List Value} {v : Value} {ty : FieldType} (hd : decode y.2.1 pc = .ok (.putfield idx, 3)) (hl0 : mm_pl y.1.cls y.1.name idx c j ty) (hc : h.1 a = some (kd, fs)) (hk : kd = c) (hn : narrow ty v = v) (hf : fits ty v = true)
    (k : mm_Run G y A L d (pc + 3) lv st (mm_set h a (kd, fs.set j v)) Q) : mm_Run G y A L d pc lv (v :: .ref a :: st) h Q := by
  intro p e R s m args below meth c0 H locs ls F Rm Ok hl
  subst hk
  obtain ⟨hc1, C, T, N, ty0, hcl, hj, hin, hlink, hty, hnm, hd0, hfin⟩ := hl0
  have hlt : kd < 100 := Nat.le_of_ble_eq_true hc1
  have hm : kd % 200 = kd := Nat.mod_eq_of_lt (by omega)
  have hw : mm_wr kd = true := Nat.ble_eq_true_of_le (by omega)
  have hcell0 := Ok.1.2.2 a _ hc
  obtain ⟨cell, q1, q2, q3, q4, q5⟩ := hcell0
  unfold mm_body at q5
  rw [if_pos (mm_mod_of hm hc1)] at q5
  obtain ⟨q6, q, q7, q8, q9⟩ := q5
  rw [show (kd, fs).1 % 200 = kd from hm] at q6 q7 q9
  have hqe : q = (C, T, N) := Option.some.inj (q7.symm.trans hcl)
  subst hqe
  have q8 : fs.length = N := q8 hw
  have q4 : cell.vm = .none := q4 hw
  have hK := F.2.2.2.2.2.2.2.2
  have hts := F.2.2.2.2.2.2.2.1
  obtain ⟨hS, hfc, kC, hkC, hkind⟩ := hK.1 kd _ hcl
  obtain ⟨cf, kf, fi, f, hi, hsl⟩ := hS j hj
  have hst := (u_facts hfc hkC (u_lays hts hin hj) hi).1
  have hd1 : parseFieldDescriptor (T j).2.2.1 = some ty := by rw [hty j hj, hd0]
  have hap : ∀ x z, x < N → z < N → x ≠ z → (G.2.2.1 kd) x ≠ (G.2.2.1 kd) z := by
    intro x z hx hz hne
    obtain ⟨_, _, _, fa, hia, ea⟩ := hS x hx
    obtain ⟨_, _, _, fb, hib, eb⟩ := hS z hz
    rw [← ea, ← eb]
    refine u_apart (u_lays hts hin hx) (u_lays hts hin hz) hia hib ?_
    rw [(State.fieldFound?_type hia (hty x hx)).1, (State.fieldFound?_type hib (hty z hz)).1]
    exact hnm x hx z hz hne
  have hslot : ∃ w, cell.slots[(G.2.2.1 kd) j]? = some w := by
    have : j < fs.length := by omega
    exact ⟨fs[j], q9 j fs[j] (List.getElem?_eq_getElem this)⟩
  obtain ⟨w0, hw0⟩ := hslot
  have fin : ∀ H' : Heap, H'[a]? = some (cell.setSlot f.slot v) → H'.size = H.size → (∀ q, q ≠ a → H'[q]? = H[q]?) → W p G.1 e R s m args below meth c0 H' (locs ++ [⟨a, f.slot⟩]) (H.size - s.heap.size) (mm_tot H - mm_tot s.heap) (MQ below (mm_Qc G L A Q) args s R.cells R.slots A) (F0 m (pc + 3) ls st) := by
    intro H' e1 e2 e3
    refine mm_tight (fun _ => k p e R s m args below meth c0 H' _ ls F Rm (Ok.upd (k := f.slot) hc hw q1 e1 e2 e3 (k2_slotsz cell f.slot v) ?_) hl)
    refine ⟨_, e1, by show cell.vm ≠ _; exact q2, q3, fun _ => q4, ?_⟩
    unfold mm_body
    rw [if_pos (mm_mod_of hm hc1)]
    rw [show (kd, fs.set j v).1 % 200 = kd from hm]
    refine ⟨q6, (C, T, N), hcl, fun _ => by show (fs.set j v).length = N; rw [List.length_set]; exact q8, fun i u hu => ?_⟩
    have hu : (fs.set j v)[i]? = some u := hu
    show (cell.slots.setIfInBounds f.slot v)[(G.2.2.1 kd) i]? = some u
    have hil : i < fs.length := by
      have := (List.getElem?_eq_some_iff.mp hu).1
      rw [List.length_set] at this
      exact this
    by_cases hij : i = j
    · subst hij
      rw [List.getElem?_set_self hil] at hu
      cases hu
      rw [hsl]
      have := k2_hasslot hw0
      simp [Array.getElem?_setIfInBounds, this]
    · rw [List.getElem?_set_ne (fun e => hij e.symm)] at hu
      rw [hsl, Array.getElem?_setIfInBounds_ne (fun e => hap j i hj (by omega) (fun e => hij e.symm) e)]
      exact q9 i u hu
  have hlay := hts _ (hin _ (u_in_lay hj))
  unfold u_lay at hlay
  rcases hfin with hfin | ⟨hfin, hini, hdecl⟩
  · rw [if_neg (by rw [hfin]; decide)] at hlay
    have h6 := u_store hfc hkC hkind hlay hi hd1 hn hf
    exact W.putK F.1 F.2.1 (f := f) ⟨F.2.2.2.2.1, hts _ hlink, ⟨_, _, _, hi⟩, hst⟩ (by rw [q6]; exact h6) q1 q4 (by rw [hsl]; exact k2_hasslot hw0) rfl rfl hd fin
  · rw [if_pos hfin] at hlay
    have hcf : m.cls = cf := by
      obtain ⟨_, _, c', _, _, _, -, -, hf', -, -, -, hown2, -⟩ := Cond.laysFinal_spec hlay
      have e1 : c' = cf := by have := hi.symm.trans hf'; simp at this; exact this.1.symm
      rw [hdecl] at hown2
      rw [← e1]; exact Option.some.inj (F.2.2.2.2.1.symm.trans hown2)
    have h6 := u_fits hfc hkC hkind (Or.inr hlay) hi hd1 hn hf
    exact W.putFinK F.1 F.2.1 F.2.2.2.2.1 (hts _ hlink) hi hst hcf ((F.2.2.2.2.2.2.1 hini).trans hini) (by rw [q6]; exact h6) q1 q4 (by rw [hsl]; exact k2_hasslot hw0) rfl rfl hd fin
theorem mm_new {idx c : Nat} {fs : List Value} (hd : decode y.2.1 pc = .ok (.new idx, 3)) (hl0 : mm_nl y.1.cls idx c fs) (hL1 : h.2.1 + 1 ≤ L.1) (hL2 : h.2.2 + fs.length ≤ L.2)
    (k : mm_Run G y A L d (pc + 3) lv (.ref h.2.1 :: st) (mm_push h (c, fs)) Q) : mm_Run G y A L d pc lv st h Q := by
  intro p e R s m args below meth c0 H locs ls F Rm Ok hl
  obtain ⟨hc1, C, T, N, ty0, hcl, hin, hty, hfs, hclink, hinst, hini⟩ := hl0
  have hlt : c < 100 := Nat.le_of_ble_eq_true hc1
  have hm : c % 200 = c := Nat.mod_eq_of_lt (by omega)
  have hK := F.2.2.2.2.2.2.2.2
  have hts := F.2.2.2.2.2.2.2.1
  have hKn := hK.1 c _ hcl
  have hz := Ok.1.1
  have hz2 := Ok.1.2.1
  have hz5 := Ok.2.2.2.2.2
  have hsz := Ok.2.2.2.1.1
  have hfl : fs.length = N := by rw [hfs, List.length_map, List.length_range]
  unfold mm_Rm at Rm
  refine W.newcK F.1 F.2.1 F.2.2.2.2.1 (hts _ hclink) (hts _ hinst) (hts _ hini) (g := F0 m pc ls st) rfl hd (by omega) (by omega) hKn.2.1 rfl fun H1 kC hkC e1 z1 o1 => ?_
  have hOB := u_born ty0 hts hin hKn hkC e1 hty
  have hn : kC.instanceTypes.size = N := by
    obtain ⟨cC, kC2, g1, g2, g3, -, -, g4⟩ := Cond.instantiable_spec (hts _ hinst)
    have e2 : cC = G.2.1 c := Option.some.inj (g1.symm.trans hKn.2.1)
    subst e2
    have e3 : kC2 = kC := Option.some.inj (g2.symm.trans hkC)
    rw [← e3]
    exact g4
  refine mm_tight (fun _ => ?_)
  have key := k p e R s m args below meth c0 H1 locs ls F Rm (Ok.new (c1 := (c, fs)) e1 z1 o1 ?_ ?_ hL1 hL2) hl
  · rw [hz]
    exact key
  · obtain ⟨cell, g1, g2, g3, g4⟩ := hOB
    refine ⟨cell, g1, (by rw [g3]; exact fun z => by cases z), (by rw [g3]; rfl), fun _ => g3, ?_⟩
    unfold mm_body
    rw [if_pos (mm_mod_of hm hc1)]
    rw [show (c, fs).1 % 200 = c from hm]
    refine ⟨g2, (C, T, N), hcl, fun _ => hfl, fun j v hv => ?_⟩
    have hv : fs[j]? = some v := hv
    have hjl : j < N := by rw [← hfl]; exact (List.getElem?_eq_some_iff.mp hv).1
    rw [g4 j hjl]
    rw [hfs, List.getElem?_map, List.getElem?_range hjl] at hv
    exact hv
  · show (blank _ kC).slots.size = fs.length
    rw [hfl, ← hn]
    simp [blank]
/-! arrays -/
theorem mm_arrat {a kd : Nat} {vs : List Value} {ty : FieldType} {t : Nat} {s : State} {H : Heap} (hK : mm_K G s) (hat : mm_at G a (kd, vs) H) (hk : kd % 200 = 100 + t) (ht : mm_arr[t]? = some ty) : ∃ cell : Cell, H[a]? = some cell ∧ cell.vm ≠ .unknown ∧ (mm_wr kd = true → cell.vm = .none) ∧ cell.vm.isStatics = false ∧ (mm_wr kd = true → cell.cls = G.2.2.2.1 t) ∧ s.isArrayOf cell ty ∧ mm_pf (kd, vs) cell := by
  obtain ⟨cell, q1, q2, q3, q4, q5⟩ := hat
  unfold mm_body at q5
  rw [if_neg (by rw [show (kd, vs).1 % 200 = 100 + t from hk]; intro z; have := Nat.le_of_ble_eq_true z; omega)] at q5
  rw [show (kd, vs).1 % 200 = 100 + t from hk, show 100 + t - 100 = t by omega] at q5
  obtain ⟨q6, q7, q8⟩ := q5
  refine ⟨cell, q1, q2, q4, q3, fun hw => ?_, ⟨fun z hz => ?_, ?_⟩, q7⟩
  · rcases q6 with z | z
    · exact z.2
    · rw [show mm_wr kd = false from z.1] at hw; cases hw
  · rw [hz] at q3
    cases q3
  · rcases q6 with z | z
    · have hAr := (hK.2.1 t ty ht).1 0 (fun _ => .null)
      rw [z.2]
      exact hAr.2
    · exact (hK.2.2.2.2.2.2 t ty ht cell.cls z.2 0 (fun _ => .null)).2
theorem mm_alen {a kd t : Nat} {vs : List Value} (hd : decode y.2.1 pc = .ok (.arraylength, 1)) (hc : h.1 a = some (kd, vs)) (hk : kd % 200 = 100 + t) (ht : t < mm_arr.length)
    (k : mm_Run G y A L d (pc + 1) lv (.int (nI vs.length) :: st) h Q) : mm_Run G y A L d pc lv (.ref a :: st) h Q := by
  intro p e R s m args below meth c0 H locs ls F Rm Ok hl
  obtain ⟨cell, q1, q2, q4, q3, q6, q5, q7⟩ := mm_arrat F.2.2.2.2.2.2.2.2 (Ok.1.2.2 a _ hc) hk (List.getElem?_eq_getElem ht)
  refine W.alen F.1 F.2.1 q1 q5 (n := nI vs.length) ?_ rfl rfl hd (k p e R s m args below meth c0 H locs ls F Rm Ok hl)
  exact q7.2.1
theorem mm_vin {j : Int32} {cell : Cell} {vs : List Value} {v : Value} (h0 : ¬ j < 0) (e : ∀ (i : Nat) (u : Value), vs[i]? = some u → cell.slots[i]? = some u) (hv : vs[j.toNatClampNeg]? = some v) : ¬ (j < 0 ∨ cell.slots.size ≤ j.toNatClampNeg) ∧ cell.slots[j.toNatClampNeg]? = some v := by
  have hl := (Array.getElem?_eq_some_iff.mp (e _ _ hv)).1
  exact ⟨fun z => z.elim h0 (fun z => by omega), e _ _ hv⟩
theorem mm_iald {a kd : Nat} {vs : List Value} {j : Int32} {v : Value} (hd : decode y.2.1 pc = .ok (.iaload, 1)) (hc : h.1 a = some (kd, vs)) (hk : kd % 200 = 100 + 0) (h0 : ¬ j < 0) (hv : vs[j.toNatClampNeg]? = some v)
    (k : mm_Run G y A L d (pc + 1) lv (v :: st) h Q) : mm_Run G y A L d pc lv (.int j :: .ref a :: st) h Q := by
  intro p e R s m args below meth c0 H locs ls F Rm Ok hl
  obtain ⟨cell, q1, q2, q4, q3, q6, q5, q7⟩ := mm_arrat (ty := .int) F.2.2.2.2.2.2.2.2 (Ok.1.2.2 a _ hc) hk rfl
  exact W.iald F.1 F.2.1 q1 q5 q2 (mm_vin h0 q7.2.2 hv).1 (mm_vin h0 q7.2.2 hv).2 rfl rfl hd (k p e R s m args below meth c0 H locs ls F Rm Ok hl)
theorem mm_bald {a kd : Nat} {vs : List Value} {j : Int32} {v : Value} (hd : decode y.2.1 pc = .ok (.baload, 1)) (hc : h.1 a = some (kd, vs)) (hk : kd % 200 = 100 + 1) (h0 : ¬ j < 0) (hv : vs[j.toNatClampNeg]? = some v)
    (k : mm_Run G y A L d (pc + 1) lv (v :: st) h Q) : mm_Run G y A L d pc lv (.int j :: .ref a :: st) h Q := by
  intro p e R s m args below meth c0 H locs ls F Rm Ok hl
  obtain ⟨cell, q1, q2, q4, q3, q6, q5, q7⟩ := mm_arrat (ty := .byte) F.2.2.2.2.2.2.2.2 (Ok.1.2.2 a _ hc) hk rfl
  exact W.bald F.1 F.2.1 q1 q5 q2 (mm_vin h0 q7.2.2 hv).1 (mm_vin h0 q7.2.2 hv).2 rfl rfl hd (k p e R s m args below meth c0 H locs ls F Rm Ok hl)
theorem mm_zald {a kd : Nat} {vs : List Value} {j : Int32} {v : Value} (hd : decode y.2.1 pc = .ok (.baload, 1)) (hc : h.1 a = some (kd, vs)) (hk : kd % 200 = 100 + 2) (h0 : ¬ j < 0) (hv : vs[j.toNatClampNeg]? = some v)
    (k : mm_Run G y A L d (pc + 1) lv (v :: st) h Q) : mm_Run G y A L d pc lv (.int j :: .ref a :: st) h Q := by
  intro p e R s m args below meth c0 H locs ls F Rm Ok hl
  obtain ⟨cell, q1, q2, q4, q3, q6, q5, q7⟩ := mm_arrat (ty := .boolean) F.2.2.2.2.2.2.2.2 (Ok.1.2.2 a _ hc) hk rfl
  exact W.zald F.1 F.2.1 q1 q5 q2 (mm_vin h0 q7.2.2 hv).1 (mm_vin h0 q7.2.2 hv).2 rfl rfl hd (k p e R s m args below meth c0 H locs ls F Rm Ok hl)
theorem mm_lald {a kd : Nat} {vs : List Value} {j : Int32} {v : Value} (hd : decode y.2.1 pc = .ok (.laload, 1)) (hc : h.1 a = some (kd, vs)) (hk : kd % 200 = 100 + 3) (h0 : ¬ j < 0) (hv : vs[j.toNatClampNeg]? = some v)
    (k : mm_Run G y A L d (pc + 1) lv (v :: st) h Q) : mm_Run G y A L d pc lv (.int j :: .ref a :: st) h Q := by
  intro p e R s m args below meth c0 H locs ls F Rm Ok hl
  obtain ⟨cell, q1, q2, q4, q3, q6, q5, q7⟩ := mm_arrat (ty := .long) F.2.2.2.2.2.2.2.2 (Ok.1.2.2 a _ hc) hk rfl
  exact W.lald F.1 F.2.1 q1 q5 q2 (mm_vin h0 q7.2.2 hv).1 (mm_vin h0 q7.2.2 hv).2 rfl rfl hd (k p e R s m args below meth c0 H locs ls F Rm Ok hl)
theorem mm_aald {a kd t : Nat} {vs : List Value} {j : Int32} {v : Value} {ty : FieldType} (hd : decode y.2.1 pc = .ok (.aaload, 1)) (hc : h.1 a = some (kd, vs)) (hk : kd % 200 = 100 + t) (ht : mm_arr[t]? = some ty) (hty : ty.isReference = true) (h0 : ¬ j < 0) (hv : vs[j.toNatClampNeg]? = some v)
    (k : mm_Run G y A L d (pc + 1) lv (v :: st) h Q) : mm_Run G y A L d pc lv (.int j :: .ref a :: st) h Q := by
  intro p e R s m args below meth c0 H locs ls F Rm Ok hl
  obtain ⟨cell, q1, q2, q4, q3, q6, q5, q7⟩ := mm_arrat (ty := ty) F.2.2.2.2.2.2.2.2 (Ok.1.2.2 a _ hc) hk ht
  exact W.aald F.1 F.2.1 q1 q5 hty q2 (mm_vin h0 q7.2.2 hv).1 (mm_vin h0 q7.2.2 hv).2 rfl rfl hd (k p e R s m args below meth c0 H locs ls F Rm Ok hl)
theorem mm_updA {A : Nat → Prop} {L : Nat × Nat} {s : State} {H H' : Heap} {locs : List Loc} {a kd i : Nat} {vs : List Value} {v : Value} {cell : Cell} {t : Nat} (Ok : mm_ok G A L h s H locs) (hc : h.1 a = some (kd, vs)) (hw : mm_wr kd = true) (hk : kd % 200 = 100 + t) (ht : t < mm_arr.length) (q1 : H[a]? = some cell) (q3 : cell.vm = .none) (q6 : cell.cls = G.2.2.2.1 t) (q7 : cell.slots.toList = vs) (e1 : H'[a]? = some (cell.setSlot i v)) (z : H'.size = H.size) (oq : ∀ q : Nat, q ≠ a → H'[q]? = H[q]?) : mm_ok G A L (mm_set h a (kd, vs.set i v)) s H' (locs ++ [⟨a, i⟩]) := by
  refine Ok.upd hc hw q1 e1 z oq (k2_slotsz cell i v) ⟨_, e1, ?_, ?_, fun _ => q3, ?_⟩
  · show cell.vm ≠ _
    rw [q3]
    exact fun z => by cases z
  · show cell.vm.isStatics = false
    rw [q3]
    rfl
  · unfold mm_body
    rw [if_neg (by rw [show (kd, vs.set i v).1 % 200 = 100 + t from hk]; intro z; have := Nat.le_of_ble_eq_true z; omega)]
    rw [show (kd, vs.set i v).1 % 200 = 100 + t from hk, show 100 + t - 100 = t by omega]
    refine ⟨Or.inl ⟨hw, q6⟩, mm_pf.of ?_, ht⟩
    show (cell.slots.setIfInBounds i v).toList = vs.set i v
    rw [Array.toList_setIfInBounds, q7]
theorem mm_iast {a kd : Nat} {vs : List Value} {j : Int32} {x : Int32} (hd : decode y.2.1 pc = .ok (.iastore, 1)) (hc : h.1 a = some (kd, vs)) (hk : kd = 100 + 0) (h0 : ¬ j < 0) (hj : j.toNatClampNeg < vs.length)
    (k : mm_Run G y A L d (pc + 1) lv st (mm_set h a (kd, vs.set j.toNatClampNeg (.int x))) Q) : mm_Run G y A L d pc lv (.int x :: .int j :: .ref a :: st) h Q := by
  intro p e R s m args below meth c0 H locs ls F Rm Ok hl
  subst hk
  obtain ⟨cell, q1, q2, q4, q3, q6, q5, q7⟩ := mm_arrat (ty := .int) (t := 0) F.2.2.2.2.2.2.2.2 (Ok.1.2.2 a _ hc) rfl rfl
  exact W.iast F.1 F.2.1 q1 q5 q2 (mm_vin h0 q7.2.2 (List.getElem?_eq_getElem hj)).1 rfl rfl hd (fun H' e1 z oq => mm_tight (fun _ => k p e R s m args below meth c0 H' _ ls F Rm (mm_updA (t := 0) Ok hc rfl rfl (by decide) q1 (q4 rfl) (q6 rfl) (q7.1 rfl) e1 z oq) hl))
theorem mm_bast {a kd : Nat} {vs : List Value} {j : Int32} {x : Int32} (hd : decode y.2.1 pc = .ok (.bastore, 1)) (hc : h.1 a = some (kd, vs)) (hk : kd = 100 + 1) (h0 : ¬ j < 0) (hj : j.toNatClampNeg < vs.length)
    (k : mm_Run G y A L d (pc + 1) lv st (mm_set h a (kd, vs.set j.toNatClampNeg (narrow .byte (.int x)))) Q) : mm_Run G y A L d pc lv (.int x :: .int j :: .ref a :: st) h Q := by
  intro p e R s m args below meth c0 H locs ls F Rm Ok hl
  subst hk
  obtain ⟨cell, q1, q2, q4, q3, q6, q5, q7⟩ := mm_arrat (ty := .byte) (t := 1) F.2.2.2.2.2.2.2.2 (Ok.1.2.2 a _ hc) rfl rfl
  exact W.bast F.1 F.2.1 q1 q5 q2 (mm_vin h0 q7.2.2 (List.getElem?_eq_getElem hj)).1 rfl rfl hd (fun H' e1 z oq => mm_tight (fun _ => k p e R s m args below meth c0 H' _ ls F Rm (mm_updA (t := 1) Ok hc rfl rfl (by decide) q1 (q4 rfl) (q6 rfl) (q7.1 rfl) e1 z oq) hl))
theorem mm_zast {a kd : Nat} {vs : List Value} {j : Int32} {x : Int32} (hd : decode y.2.1 pc = .ok (.bastore, 1)) (hc : h.1 a = some (kd, vs)) (hk : kd = 100 + 2) (h0 : ¬ j < 0) (hj : j.toNatClampNeg < vs.length)
    (k : mm_Run G y A L d (pc + 1) lv st (mm_set h a (kd, vs.set j.toNatClampNeg (narrow .boolean (.int x)))) Q) : mm_Run G y A L d pc lv (.int x :: .int j :: .ref a :: st) h Q := by
  intro p e R s m args below meth c0 H locs ls F Rm Ok hl
  subst hk
  obtain ⟨cell, q1, q2, q4, q3, q6, q5, q7⟩ := mm_arrat (ty := .boolean) (t := 2) F.2.2.2.2.2.2.2.2 (Ok.1.2.2 a _ hc) rfl rfl
  exact W.zast F.1 F.2.1 q1 q5 q2 (mm_vin h0 q7.2.2 (List.getElem?_eq_getElem hj)).1 rfl rfl hd (fun H' e1 z oq => mm_tight (fun _ => k p e R s m args below meth c0 H' _ ls F Rm (mm_updA (t := 2) Ok hc rfl rfl (by decide) q1 (q4 rfl) (q6 rfl) (q7.1 rfl) e1 z oq) hl))
theorem mm_last {a kd : Nat} {vs : List Value} {j : Int32} {x : Int64} (hd : decode y.2.1 pc = .ok (.lastore, 1)) (hc : h.1 a = some (kd, vs)) (hk : kd = 100 + 3) (h0 : ¬ j < 0) (hj : j.toNatClampNeg < vs.length)
    (k : mm_Run G y A L d (pc + 1) lv st (mm_set h a (kd, vs.set j.toNatClampNeg (.long x))) Q) : mm_Run G y A L d pc lv (.long x :: .int j :: .ref a :: st) h Q := by
  intro p e R s m args below meth c0 H locs ls F Rm Ok hl
  subst hk
  obtain ⟨cell, q1, q2, q4, q3, q6, q5, q7⟩ := mm_arrat (ty := .long) (t := 3) F.2.2.2.2.2.2.2.2 (Ok.1.2.2 a _ hc) rfl rfl
  exact W.last F.1 F.2.1 q1 q5 q2 (mm_vin h0 q7.2.2 (List.getElem?_eq_getElem hj)).1 rfl rfl hd (fun H' e1 z oq => mm_tight (fun _ => k p e R s m args below meth c0 H' _ ls F Rm (mm_updA (t := 3) Ok hc rfl rfl (by decide) q1 (q4 rfl) (q6 rfl) (q7.1 rfl) e1 z oq) hl))
theorem mm_aastN {a kd t : Nat} {vs : List Value} {j : Int32} {C : String} (hd : decode y.2.1 pc = .ok (.aastore, 1)) (hc : h.1 a = some (kd, vs)) (hk : kd = 100 + t) (ht : mm_arr[t]? = some (.object C)) (h0 : ¬ j < 0) (hj : j.toNatClampNeg < vs.length)
    (k : mm_Run G y A L d (pc + 1) lv st (mm_set h a (kd, vs.set j.toNatClampNeg .null)) Q) : mm_Run G y A L d pc lv (.null :: .int j :: .ref a :: st) h Q := by
  intro p e R s m args below meth c0 H locs ls F Rm Ok hl
  have hlt : t < mm_arr.length := (List.getElem?_eq_some_iff.mp ht).1
  have hlt2 : t < 100 := Nat.lt_of_lt_of_le hlt (by decide)
  have hm : kd % 200 = 100 + t := by rw [hk]; exact Nat.mod_eq_of_lt (by omega)
  have hw : mm_wr kd = true := Nat.ble_eq_true_of_le (by omega)
  obtain ⟨cell, q1, q2, q4, q3, q6, q5, q7⟩ := mm_arrat (ty := .object C) F.2.2.2.2.2.2.2.2 (Ok.1.2.2 a _ hc) hm ht
  exact va_WaastN (C := C) F.1 F.2.1 q1 q5 q2 (mm_vin h0 q7.2.2 (List.getElem?_eq_getElem hj)).1 rfl rfl hd (fun H' e1 z oq => mm_tight (fun _ => k p e R s m args below meth c0 H' _ ls F Rm (mm_updA (t := t) Ok hc hw hm hlt q1 (q4 hw) (q6 hw) (q7.1 hw) e1 z oq) hl))
theorem mm_aast {a kd t b kb cb : Nat} {vs fs : List Value} {j : Int32} {C : String} {T : u_T} {N : Nat} (hd : decode y.2.1 pc = .ok (.aastore, 1)) (hc : h.1 a = some (kd, vs)) (hk : kd = 100 + t) (ht : mm_arr[t]? = some (.object C)) (hb : h.1 b = some (kb, fs)) (hkb : kb % 200 = cb) (hcb : Nat.blt cb 100 = true) (hcl : mm_cls[cb]? = some (C, T, N)) (h0 : ¬ j < 0) (hj : j.toNatClampNeg < vs.length)
    (k : mm_Run G y A L d (pc + 1) lv st (mm_set h a (kd, vs.set j.toNatClampNeg (.ref b))) Q) : mm_Run G y A L d pc lv (.ref b :: .int j :: .ref a :: st) h Q := by
  intro p e R s m args below meth c0 H locs ls F Rm Ok hl
  have hlt : t < mm_arr.length := (List.getElem?_eq_some_iff.mp ht).1
  have hlt2 : t < 100 := Nat.lt_of_lt_of_le hlt (by decide)
  have hm : kd % 200 = 100 + t := by rw [hk]; exact Nat.mod_eq_of_lt (by omega)
  have hw : mm_wr kd = true := Nat.ble_eq_true_of_le (by omega)
  have hK := F.2.2.2.2.2.2.2.2
  obtain ⟨cell, q1, q2, q4, q3, q6, q5, q7⟩ := mm_arrat (ty := .object C) hK (Ok.1.2.2 a _ hc) hm ht
  obtain ⟨cellV, g1, g2, g3, g4, g5⟩ := Ok.1.2.2 b _ hb
  unfold mm_body at g5
  rw [if_pos (mm_mod_of hkb hcb)] at g5
  obtain ⟨g6, -⟩ := g5
  rw [show (kb, fs).1 % 200 = cb from hkb] at g6
  have hcls := (hK.1 cb _ hcl).2
  obtain ⟨kA, comp, k1, k2, k3, -⟩ := (hK.2.1 t _ ht).2
  have hcomp : comp = G.2.1 cb := Option.some.inj (k3.symm.trans hcls.1)
  subst hcomp
  obtain ⟨kC, hkC, -⟩ := hcls.2
  have hv := mm_vin h0 q7.2.2 (List.getElem?_eq_getElem hj)
  exact W.aast F.1 F.2.1 q1 (fun q hq => by rw [hq] at q3; cases q3) q2 (by rw [q6 hw]; exact k1) k2 rfl hkC ⟨h0, Nat.not_le.mp fun q => hv.1 (Or.inr q)⟩ g1 (fun q hq => by rw [hq] at g3; cases g3) (by rw [g6]; exact hkC) (by rw [g6]; exact va_assign hcls) rfl rfl hd (fun H' e1 z oq => mm_tight (fun _ => k p e R s m args below meth c0 H' _ ls F Rm (mm_updA (t := t) Ok hc hw hm hlt q1 (q4 hw) (q6 hw) (q7.1 hw) e1 z oq) hl))
theorem mm_bornA {A : Nat → Prop} {L : Nat × Nat} {s : State} {H H' : Heap} {locs : List Loc} {t N : Nat} {cA : ClassId} {v : Value} (Ok : mm_ok G A L h s H locs) (hA : cA = G.2.2.2.1 t) (ht : t < mm_arr.length) (e1 : H'[H.size]? = some (arrV cA N (fun _ => v))) (z : H'.size = H.size + 1) (o : ∀ q : Nat, q < H.size → H'[q]? = H[q]?) (hL1 : h.2.1 + 1 ≤ L.1) (hL2 : h.2.2 + N ≤ L.2) : mm_ok G A L (mm_push h (100 + t, List.replicate N v)) s H' locs := by
  have hlt2 : t < 100 := Nat.lt_of_lt_of_le ht (by decide)
  have hm : (100 + t) % 200 = 100 + t := Nat.mod_eq_of_lt (by omega)
  rw [← arrV_new] at e1
  refine Ok.new e1 z o ⟨_, e1, (fun z => by cases z), rfl, fun _ => rfl, ?_⟩ (by simp) hL1 (by simpa using hL2)
  unfold mm_body
  rw [if_neg (by rw [show ((100 + t, List.replicate N v) : mm_C).1 % 200 = 100 + t from hm]; intro z; have := Nat.le_of_ble_eq_true z; omega)]
  rw [show ((100 + t, List.replicate N v) : mm_C).1 % 200 = 100 + t from hm, show 100 + t - 100 = t by omega]
  exact ⟨Or.inl ⟨Nat.ble_eq_true_of_le (show 100 + t + 1 ≤ 200 by omega), hA⟩, mm_pf.of (by simp), ht⟩
theorem mm_newa_int {n : Int32} {N : Nat} (hd : decode y.2.1 pc = .ok (.newarray .int, 2)) (hw : Cond.arrayClass .int ∈ mm_tbl) (hn : ¬ n < 0) (hN : n.toNatClampNeg = N) (hbt : N ≤ 60000000) (hL1 : h.2.1 + 1 ≤ L.1) (hL2 : h.2.2 + N ≤ L.2)
    (k : mm_Run G y A L d (pc + 2) lv (.ref h.2.1 :: st) (mm_push h (100, List.replicate N (.int 0))) Q) : mm_Run G y A L d pc lv (.int n :: st) h Q := by
  intro p e R s m args below meth c0 H locs ls F Rm Ok hl
  have hK := F.2.2.2.2.2.2.2.2
  have hts := F.2.2.2.2.2.2.2.1
  have hz := Ok.1.1
  have hz2 := Ok.1.2.1
  have hz5 := Ok.2.2.2.2.2
  have hsz := Ok.2.2.2.1.1
  unfold mm_Rm at Rm
  refine va_newaK F.1 F.2.1 (atype := .int) (hts _ hw) (g := F0 m pc ls (.int n :: st)) rfl hd rfl hn hN (Nat.le_trans (Nat.mul_le_mul_left N (show componentBytes .int ≤ 8 by decide)) (by omega)) (by omega) (by omega) hz fun H1 cA e1 z1 o1 hAr hNm => ?_
  have hA : cA = G.2.2.2.1 0 := Option.some.inj (hNm.symm.trans (hK.2.1 0 .int rfl).2)
  refine mm_tight (fun _ => ?_)
  exact k p e R s m args below meth c0 H1 locs ls F Rm (mm_bornA (t := 0) Ok hA (by decide) (by rw [hz]; exact e1) (by rw [hz]; exact z1) (fun q hq => o1 q (by omega)) hL1 hL2) hl
theorem mm_newa_byte {n : Int32} {N : Nat} (hd : decode y.2.1 pc = .ok (.newarray .byte, 2)) (hw : Cond.arrayClass .byte ∈ mm_tbl) (hn : ¬ n < 0) (hN : n.toNatClampNeg = N) (hbt : N ≤ 60000000) (hL1 : h.2.1 + 1 ≤ L.1) (hL2 : h.2.2 + N ≤ L.2)
    (k : mm_Run G y A L d (pc + 2) lv (.ref h.2.1 :: st) (mm_push h (101, List.replicate N (.int 0))) Q) : mm_Run G y A L d pc lv (.int n :: st) h Q := by
  intro p e R s m args below meth c0 H locs ls F Rm Ok hl
  have hK := F.2.2.2.2.2.2.2.2
  have hts := F.2.2.2.2.2.2.2.1
  have hz := Ok.1.1
  have hz2 := Ok.1.2.1
  have hz5 := Ok.2.2.2.2.2
  have hsz := Ok.2.2.2.1.1
  unfold mm_Rm at Rm
  refine va_newaK F.1 F.2.1 (atype := .byte) (hts _ hw) (g := F0 m pc ls (.int n :: st)) rfl hd rfl hn hN (Nat.le_trans (Nat.mul_le_mul_left N (show componentBytes .byte ≤ 8 by decide)) (by omega)) (by omega) (by omega) hz fun H1 cA e1 z1 o1 hAr hNm => ?_
  have hA : cA = G.2.2.2.1 1 := Option.some.inj (hNm.symm.trans (hK.2.1 1 .byte rfl).2)
  refine mm_tight (fun _ => ?_)
  exact k p e R s m args below meth c0 H1 locs ls F Rm (mm_bornA (t := 1) Ok hA (by decide) (by rw [hz]; exact e1) (by rw [hz]; exact z1) (fun q hq => o1 q (by omega)) hL1 hL2) hl
theorem mm_newa_boolean {n : Int32} {N : Nat} (hd : decode y.2.1 pc = .ok (.newarray .boolean, 2)) (hw : Cond.arrayClass .boolean ∈ mm_tbl) (hn : ¬ n < 0) (hN : n.toNatClampNeg = N) (hbt : N ≤ 60000000) (hL1 : h.2.1 + 1 ≤ L.1) (hL2 : h.2.2 + N ≤ L.2)
    (k : mm_Run G y A L d (pc + 2) lv (.ref h.2.1 :: st) (mm_push h (102, List.replicate N (.int 0))) Q) : mm_Run G y A L d pc lv (.int n :: st) h Q := by
  intro p e R s m args below meth c0 H locs ls F Rm Ok hl
  have hK := F.2.2.2.2.2.2.2.2
  have hts := F.2.2.2.2.2.2.2.1
  have hz := Ok.1.1
  have hz2 := Ok.1.2.1
  have hz5 := Ok.2.2.2.2.2
  have hsz := Ok.2.2.2.1.1
  unfold mm_Rm at Rm
  refine va_newaK F.1 F.2.1 (atype := .boolean) (hts _ hw) (g := F0 m pc ls (.int n :: st)) rfl hd rfl hn hN (Nat.le_trans (Nat.mul_le_mul_left N (show componentBytes .boolean ≤ 8 by decide)) (by omega)) (by omega) (by omega) hz fun H1 cA e1 z1 o1 hAr hNm => ?_
  have hA : cA = G.2.2.2.1 2 := Option.some.inj (hNm.symm.trans (hK.2.1 2 .boolean rfl).2)
  refine mm_tight (fun _ => ?_)
  exact k p e R s m args below meth c0 H1 locs ls F Rm (mm_bornA (t := 2) Ok hA (by decide) (by rw [hz]; exact e1) (by rw [hz]; exact z1) (fun q hq => o1 q (by omega)) hL1 hL2) hl
theorem mm_newa_long {n : Int32} {N : Nat} (hd : decode y.2.1 pc = .ok (.newarray .long, 2)) (hw : Cond.arrayClass .long ∈ mm_tbl) (hn : ¬ n < 0) (hN : n.toNatClampNeg = N) (hbt : N ≤ 60000000) (hL1 : h.2.1 + 1 ≤ L.1) (hL2 : h.2.2 + N ≤ L.2)
    (k : mm_Run G y A L d (pc + 2) lv (.ref h.2.1 :: st) (mm_push h (103, List.replicate N (.long 0))) Q) : mm_Run G y A L d pc lv (.int n :: st) h Q := by
  intro p e R s m args below meth c0 H locs ls F Rm Ok hl
  have hK := F.2.2.2.2.2.2.2.2
  have hts := F.2.2.2.2.2.2.2.1
  have hz := Ok.1.1
  have hz2 := Ok.1.2.1
  have hz5 := Ok.2.2.2.2.2
  have hsz := Ok.2.2.2.1.1
  unfold mm_Rm at Rm
  refine va_newaK F.1 F.2.1 (atype := .long) (hts _ hw) (g := F0 m pc ls (.int n :: st)) rfl hd rfl hn hN (Nat.le_trans (Nat.mul_le_mul_left N (show componentBytes .long ≤ 8 by decide)) (by omega)) (by omega) (by omega) hz fun H1 cA e1 z1 o1 hAr hNm => ?_
  have hA : cA = G.2.2.2.1 3 := Option.some.inj (hNm.symm.trans (hK.2.1 3 .long rfl).2)
  refine mm_tight (fun _ => ?_)
  exact k p e R s m args below meth c0 H1 locs ls F Rm (mm_bornA (t := 3) Ok hA (by decide) (by rw [hz]; exact e1) (by rw [hz]; exact z1) (fun q hq => o1 q (by omega)) hL1 hL2) hl
theorem mm_anew {n : Int32} {N t idx i : Nat} {C : String} (hd : decode y.2.1 pc = .ok (.anewarray idx, 3)) (hcl : Cond.classLink y.1.cls idx C ∈ mm_tbl) (hov : mm_over[i]? = some C) (ht : mm_arr[t]? = some (.object C)) (hn : ¬ n < 0) (hN : n.toNatClampNeg = N) (hbt : N ≤ 60000000) (hL1 : h.2.1 + 1 ≤ L.1) (hL2 : h.2.2 + N ≤ L.2)
    (k : mm_Run G y A L d (pc + 3) lv (.ref h.2.1 :: st) (mm_push h (100 + t, List.replicate N .null)) Q) : mm_Run G y A L d pc lv (.int n :: st) h Q := by
  intro p e R s m args below meth c0 H locs ls F Rm Ok hl
  have hK := F.2.2.2.2.2.2.2.2
  have hts := F.2.2.2.2.2.2.2.1
  have hlt : t < mm_arr.length := (List.getElem?_eq_some_iff.mp ht).1
  have hz := Ok.1.1
  have hz2 := Ok.1.2.1
  have hz5 := Ok.2.2.2.2.2
  have hsz := Ok.2.2.2.1.1
  unfold mm_Rm at Rm
  subst hN
  refine W.anew F.1 F.2.1 F.2.2.2.2.1 (hts _ hcl) (va_AO.use (hK.2.2.2.2.1 i C hov)) (g := F0 m pc ls (.int n :: st)) rfl hd rfl hn (by omega) (by omega) (by omega) fun cA kA comp f1 f2 f3 f4 => ?_
  generalize hH1 : H.push ({ cls := cA, slots := Array.replicate n.toNatClampNeg .null, vm := .none } : Cell) = H1
  have z1 : H1.size = H.size + 1 := by rw [← hH1, Array.size_push]
  have e1 : H1[H.size]? = some (arrV cA n.toNatClampNeg (fun _ => .null)) := by rw [← hH1, Array.getElem?_push_size, ← arrV_new]
  have o1 : ∀ q : Nat, q < H.size → H1[q]? = H[q]? := fun q hq => by rw [← hH1, Array.getElem?_push, if_neg (Nat.ne_of_lt hq)]
  obtain ⟨kA2, comp2, -, -, -, g4⟩ := (hK.2.1 t _ ht).2
  have hA : cA = G.2.2.2.1 t := Option.some.inj (f1.symm.trans g4)
  refine mm_tight (fun _ => ?_)
  rw [hz]
  exact k p e R s m args below meth c0 H1 locs ls F Rm (mm_bornA (t := t) Ok hA hlt e1 z1 o1 hL1 hL2) hl
end MMH
