/-! the library's calls: static fields, inherited and super methods, Math.min, System.arraycopy, casts -/
def mm_ul (own : String) (idx c : Nat) (x : MethodName) (y : mm_M) (n : Nat) : Prop := mm_cd y n ∧ Cond.methodLink own idx x ∈ mm_tbl ∧ Cond.sameMethod x.cls x.cls x.name x.desc ∈ mm_tbl ∧ Cond.instanceMethod x ∈ mm_tbl ∧ (∃ b m r, Cond.code x b m r ∈ mm_tbl) ∧ Cond.instanceMethod y.1 ∈ mm_tbl ∧ (x.cls ≠ "java/lang/invoke/MethodHandle" ∧ x.cls ≠ "java/lang/invoke/VarHandle") ∧ (parseMethodDescriptor x.desc).map (fun d => d.parameters.length) = some n ∧ Nat.blt c 100 = true ∧
  ∃ (C : String) (T : u_T) (N : Nat), mm_cls[c]? = some (C, T, N) ∧ (Cond.selects C x y.1 ∈ mm_tbl ∨ (y.1 = x ∧ (∃ i : Nat, mm_prv[i]? = some x) ∧ Cond.instantiable C N ∈ mm_tbl))
def mm_sul (own : String) (idx : Nat) (y : mm_M) (n : Nat) : Prop := mm_cd y n ∧ Cond.methodLink own idx y.1 ∈ mm_tbl ∧ Cond.sameMethod y.1.cls y.1.cls y.1.name y.1.desc ∈ mm_tbl ∧ Cond.superclass own y.1.cls ∈ mm_tbl ∧ Cond.instanceMethod y.1 ∈ mm_tbl ∧ y.1.name ≠ "<init>"
theorem mm_selP {C : String} {y : MethodName} {s : State} {args : Array Value} {n : Nat} (hy : y.cls ≠ "java/lang/invoke/MethodHandle" ∧ y.cls ≠ "java/lang/invoke/VarHandle")
    (hins : (Cond.instantiable C n).before args s = true) (hsame : (Cond.sameMethod y.cls y.cls y.name y.desc).before args s = true) (hpriv : (Cond.privateMethod y).before args s = true) (hinst : (Cond.instanceMethod y).before args s = true) :
    (Cond.selects C y y).before args s = true := by
  obtain ⟨c, k, hc, hk, -, hniab, -, -⟩ := Cond.instantiable_spec hins
  obtain ⟨mk, methM, hnamed, hmethM, -, -⟩ := Cond.instanceMethod_spec hinst
  obtain ⟨cn, ck, r1, hcn, hck, hni, hf, hn1⟩ := Cond.sameMethod_found hsame
  have e1 : r1 = mk := Option.some.inj (hn1.symm.trans hnamed)
  subst e1
  have hcls : r1.cls = cn := Option.some.inj ((findClass_of_methodNamed hnamed).symm.trans hcn)
  have hsel : selectMethod {} s.vm c r1 = .method r1 := selectMethod_private hmethM (Cond.privateMethod_at hpriv r1 methM hnamed hmethM)
  simp only [Cond.before, Cond.holds, Cond.value, hc, hf, hnamed, hsel, hcls, hck]
  simp; exact hni
theorem mm_ok.locs {G : mm_G} {A : Nat → Prop} {L : Nat × Nat} {h : mm_H} {s : State} {H : Heap} {locs locs' : List Loc} (Ok : mm_ok G A L h s H locs) (hl : ∀ l ∈ locs', A l.base) : mm_ok G A L h s H locs' :=
  ⟨Ok.1, Ok.2.1, Ok.2.2.1, ⟨Ok.2.2.2.1.1, Ok.2.2.2.1.2.1, hl⟩, Ok.2.2.2.2⟩
/-- n of s from sp on, laid into t from dp on -/
def mm_cp (s t : List Value) (sp dp n : Nat) : List Value := t.take dp ++ (s.drop sp).take n ++ t.drop (dp + n)
section MMJ
variable {G : mm_G} {y : mm_M} {A : Nat → Prop} {L : Nat × Nat} {d pc : Nat} {lv : List (Nat × Value)} {st : List Value} {h : mm_H} {Q : Option Value → mm_H → Prop}
theorem mm_gets {idx : Nat} (i : Nat) {C n dd : String} {ov : Option Value} (hd : decode y.2.1 pc = .ok (.getstatic idx, 3)) (hlink : Cond.fieldLink y.1.cls idx C n dd ∈ mm_tbl) (hi : mm_stat[i]? = some (C, n, dd, ov))
    (k : mm_Run G y A L d (pc + 3) lv (ov.getD (va_rf G.2.2.2.2.2.2.1) :: st) h Q) : mm_Run G y A L d pc lv st h Q := by
  intro p e R s m args below meth c0 H locs ls F Rm Ok hl
  have hts := F.2.2.2.2.2.2.2.1
  obtain ⟨cf, kf, fi, f, a, cell, h1, h2, h3, h4, h5, h6, h7, h8⟩ := Ok.2.2.2.2.1 i _ hi
  exact W.gets F.1 F.2.1 F.2.2.2.2.1 (hts _ hlink) h1 h2 h3 h4 h5 (fun e => by rw [e] at h6; cases h6) h7 rfl hd (k p e R s m args below meth c0 H locs ls F Rm Ok hl)
theorem mm_callU {y' : mm_M} {x : MethodName} {idx n c b kd : Nat} {As rest fs : List Value} {Q1 : Option Value → mm_H → Prop} (hd : decode y.2.1 pc = .ok (.invokevirtual idx, 3)) (hl0 : mm_ul y.1.cls idx c x y' n) (hok : mm_Ok G y' L d (.ref b :: As) h Q1) (hc : h.1 b = some (kd, fs)) (hk : kd % 200 = c) (hst : st = As.reverse ++ .ref b :: rest) (hn : As.length = n) (hrm : (rest.map fun v => v.category).sum ≤ 8)
    (k : ∀ (r : Option Value) (h1 : mm_H), Q1 r h1 → mm_Run G y A L (d + 1) (pc + 3) lv (r.toList ++ rest) h1 Q) : mm_Run G y A L (d + 1) pc lv st h Q := by
  intro p e R s m args below meth c0 H locs ls F Rm Ok hl
  obtain ⟨hcd, hlink, hsame, hix, ⟨b0, m0, r0, hcx⟩, hinst, hmh, hpar, hc1, C, T, N, hcl, hsel⟩ := hl0
  have hts := F.2.2.2.2.2.2.2.1
  obtain ⟨cell, q1, q2, q3, q4, q5⟩ := Ok.1.2.2 b _ hc
  unfold mm_body at q5
  rw [if_pos (mm_mod_of hk hc1)] at q5
  obtain ⟨q6, -⟩ := q5
  rw [show (kd, fs).1 % 200 = c from hk] at q6
  have hfc := (F.2.2.2.2.2.2.2.2.1 c _ hcl).2.1
  have hselB : (Cond.selects C x y'.1).before args s = true := by
    rcases hsel with hsel | ⟨e1, ⟨ip, hp⟩, hi⟩
    · exact hts _ hsel
    · rw [e1]
      exact mm_selP hmh (hts _ hi) (hts _ hsame) (va_Nw.use rfl (F.2.2.2.2.2.2.2.2.2.2.2.2.2.1 ip x hp)) (hts _ hix)
  have hB := mm_rooms (y' := y') Rm Ok hcd.2.2.2.2.1
  refine mm_after (va_runU (As := As) (rest := rest) (C := C) (x := x) (owner := x.cls) (g := F0 m pc ls st) (mm_fixC F) (hok A Ok.2.1 Ok.2.2.1)
    ⟨⟨rfl, rfl, hB.1.1, hB.1.2, mm_wsG hts hcd.1, List.mem_cons_self⟩, hts _ hcd.1, hts _ hcd.2.1, hmh, mm_len hpar, hts _ hlink, hts _ hsame, va_Decl.of (hts _ hix) (hts _ hcx), hselB, hts _ hinst⟩
    ⟨mm_Pc_blind, ⟨cell, q1, q3, by rw [q6]; exact hfc⟩, mm_Pc_of F Ok⟩ rfl hn hl.1 hst (lv_room hrm) hd hB.2) Ok ?_
  intro r h1 H1 locs1 hq Ok1
  exact k r h1 hq p e R s m args below meth c0 H1 locs1 ls F Rm Ok1 hl
theorem mm_callSU {y' : mm_M} {idx n c b kd : Nat} {As rest fs : List Value} {Q1 : Option Value → mm_H → Prop} (hd : decode y.2.1 pc = .ok (.invokespecial idx, 3)) (hl0 : mm_sul y.1.cls idx y' n) (hok : mm_Ok G y' L d (.ref b :: As) h Q1) (hc : h.1 b = some (kd, fs)) (hk : kd % 200 = c) (hc1 : Nat.blt c 15 = true) (hst : st = As.reverse ++ .ref b :: rest) (hn : As.length = n) (hrm : (rest.map fun v => v.category).sum ≤ 8)
    (k : ∀ (r : Option Value) (h1 : mm_H), Q1 r h1 → mm_Run G y A L (d + 1) (pc + 3) lv (r.toList ++ rest) h1 Q) : mm_Run G y A L (d + 1) pc lv st h Q := by
  intro p e R s m args below meth c0 H locs ls F Rm Ok hl
  obtain ⟨hcd, hlink, hsame, hsup, hinst, hnm⟩ := hl0
  have hts := F.2.2.2.2.2.2.2.1
  have hc2 : c < 15 := Nat.le_of_ble_eq_true hc1
  obtain ⟨cell, q1, q2, q3, q4, q5⟩ := Ok.1.2.2 b _ hc
  unfold mm_body at q5
  rw [if_pos (by rw [show (kd, fs).1 % 200 = c from hk]; exact Nat.ble_eq_true_of_le (by omega))] at q5
  obtain ⟨q6, q, q7, -⟩ := q5
  rw [show (kd, fs).1 % 200 = c from hk] at q6 q7
  have hat := (F.2.2.2.2.2.2.2.2.1 c _ q7).2
  have hB := mm_rooms (y' := y') Rm Ok hcd.2.2.2.2.1
  refine mm_after (va_runSU (As := As) (rest := rest) (C := q.1) (g := F0 m pc ls st) hat (mm_fixC F) (hok A Ok.2.1 Ok.2.2.1)
    ⟨⟨rfl, rfl, hB.1.1, hB.1.2, mm_wsG hts hcd.1, List.mem_cons_self⟩, hts _ hlink, hts _ hsame, hts _ hsup, hts _ hinst, hts _ hcd.2.1, hts _ hcd.1, hnm, mm_len hcd.2.2.2.1⟩
    ⟨mm_Pc_blind, ⟨cell, q1, q3, by rw [q6]; exact hat.1⟩, mm_Pc_of F Ok⟩ rfl hn hl.1 hst (lv_room hrm) hd hB.2) Ok ?_
  intro r h1 H1 locs1 hq Ok1
  exact k r h1 hq p e R s m args below meth c0 H1 locs1 ls F Rm Ok1 hl
theorem mm_mmin {idx : Nat} {x z : Int32} (hd : decode y.2.1 pc = .ok (.invokestatic idx, 3)) (hlink : Cond.methodLink y.1.cls idx Lib.Math.min.name ∈ mm_tbl) (hstat : Cond.static Lib.Math.min.name ∈ mm_tbl) (hini : Cond.initialized "java/lang/Math" ∈ mm_tbl) (hcode : Cond.code Lib.Math.min.name Lib.Math.min.code 2 (some .int) ∈ mm_tbl) (hrm : (st.map fun v => v.category).sum ≤ 8)
    (k : mm_Run G y A L (d + 1) (pc + 3) lv (.int (if z < x then z else x) :: st) h Q) : mm_Run G y A L (d + 1) pc lv (.int z :: .int x :: st) h Q := by
  intro p e R s m args below meth c0 H locs ls F Rm Ok hl
  have hts := F.2.2.2.2.2.2.2.1
  have Rm2 := Rm
  unfold mm_Rm at Rm2
  have o1 := Ok.1
  have o3 := Ok.2.2.1
  have o4 := Ok.2.2.2.1.1
  unfold mm_hp at o1
  unfold mm_fit at o3
  exact va_mmin F.1 F.2.1 (by rw [F.2.2.2.1]; exact hl.1.symm) F.2.2.2.2.1 (hts _ hlink) (hts _ hstat) (hts _ hini) (hts _ hcode) (by omega) (by omega) (by omega) (by omega) hd (k p e R s m args below meth c0 H locs ls F Rm Ok hl)
theorem mm_mmax {idx : Nat} {x z : Int32} (hd : decode y.2.1 pc = .ok (.invokestatic idx, 3)) (hlink : Cond.methodLink y.1.cls idx Lib.Math.max.name ∈ mm_tbl) (hstat : Cond.static Lib.Math.max.name ∈ mm_tbl) (hini : Cond.initialized "java/lang/Math" ∈ mm_tbl) (hcode : Cond.code Lib.Math.max.name Lib.Math.max.code 2 (some .int) ∈ mm_tbl) (hrm : (st.map fun v => v.category).sum ≤ 8)
    (k : mm_Run G y A L (d + 1) (pc + 3) lv (.int (if x < z then z else x) :: st) h Q) : mm_Run G y A L (d + 1) pc lv (.int z :: .int x :: st) h Q := by
  intro p e R s m args below meth c0 H locs ls F Rm Ok hl
  have hts := F.2.2.2.2.2.2.2.1
  have Rm2 := Rm
  unfold mm_Rm at Rm2
  have o1 := Ok.1
  have o3 := Ok.2.2.1
  have o4 := Ok.2.2.2.1.1
  unfold mm_hp at o1
  unfold mm_fit at o3
  exact va_mmax F.1 F.2.1 (by rw [F.2.2.2.1]; exact hl.1.symm) F.2.2.2.2.1 (hts _ hlink) (hts _ hstat) (hts _ hini) (hts _ hcode) (by omega) (by omega) (by omega) (by omega) hd (k p e R s m args below meth c0 H locs ls F Rm Ok hl)
theorem mm_instS {a idx kd : Nat} {fs : List Value} {C : String} {T : u_T} {N : Nat} (hd : decode y.2.1 pc = .ok (.instanceof idx, 3)) (hlink : Cond.classLink y.1.cls idx C ∈ mm_tbl) (hc : h.1 a = some (kd, fs)) (hk : Nat.blt (kd % 200) 100 = true) (hcl : mm_cls[kd % 200]? = some (C, T, N))
    (k : mm_Run G y A L d (pc + 3) lv (.int 1 :: st) h Q) : mm_Run G y A L d pc lv (.ref a :: st) h Q := by
  intro p e R s m args below meth c0 H locs ls F Rm Ok hl
  have hts := F.2.2.2.2.2.2.2.1
  obtain ⟨cell, q1, q2, q3, q4, q5⟩ := Ok.1.2.2 a _ hc
  unfold mm_body at q5
  rw [if_pos hk] at q5
  have hat := (F.2.2.2.2.2.2.2.2.1 (kd % 200) _ hcl).2
  exact va_instS F.1 F.2.1 F.2.2.2.2.1 (hts _ hlink) hat ⟨cell, q1, q3, by rw [q5.1]; exact hat.1⟩ hd (k p e R s m args below meth c0 H locs ls F Rm Ok hl)
theorem mm_castS {a idx kd : Nat} {fs : List Value} {C : String} {T : u_T} {N : Nat} (hd : decode y.2.1 pc = .ok (.checkcast idx, 3)) (hlink : Cond.classLink y.1.cls idx C ∈ mm_tbl) (hc : h.1 a = some (kd, fs)) (hk : Nat.blt (kd % 200) 100 = true) (hcl : mm_cls[kd % 200]? = some (C, T, N))
    (k : mm_Run G y A L d (pc + 3) lv (.ref a :: st) h Q) : mm_Run G y A L d pc lv (.ref a :: st) h Q := by
  intro p e R s m args below meth c0 H locs ls F Rm Ok hl
  have hts := F.2.2.2.2.2.2.2.1
  obtain ⟨cell, q1, q2, q3, q4, q5⟩ := Ok.1.2.2 a _ hc
  unfold mm_body at q5
  rw [if_pos hk] at q5
  have hat := (F.2.2.2.2.2.2.2.2.1 (kd % 200) _ hcl).2
  exact va_castS F.1 F.2.1 F.2.2.2.2.1 (hts _ hlink) hat ⟨cell, q1, q3, by rw [q5.1]; exact hat.1⟩ hd (k p e R s m args below meth c0 H locs ls F Rm Ok hl)
theorem mm_cp_get {s t : List Value} {sp dp n i : Nat} (h1 : sp + n ≤ s.length) (h2 : dp + n ≤ t.length) : (mm_cp s t sp dp n)[i]? = if dp ≤ i ∧ i < dp + n then s[sp + (i - dp)]? else t[i]? := by
  unfold mm_cp
  have l1 : (t.take dp).length = dp := by rw [List.length_take]; omega
  have l2 : ((s.drop sp).take n).length = n := by rw [List.length_take, List.length_drop]; omega
  by_cases a : i < dp
  · rw [if_neg (by omega), List.append_assoc, List.getElem?_append_left (by omega), List.getElem?_take_of_lt a]
  · by_cases b : i < dp + n
    · rw [if_pos ⟨by omega, b⟩, List.append_assoc, List.getElem?_append_right (by omega), l1, List.getElem?_append_left (by omega), List.getElem?_take_of_lt (by omega), List.getElem?_drop]
    · rw [if_neg (by omega), List.getElem?_append_right (by rw [List.length_append]; omega), List.length_append, l1, l2, List.getElem?_drop, show dp + n + (i - (dp + n)) = i by omega]
theorem mm_cp_len {s t : List Value} {sp dp n : Nat} (h1 : sp + n ≤ s.length) (h2 : dp + n ≤ t.length) : (mm_cp s t sp dp n).length = t.length := by
  unfold mm_cp
  rw [List.length_append, List.length_append, List.length_take, List.length_take, List.length_drop, List.length_drop]
  omega
/-- System.arraycopy between rows of bytes -/
theorem mm_copyB {a b ka idx : Nat} {vs ws : List Value} {sp dp n : Nat} (hd : decode y.2.1 pc = .ok (.invokestatic idx, 3)) (hlink : Cond.methodLink y.1.cls idx arraycopyName ∈ mm_tbl) (hnat : Cond.native arraycopyName ∈ mm_tbl) (hstat : Cond.static arraycopyName ∈ mm_tbl) (hini : Cond.initialized "java/lang/System" ∈ mm_tbl)
    (ha : h.1 a = some (ka, vs)) (hka : ka % 200 = 101) (hb : h.1 b = some (101, ws)) (hs : sp + n ≤ vs.length) (ht : dp + n ≤ ws.length) (hbig : vs.length < 2 ^ 31 ∧ ws.length < 2 ^ 31) (hfit : ∀ v ∈ vs, fits .byte v = true ∧ ∃ x, v = .int x) (hrm : (st.map fun v => v.category).sum ≤ 8)
    (k : mm_Run G y A L (d + 1) (pc + 3) lv st (mm_set h b (101, mm_cp vs ws sp dp n)) Q) : mm_Run G y A L (d + 1) pc lv (.int (nI n) :: .int (nI dp) :: .ref b :: .int (nI sp) :: .ref a :: st) h Q := by
  intro p e R s m args below meth c0 H locs ls F Rm Ok hl
  have hts := F.2.2.2.2.2.2.2.1
  have hK := F.2.2.2.2.2.2.2.2
  have Rm2 := Rm
  unfold mm_Rm at Rm2
  obtain ⟨ca, a1, a2, a4, a3, a6, a5, a7⟩ := mm_arrat (ty := .byte) (t := 1) hK (Ok.1.2.2 a _ ha) (by rw [hka]) rfl
  obtain ⟨cb, b1, b2, b4, b3, b6, b5, b7⟩ := mm_arrat (ty := .byte) (t := 1) hK (Ok.1.2.2 b _ hb) rfl rfl
  obtain ⟨-, ks, hk1, cm1, hk2⟩ := (hK.2.1 1 .byte rfl).1 0 (fun _ => .null)
  obtain ⟨-, ks0, hk01, cm0, hk02⟩ := id a5
  have za : vs.length ≤ ca.slots.size := by
    by_cases z : vs.length = 0
    · omega
    · have hl3 : vs.length - 1 < vs.length := by omega
      have := (Array.getElem?_eq_some_iff.mp (a7.2.2 _ _ (List.getElem?_eq_getElem hl3))).1
      omega
  have b7 : cb.slots.toList = ws := b7.1 rfl
  have zb : cb.slots.size = ws.length := by rw [← b7, Array.length_toList]
  intro T hT X
  obtain ⟨vm', X', step⟩ := X.arraycopy F.1 F.2.2.2.2.1 (hts _ hlink) (hts _ hnat) (hts _ hstat) (hts _ hini) (src := a) (dst := b) (cs := ca) (cd := cb) (srcPos := nI sp) (destPos := nI dp) (n := nI n) (by rw [hT]; exact a1) (by rw [hT]; exact b1)
    (fun _ z => by rw [z] at a3; cases a3) (fun _ z => by rw [z] at b3; cases b3) a2 b2 (ks := ks0) (kd := ks) hk01 (by rw [b6 rfl]; exact hk1) hk02 hk2 (by rfl) (nI_pos (by omega)) (nI_pos (by omega)) (nI_pos (by omega))
    (by rw [nI_toInt (by omega), nI_toInt (by omega)]; omega) (by rw [nI_toInt (by omega), nI_toInt (by omega), zb]; omega)
    (fun vm₁ _ i hi => by
      rw [nI_clamp (by omega)] at hi
      rw [nI_clamp (by omega)]
      have hl2 : sp + i < vs.length := by omega
      have e : ca.slots.getD (sp + i) .null = vs[sp + i] := by
        rw [Array.getD_eq_getD_getElem?, a7.2.2 _ _ (List.getElem?_eq_getElem hl2)]
        rfl
      obtain ⟨f1, x, f2⟩ := hfit _ (List.getElem_mem hl2)
      rw [e, f2]
      exact ⟨by rw [← f2]; exact f1, trivial⟩)
    (g := F0 m pc ls (.int (nI n) :: .int (nI dp) :: .ref b :: .int (nI sp) :: .ref a :: st)) rfl (by rw [F.2.2.2.1]; exact hl.1) (rest := st) rfl (by rw [F.2.1]; exact hd) (by omega) (by show 2 * 0 + _ + (7 + 11) ≤ _; omega)
  have hlb : b < H.size := (Array.getElem?_eq_some_iff.mp b1).1
  have hheap : ((T.setVm vm').setCell b (copied ca cb (nI sp) (nI dp) (nI n))).heap = H.setIfInBounds b (copied ca cb (nI sp) (nI dp) (nI n)) := by rw [← hT]; rfl
  have oq : ∀ q : Nat, q ≠ b → (H.setIfInBounds b (copied ca cb (nI sp) (nI dp) (nI n)))[q]? = H[q]? := fun q hq => by simp [Array.getElem?_setIfInBounds, Ne.symm hq]
  have eq1 : (H.setIfInBounds b (copied ca cb (nI sp) (nI dp) (nI n)))[b]? = some (copied ca cb (nI sp) (nI dp) (nI n)) := by simp [Array.getElem?_setIfInBounds, hlb]
  have lst : (ca.stretch (nI sp).toNatClampNeg (nI n).toNatClampNeg).length = n := by rw [nI_clamp (n := n) (by omega)]; simp [Cell.stretch]
  have hfacts := Cell.storeRun_facts cb (nI dp).toNatClampNeg (ca.stretch (nI sp).toNatClampNeg (nI n).toNatClampNeg)
  have hlist : (copied ca cb (nI sp) (nI dp) (nI n)).slots.toList = mm_cp vs ws sp dp n := by
    refine List.ext_getElem? (fun i => ?_)
    rw [mm_cp_get hs ht, Array.getElem?_toList, Cell.storeRun_get _ _ _ _ (by rw [lst, nI_clamp (by omega), zb]; exact ht), lst, nI_clamp (n := dp) (by omega)]
    by_cases hi : dp ≤ i ∧ i < dp + n
    · rw [if_pos hi, if_pos hi]
      unfold Cell.stretch
      rw [nI_clamp (n := n) (by omega), nI_clamp (n := sp) (by omega), List.getElem?_map, List.getElem?_range (by omega)]
      show some (ca.slots.getD (sp + (i - dp)) .null) = _
      rw [Array.getD_eq_getD_getElem?, a7.2.2 _ _ (List.getElem?_eq_getElem (show sp + (i - dp) < vs.length by omega)), List.getElem?_eq_getElem (by omega)]
      rfl
    · rw [if_neg hi, if_neg hi, ← Array.getElem?_toList, b7]
  have Ok1 : mm_ok G A L (mm_set h b (101, mm_cp vs ws sp dp n)) s (H.setIfInBounds b (copied ca cb (nI sp) (nI dp) (nI n))) (locs ++ [⟨b, 0⟩]) := by
    refine Ok.upd hb rfl b1 eq1 (by simp) oq hfacts.2.2.1 ⟨_, eq1, ?_, ?_, fun _ => ?_, ?_⟩
    · rw [hfacts.2.1]; exact b2
    · rw [hfacts.2.1]; exact b3
    · rw [hfacts.2.1]; exact b4 rfl
    · unfold mm_body
      rw [if_neg (show ¬ Nat.blt (101 % 200) 100 = true by decide)]
      exact ⟨Or.inl ⟨rfl, by rw [hfacts.1]; exact b6 rfl⟩, mm_pf.of hlist, show 101 % 200 - 100 < mm_arr.length by decide⟩
  have hAb : A b := Ok.2.1.1 b _ hb rfl
  have Ok2 := Ok1.locs (locs' := locs ++ (ca.stretch (nI sp).toNatClampNeg (nI n).toNatClampNeg).zipIdx.map fun q => ⟨b, (nI dp).toNatClampNeg + q.2⟩) (fun l hq => by
    rcases List.mem_append.mp hq with z | z
    · exact Ok.2.2.2.1.2.2 l z
    · obtain ⟨w, -, hw⟩ := List.mem_map.mp z
      rw [← hw]
      exact hAb)
  have kk := mm_tight (fun _ => k p e R s m args below meth c0 _ _ ls F Rm Ok2 hl) (cells := H.size - s.heap.size) (slots := mm_tot H - mm_tot s.heap)
  obtain ⟨t, t1, t2⟩ := kk _ hheap X'
  exact ⟨t, step t t1, t2⟩
end MMJ
section MMJ2
variable {G : mm_G} {y : mm_M} {A : Nat → Prop} {L : Nat × Nat} {d pc : Nat} {lv : List (Nat × Value)} {st : List Value} {h : mm_H} {Q : Option Value → mm_H → Prop}
theorem mm_getsC {idx : Nat} (hd : decode y.2.1 pc = .ok (.getstatic idx, 3)) (hlink : Cond.fieldLink y.1.cls idx "java/lang/String" "COMPACT_STRINGS" "Z" ∈ mm_tbl)
    (k : mm_Run G y A L d (pc + 3) lv (.int 1 :: st) h Q) : mm_Run G y A L d pc lv st h Q := mm_gets 0 hd hlink rfl k
theorem mm_getsF {idx : Nat} (hd : decode y.2.1 pc = .ok (.getstatic idx, 3)) (hlink : Cond.fieldLink y.1.cls idx "jdk/internal/util/Preconditions" "SIOOBE_FORMATTER" "Ljava/util/function/BiFunction;" ∈ mm_tbl)
    (k : mm_Run G y A L d (pc + 3) lv (va_rf G.2.2.2.2.2.2.1 :: st) h Q) : mm_Run G y A L d pc lv st h Q := mm_gets 1 hd hlink rfl k
/-- what may be written lies behind the texts -/
theorem mm_baseR (k : (∀ (a : Nat) (c : mm_C), h.1 a = some c → mm_wr c.1 = true → G.2.2.2.2.2.1 ≤ a) → G.2.2.2.2.2.1 ≤ h.2.1 → mm_Run G y A L d pc lv st h Q) : mm_Run G y A L d pc lv st h Q := by
  intro p e R s m args below meth c0 H locs ls F Rm Ok hl
  exact k (fun a c hc hw => Ok.2.1.2.2 a (Ok.2.1.1 a c hc hw)) (Ok.2.1.2.2 _ (Ok.2.1.2.1 _ (Nat.le_refl _))) p e R s m args below meth c0 H locs ls F Rm Ok hl
end MMJ2
