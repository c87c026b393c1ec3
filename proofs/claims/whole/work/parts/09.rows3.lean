/-! calls -/
theorem mm_wsG {args : Array Value} {s : State} {y : mm_M} (hts : ∀ w ∈ mm_tbl, w.before args s = true) (hc : Cond.code y.1 y.2.1 y.2.2.1 y.2.2.2 ∈ mm_tbl) : ∀ w ∈ mm_ws y, ∀ (a' : Array Value) (U : State), s.WarmedH U.vm → w.before a' U = true :=
  pay_in hts (fun w hw => by
    rcases List.mem_cons.mp hw with e | e
    · rw [e]; exact ⟨hc, mm_tblG _ hc⟩
    · exact ⟨e, mm_tblG _ e⟩)
theorem mm_len {desc : String} {n : Nat} (h : (parseMethodDescriptor desc).map (fun d => d.parameters.length) = some n) : ∀ sig, parseMethodDescriptor desc = some sig → n = sig.parameters.length := by
  intro sig hs
  rw [hs] at h
  exact (Option.some.inj h).symm
theorem mm_Pc_blind {G : mm_G} {av : List Value} {h : mm_H} : FrameBlind (mm_Pc G av h) := by
  intro a U g mk hq
  obtain ⟨q0, q1, q2, q3⟩ := hq
  refine ⟨q0, q1, mm_K.warm (s := U) (U := U.calling g mk a) (State.WarmedH.refl U) q2, fun i r hr => va_Z.moved (u := U) (U := U.calling g mk a) (Vm.Alike.refl U.vm) (q3 i r hr)⟩
theorem mm_Pc_of {G : mm_G} {y : mm_M} {A : Nat → Prop} {L : Nat × Nat} {h : mm_H} {av : List Value} {p : Program} {s : State} {m : MethodId} {args : Array Value} {meth : Method} {c : Code} {H : Heap} {locs : List Loc} (F : mm_Fix G y p s m args meth c) (Ok : mm_ok G A L h s H locs) : ∀ U : State, U.heap = H → s.WarmedH U.vm → mm_Pc G av h av.toArray U := by
  intro U hU hW
  refine ⟨rfl, by rw [hU]; exact Ok.1, mm_K.warm hW F.2.2.2.2.2.2.2.2, fun i r hr => ?_⟩
  rw [hU]
  exact va_Z.moved hW.alike (Ok.2.2.2.2.1 i r hr)
section MMA
variable {p : Program} {G : mm_G} {e : Env} {R : Room} {s : State} {m : MethodId} {args : Array Value} {below : List Frame} {meth : Method} {c : Code} {H : Heap} {locs : List Loc} {cells slots mc ms : Nat} {Qs : State → Prop}
/-- behind a call -/
theorem mm_after {A : Nat → Prop} {L : Nat × Nat} {h : mm_H} {Q1 : Option Value → mm_H → Prop} {av : Array Value} {pc : Nat} {ls : Array Slot} {st0 rest : List Value} (hr : va_Run p G.1 e R s m args below meth c H locs cells slots mc ms (F0 m pc ls st0) rest (mm_Qc G L A Q1 av) A) (Ok : mm_ok G A L h s H locs)
    (kk : ∀ (r : Option Value) (h1 : mm_H) (H1 : Heap) (locs1 : List Loc), Q1 r h1 → mm_ok G A L h1 s H1 locs1 → W p G.1 e R s m args below meth c H1 locs1 (H1.size - s.heap.size) (mm_tot H1 - mm_tot s.heap) Qs (F0 m (pc + 3) ls (r.toList ++ rest))) : W p G.1 e R s m args below meth c H locs cells slots Qs (F0 m pc ls st0) := by
  intro T hT X
  obtain ⟨v, st₀, t, T', L', h0, X', hL, e1, e2, ⟨⟨r, h1, hv, hq, hp1, hin1, hfit1⟩, hF⟩, st⟩ := hr T hT X
  cases hv
  obtain ⟨X2, ht2⟩ := mm_tightX rfl X'
  obtain ⟨⟨o1, o2, o3⟩, ⟨i1, i2, i3⟩, f, S, Z, t0⟩ := Ok
  have hz : H.size ≤ T'.heap.size := by rw [e1, ← h0]; exact hF.1
  have hk : ∀ q : Nat, q < H.size → ¬ A q → T'.heap[q]? = H[q]? := fun q g1 g2 => by rw [e1, ← h0]; exact hF.2 q (by rw [h0]; exact g1) g2
  obtain ⟨t2, a1, b1⟩ := kk v h1 T'.heap (locs ++ L') hq ⟨by rw [e1]; exact hp1, hin1, hfit1, ⟨Nat.le_trans S.1 hz, fun q g1 g2 => by rw [hk q (Nat.lt_of_lt_of_le g1 S.1) g2]; exact S.2.1 q g1 g2, fun q hq' => by
    rcases List.mem_append.mp hq' with g | g
    · exact S.2.2 q g
    · exact hL q g⟩, Z.kept (fun q g1 g2 => hk q g1 (fun z => g2 (i3 q z))), ht2⟩ T' rfl X2
  exact ⟨t2, st t2 a1, b1⟩
end MMA
section MMC
variable {G : mm_G} {y : mm_M} {A : Nat → Prop} {L : Nat × Nat} {d pc : Nat} {lv : List (Nat × Value)} {st : List Value} {h : mm_H} {Q : Option Value → mm_H → Prop}
/-- a contract out of a walk -/
theorem mm_Ok.of {av : List Value} (lv0 : List (Nat × Value)) (hlv : lv_args 0 av = lv0) (hy : plainName y.1.cls = true) (hn : Nat.ble (lg_sl av).length y.2.2.1 = true) (k : ∀ A, mm_Run G y A L d 0 lv0 [] h Q) : mm_Ok G y L d av h Q := by
  intro A hin hfit
  subst hlv
  refine Met.ofW (cc := y.2.1) (maxL := y.2.2.1) (ret := y.2.2.2) (ws' := mm_tbl) hy rfl ?_
  intro p e s m args below meth c s₁ B hml hv
  obtain ⟨rfl, hhp, hK, hZ⟩ := hv
  have hts := atoms_spec (ws := mm_ws y) B.pre
  rw [lg_entry_eq]
  have hl := lv_entry av (n := y.2.2.1) (Nat.le_of_ble_eq_true hn)
  have hz := hhp.1
  have hz2 := hhp.2.1
  have hfit2 := hfit
  unfold mm_fit at hfit2
  have key := k A p e (headSpec (mm_ws y) (mm_room L d h)).room s m av.toArray below meth c s.heap [] _ ⟨B.exec, B.bytes, B.returns, hml, findClass_of_methodNamed B.named, B.notSynchronized, fun _ => (name_of_methodNamed B.named B.method).1, fun w hw => hts w (List.mem_cons_of_mem _ hw), hK⟩ ⟨Nat.le_refl _, Nat.le_refl _, (by show L.1 ≤ s.heap.size + (L.1 - h.2.1); omega), (by show L.2 ≤ mm_tot s.heap + (L.2 - h.2.2); omega)⟩ ⟨hhp, hin, hfit, va_S.rf, hZ, Nat.le_refl _⟩ (mm_ls.of hl)
  rw [Nat.sub_self, Nat.sub_self] at key
  exact key
theorem mm_rooms {R : Room} {s : State} {H : Heap} {locs : List Loc} {y' : mm_M} (Rm : mm_Rm L (d + 1) R s) (Ok : mm_ok G A L h s H locs) (hm : Nat.ble y'.2.2.1 40 = true) : ((mm_room L d h).frames + 1 ≤ R.frames ∧ 8 + (y'.2.2.1 + 11) + (mm_room L d h).locals ≤ R.locals) ∧ ((H.size - s.heap.size) + (L.1 - h.2.1) ≤ R.cells ∧ (mm_tot H - mm_tot s.heap) + (L.2 - h.2.2) ≤ R.slots) := by
  have h1 := Ok.1.1
  have h2 := Ok.1.2.1
  have h3 := Ok.2.2.1
  have h4 := Ok.2.2.2.1.1
  have h5 := Ok.2.2.2.2.2
  have h6 := Nat.le_of_ble_eq_true hm
  unfold mm_fit at h3
  unfold mm_Rm at Rm
  refine ⟨⟨?_, ?_⟩, ?_, ?_⟩
  · show d + 1 ≤ R.frames
    omega
  · show 8 + (y'.2.2.1 + 11) + 64 * d ≤ R.locals
    omega
  · omega
  · omega
theorem mm_CallB {R : Room} {s : State} {H : Heap} {locs : List Loc} {y' : mm_M} {args : Array Value} {p : Program} {m : MethodId} {meth : Method} {c : Code} {idx n : Nat} (F : mm_Fix G y p s m args meth c) (Rm : mm_Rm L (d + 1) R s) (Ok : mm_ok G A L h s H locs) (hcd : mm_cd y' n) (hl : Cond.methodLink y.1.cls idx y'.1 ∈ mm_tbl) : CallB R s args y.1.cls idx y'.1 y'.2.1 y'.2.2.1 y'.2.2.2 (mm_ws y') (mm_room L d h) (L.1 - h.2.1) (L.2 - h.2.2) n := by
  obtain ⟨c1, c2, c3, c4, c5, c6⟩ := hcd
  have hts := F.2.2.2.2.2.2.2.1
  have hr := (mm_rooms (y' := y') Rm Ok c5).1
  exact ⟨rfl, rfl, hr.1, hr.2, mm_wsG hts c1, List.mem_cons_self, hts _ c1, hts _ c2, c3, mm_len c4, hts _ hl⟩
theorem mm_CallN {R : Room} {s : State} {H : Heap} {locs : List Loc} {y' : mm_M} {args : Array Value} {p : Program} {m : MethodId} {meth : Method} {c : Code} {idx n i : Nat} {host : String} (F : mm_Fix G y p s m args meth c) (Rm : mm_Rm L (d + 1) R s) (Ok : mm_ok G A L h s H locs) (hcd : mm_cd y' n) (hl : mm_nest[i]? = some (y.1.cls, idx, y'.1, host)) : va_CN R s args y.1.cls idx y'.1 host y'.2.1 y'.2.2.1 y'.2.2.2 (mm_ws y') (mm_room L d h) (L.1 - h.2.1) (L.2 - h.2.2) n := by
  obtain ⟨c1, c2, c3, c4, c5, c6⟩ := hcd
  have hts := F.2.2.2.2.2.2.2.1
  have hr := (mm_rooms (y' := y') Rm Ok c5).1
  exact ⟨⟨rfl, rfl, hr.1, hr.2, mm_wsG hts c1, List.mem_cons_self⟩, hts _ c1, hts _ c2, c3, mm_len c4, va_Nw.use rfl (F.2.2.2.2.2.2.2.2.2.2.2.1 i _ hl)⟩
theorem mm_fixC {p : Program} {s : State} {m : MethodId} {args : Array Value} {meth : Method} {c : Code} (F : mm_Fix G y p s m args meth c) : CallFix p m c y.2.1 y.2.2.1 s args mm_tbl y.1.cls := ⟨F.1, F.2.1, F.2.2.2.1, F.2.2.2.2.1, F.2.2.2.2.2.2.2.1⟩
theorem mm_callV {y' : mm_M} {idx n c b kd : Nat} {As rest fs : List Value} {Q1 : Option Value → mm_H → Prop} (hd : decode y.2.1 pc = .ok (.invokevirtual idx, 3)) (hl0 : mm_vl y.1.cls idx c y' n) (hok : mm_Ok G y' L d (.ref b :: As) h Q1) (hc : h.1 b = some (kd, fs)) (hk : kd % 200 = c) (hst : st = As.reverse ++ .ref b :: rest) (hn : As.length = n) (hrm : (rest.map fun v => v.category).sum ≤ 8)
    (k : ∀ (r : Option Value) (h1 : mm_H), Q1 r h1 → mm_Run G y A L (d + 1) (pc + 3) lv (r.toList ++ rest) h1 Q) : mm_Run G y A L (d + 1) pc lv st h Q := by
  intro p e R s m args below meth c0 H locs ls F Rm Ok hl
  obtain ⟨hcd, hlink, hinst, hsel, hc1, T, N, hcl⟩ := hl0
  have hts := F.2.2.2.2.2.2.2.1
  obtain ⟨cell, q1, q2, q3, q4, q5⟩ := Ok.1.2.2 b _ hc
  unfold mm_body at q5
  rw [if_pos (mm_mod_of hk hc1)] at q5
  obtain ⟨q6, -⟩ := q5
  rw [show (kd, fs).1 % 200 = c from hk] at q6
  have hfc := (F.2.2.2.2.2.2.2.2.1 c _ hcl).2.1
  refine mm_after (va_runV (As := As) (rest := rest) (C := y'.1.cls) (g := F0 m pc ls st) (mm_fixC F) (hok A Ok.2.1 Ok.2.2.1) ⟨mm_CallB F Rm Ok hcd hlink, hts _ hinst, hts _ hsel⟩ ⟨mm_Pc_blind, ⟨cell, q1, q3, by rw [q6]; exact hfc⟩, mm_Pc_of F Ok⟩ rfl hn hl.1 hst (lv_room hrm) hd (mm_rooms (y' := y') Rm Ok hcd.2.2.2.2.1).2) Ok ?_
  intro r h1 H1 locs1 hq Ok1
  exact k r h1 hq p e R s m args below meth c0 H1 locs1 ls F Rm Ok1 hl
theorem mm_callS {y' : mm_M} {idx n : Nat} {As rest : List Value} {Q1 : Option Value → mm_H → Prop} (hd : decode y.2.1 pc = .ok (.invokestatic idx, 3)) (hl0 : mm_sl y.1.cls idx y' n) (hok : mm_Ok G y' L d As h Q1) (hst : st = As.reverse ++ rest) (hn : As.length = n) (hrm : (rest.map fun v => v.category).sum ≤ 8)
    (k : ∀ (r : Option Value) (h1 : mm_H), Q1 r h1 → mm_Run G y A L (d + 1) (pc + 3) lv (r.toList ++ rest) h1 Q) : mm_Run G y A L (d + 1) pc lv st h Q := by
  intro p e R s m args below meth c0 H locs ls F Rm Ok hl
  obtain ⟨hcd, hlink, hstt⟩ := hl0
  have hts := F.2.2.2.2.2.2.2.1
  refine mm_after (va_runS (As := As) (rest := rest) (g := F0 m pc ls st) (mm_fixC F) (hok A Ok.2.1 Ok.2.2.1) ⟨mm_CallB F Rm Ok hcd hlink, hts _ hstt⟩ ⟨mm_Pc_blind, mm_Pc_of F Ok⟩ rfl hn hl.1 hst (lv_room hrm) hd (mm_rooms (y' := y') Rm Ok hcd.2.2.2.2.1).2) Ok ?_
  intro r h1 H1 locs1 hq Ok1
  exact k r h1 hq p e R s m args below meth c0 H1 locs1 ls F Rm Ok1 hl
theorem mm_callI {y' : mm_M} {idx n b : Nat} {As rest : List Value} {Q1 : Option Value → mm_H → Prop} (hd : decode y.2.1 pc = .ok (.invokespecial idx, 3)) (hl0 : mm_il y.1.cls idx y' n) (hok : mm_Ok G y' L d (.ref b :: As) h Q1) (hst : st = As.reverse ++ .ref b :: rest) (hn : As.length = n) (hrm : (rest.map fun v => v.category).sum ≤ 8)
    (k : ∀ (r : Option Value) (h1 : mm_H), Q1 r h1 → mm_Run G y A L (d + 1) (pc + 3) lv (r.toList ++ rest) h1 Q) : mm_Run G y A L (d + 1) pc lv st h Q := by
  intro p e R s m args below meth c0 H locs ls F Rm Ok hl
  obtain ⟨hcd, hlink, hnm, hinst, hret⟩ := hl0
  have hts := F.2.2.2.2.2.2.2.1
  have hB := mm_CallB (d := d) F Rm Ok hcd hlink
  rw [hret] at hB
  refine mm_after (va_runI (As := As) (rest := rest) (g := F0 m pc ls st) (mm_fixC F) (hok A Ok.2.1 Ok.2.2.1) ⟨hB, hnm, hts _ hinst⟩ ⟨mm_Pc_blind, mm_Pc_of F Ok⟩ rfl hn hl.1 hst (lv_room hrm) hd (mm_rooms (y' := y') Rm Ok hcd.2.2.2.2.1).2) Ok ?_
  intro r h1 H1 locs1 hq Ok1
  exact k r h1 hq p e R s m args below meth c0 H1 locs1 ls F Rm Ok1 hl
theorem mm_callSN {y' : mm_M} {idx n i : Nat} {As rest : List Value} {Q1 : Option Value → mm_H → Prop} (hd : decode y.2.1 pc = .ok (.invokestatic idx, 3)) (hl0 : mm_snl y.1.cls idx i y' n) (hok : mm_Ok G y' L d As h Q1) (hst : st = As.reverse ++ rest) (hn : As.length = n) (hrm : (rest.map fun v => v.category).sum ≤ 8)
    (k : ∀ (r : Option Value) (h1 : mm_H), Q1 r h1 → mm_Run G y A L (d + 1) (pc + 3) lv (r.toList ++ rest) h1 Q) : mm_Run G y A L (d + 1) pc lv st h Q := by
  intro p e R s m args below meth c0 H locs ls F Rm Ok hl
  obtain ⟨hcd, ⟨host, hnst⟩, hstt⟩ := hl0
  have hts := F.2.2.2.2.2.2.2.1
  refine mm_after (va_runSN (As := As) (rest := rest) (g := F0 m pc ls st) (mm_fixC F) (hok A Ok.2.1 Ok.2.2.1) ⟨mm_CallN F Rm Ok hcd hnst, hts _ hstt, trivial⟩ ⟨mm_Pc_blind, mm_Pc_of F Ok⟩ rfl hn hl.1 hst (lv_room hrm) hd (mm_rooms (y' := y') Rm Ok hcd.2.2.2.2.1).2) Ok ?_
  intro r h1 H1 locs1 hq Ok1
  exact k r h1 hq p e R s m args below meth c0 H1 locs1 ls F Rm Ok1 hl
theorem mm_callIN {y' : mm_M} {idx n b i : Nat} {As rest : List Value} {Q1 : Option Value → mm_H → Prop} (hd : decode y.2.1 pc = .ok (.invokespecial idx, 3)) (hl0 : mm_inl y.1.cls idx i y' n) (hok : mm_Ok G y' L d (.ref b :: As) h Q1) (hst : st = As.reverse ++ .ref b :: rest) (hn : As.length = n) (hrm : (rest.map fun v => v.category).sum ≤ 8)
    (k : ∀ (r : Option Value) (h1 : mm_H), Q1 r h1 → mm_Run G y A L (d + 1) (pc + 3) lv (r.toList ++ rest) h1 Q) : mm_Run G y A L (d + 1) pc lv st h Q := by
  intro p e R s m args below meth c0 H locs ls F Rm Ok hl
  obtain ⟨hcd, ⟨host, hnst⟩, hnm, hinst, hret⟩ := hl0
  have hts := F.2.2.2.2.2.2.2.1
  have hB := mm_CallN (d := d) F Rm Ok hcd hnst
  rw [hret] at hB
  refine mm_after (va_runIN (As := As) (rest := rest) (g := F0 m pc ls st) (mm_fixC F) (hok A Ok.2.1 Ok.2.2.1) ⟨hB, hnm, hts _ hinst⟩ ⟨mm_Pc_blind, mm_Pc_of F Ok⟩ rfl hn hl.1 hst (lv_room hrm) hd (mm_rooms (y' := y') Rm Ok hcd.2.2.2.2.1).2) Ok ?_
  intro r h1 H1 locs1 hq Ok1
  exact k r h1 hq p e R s m args below meth c0 H1 locs1 ls F Rm Ok1 hl
/-- Object's own constructor -/
theorem mm_objInit {idx b : Nat} {rest : List Value} (hd : decode y.2.1 pc = .ok (.invokespecial idx, 3)) (hlink : Cond.methodLink y.1.cls idx objectInit ∈ mm_tbl) (hinst : Cond.instanceMethod objectInit ∈ mm_tbl) (hcode : Cond.code objectInit ⟨#[0xb1]⟩ 1 none ∈ mm_tbl) (hrm : (rest.map fun v => v.category).sum ≤ 8)
    (k : mm_Run G y A L (d + 1) (pc + 3) lv rest h Q) : mm_Run G y A L (d + 1) pc lv (.ref b :: rest) h Q := by
  intro p e R s m args below meth c0 H locs ls F Rm Ok hl
  have hts := F.2.2.2.2.2.2.2.1
  have Rm2 := Rm
  unfold mm_Rm at Rm2
  have hr := lv_room (m := m) (pc := pc) (ls := ls) (rest := .ref b :: rest) hrm
  exact W.objInit F.1 F.2.1 F.2.2.2.2.1 (hts _ hlink) (hts _ hinst) (hts _ hcode) (g := F0 m pc ls (.ref b :: rest)) rfl (by rw [F.2.2.2.1]; exact hl.1) rfl hd (by omega) (by omega) (k p e R s m args below meth c0 H locs ls F Rm Ok hl)
/-- a text -/
theorem mm_ldcS {idx i : Nat} {tx : String} (hd : decode y.2.1 pc = .ok (.ldc idx, 2)) (hi : mm_lit[i]? = some (y.1.cls, idx, tx))
    (k : mm_Run G y A L d (pc + 2) lv (.ref (G.2.2.2.2.1 i) :: st) h Q) : mm_Run G y A L d pc lv st h Q := by
  intro p e R s m args below meth c0 H locs ls F Rm Ok hl
  exact va_ldcS F.1 F.2.1 F.2.2.2.2.1 (F.2.2.2.2.2.2.2.2.2.2.1 i _ hi) hd (k p e R s m args below meth c0 H locs ls F Rm Ok hl)
end MMC
