/-! bodies of the reference -/
theorem pI.same2 {tb : Nat → Nat} {n a0 t : Nat} {M M' : mw_S} (h : pI tb n a0 M t) (h1 : ∀ j, Nat.ble j 47 = true → ¬ j = 31 → ¬ j = 32 → ¬ j = 33 → ¬ j = 34 → ¬ j = 35 → ¬ j = 3 → ¬ j = 19 → ¬ j = 23 → ¬ j = 24 → M'.1 j = M.1 j) (h2 : M'.2.2.1 0 = M.2.2.1 0) : pI tb n a0 M' t := by
  have e : ∀ j, Nat.ble j 47 = true → Nat.beq j 31 = false → Nat.beq j 32 = false → Nat.beq j 33 = false → Nat.beq j 34 = false → Nat.beq j 35 = false → Nat.beq j 3 = false → Nat.beq j 19 = false → Nat.beq j 23 = false → Nat.beq j 24 = false → M'.1 j = M.1 j := fun j a b c d e f g i k l => h1 j a (Nat.ne_of_beq_eq_false b) (Nat.ne_of_beq_eq_false c) (Nat.ne_of_beq_eq_false d) (Nat.ne_of_beq_eq_false e) (Nat.ne_of_beq_eq_false f) (Nat.ne_of_beq_eq_false g) (Nat.ne_of_beq_eq_false i) (Nat.ne_of_beq_eq_false k) (Nat.ne_of_beq_eq_false l)
  obtain ⟨p1, p2, p3, p4, p5, p6, p7⟩ := h
  exact ⟨p1.same (e 1 rfl rfl rfl rfl rfl rfl rfl rfl rfl rfl) (e 26 rfl rfl rfl rfl rfl rfl rfl rfl rfl rfl) (e 27 rfl rfl rfl rfl rfl rfl rfl rfl rfl rfl) (e 28 rfl rfl rfl rfl rfl rfl rfl rfl rfl rfl) (e 29 rfl rfl rfl rfl rfl rfl rfl rfl rfl rfl) h2, (e 30 rfl rfl rfl rfl rfl rfl rfl rfl rfl rfl).trans p2, p3, by rw [e 13 rfl rfl rfl rfl rfl rfl rfl rfl rfl rfl]; exact p4, by rw [e 41 rfl rfl rfl rfl rfl rfl rfl rfl rfl rfl]; exact p5, by rw [e 47 rfl rfl rfl rfl rfl rfl rfl rfl rfl rfl]; exact p6, by rw [e 37 rfl rfl rfl rfl rfl rfl rfl rfl rfl rfl]; exact p7⟩
theorem rm_faulty_2 (M : mw_S) (f p : Int32) : (rm_faulty M f p).2 = M.2 := by
  unfold rm_faulty
  split
  · rfl
  · split
    · rfl
    · split
      · split <;> rfl
      · rfl
theorem rm_faulty_1 (M : mw_S) (f p : Int32) {j : Nat} (h1 : ¬ j = 31) (h2 : ¬ j = 32) : (rm_faulty M f p).1 j = M.1 j := by
  have e : (mw_setS (mw_setS M 31 f) 32 p).1 j = M.1 j := by
    show mw_u (mw_u M.1 31 f) 32 p j = _
    rw [mw_u_ne _ _ h2, mw_u_ne _ _ h1]
  unfold rm_faulty
  split
  · exact e
  · split
    · exact e
    · split
      · split
        · rfl
        · exact e
      · rfl
theorem pI.flt {tb : Nat → Nat} {n a0 t : Nat} {M : mw_S} {f p : Int32} (h : pI tb n a0 M t) : pI tb n a0 (rm_faulty M f p) t := h.same2 (fun j _ h1 h2 _ _ _ _ _ _ _ => rm_faulty_1 M f p h1 h2) (by rw [rm_faulty_2])
theorem pI.sS {tb : Nat → Nat} {n a0 t : Nat} {M : mw_S} {j : Nat} {x : Int32} (h : pI tb n a0 M t) (hj : Nat.ble 48 j = true) : pI tb n a0 (mw_setS M j x) t := h.same2 (fun i hi _ _ _ _ _ _ _ _ _ => mw_u_ne _ _ (by have := Nat.le_of_ble_eq_true hi; have := Nat.le_of_ble_eq_true hj; omega)) rfl
theorem mw_W.gS {m : Nat} {ad : Nat → Nat} {h0 h : mm_H} {M : mw_S} (hW : mw_W m ad h0 M h) {j : Nat} {x : Int32} (hj : Nat.ble 74 j = true) : mw_W m ad h0 (mw_setS M j x) h := by
  have hj := Nat.le_of_ble_eq_true hj
  obtain ⟨w1, w2, w3, w4, w5, w6, w7, w8, w9, w10⟩ := hW
  refine ⟨?_, w2, w3, w4, w5, w6, w7, w8, w9, mw_BS w10 (fun z => ?_)⟩
  · rw [w1]
    congr 2
    refine mw_mapc (fun i hi => ?_)
    have e : (mw_setS M j x).1 i = M.1 i := mw_u_ne _ _ (by omega)
    unfold mw_f
    rw [e]
    rfl
  · unfold mw_k at z
    rw [List.getD_eq_getElem?_getD, List.getElem?_eq_none (by show mw_tab.length ≤ j; exact hj)] at z
    cases z
theorem mw_W.gW {m : Nat} {ad : Nat → Nat} {h0 h : mm_H} {M : mw_S} (hW : mw_W m ad h0 M h) {j i : Nat} {x : Int64} (hj : Nat.ble 74 j = true) : mw_W m ad h0 (mw_setW M j i x) h := by
  have hj := Nat.le_of_ble_eq_true hj
  obtain ⟨w1, w2, w3, w4, w5, w6, w7, w8, w9, w10⟩ := hW
  exact ⟨w1, fun l hl hk => by rw [mw_cWne (by omega)]; exact w2 l hl hk, w3, w4, w5, w6, w7, w8, w9, w10⟩
theorem mw_W.gB {m : Nat} {ad : Nat → Nat} {h0 h : mm_H} {M : mw_S} (hW : mw_W m ad h0 M h) {g k q p a : Nat} {s : Bool} : mw_W m ad h0 (rm_bgh M g k q p a s) h := (((((hW.gh rfl).gh rfl).gh rfl).gh rfl).gh rfl).gS rfl
theorem mw_W.gE {m : Nat} {ad : Nat → Nat} {h0 h : mm_H} {M : mw_S} (hW : mw_W m ad h0 M h) {g : Nat} {f r l : Int32} : mw_W m ad h0 (rm_bge M g f r l) h := ((((hW.gh rfl).gh rfl).gh rfl).gh rfl).gh rfl
/-- a new body, at its hook's word -/
theorem pI.bnew {tb : Nat → Nat} {n a0 t : Nat} {M : mw_S} {b k q g p a : Nat} {s : Bool} (h : pI tb n a0 M t) (hb : M.1 37 = nI b) (hbq : b ≤ qs tb n t) (hc : 2 ≤ cd tb n t) : pI tb n a0 (mw_setS (pw tb n (rm_bgh (rm_bnew M b k q) g k q p a s) t) 47 0) (t + 1) := by
  have hlt := (qs_lt hc).2.1
  obtain ⟨p1, p2, p3, ⟨a1, p4, p5, p6⟩, ⟨u, p7, p8⟩, -, -⟩ := h
  have hV : (rm_bgh (rm_bnew M b k q) g k q p a s).2.2.1 0 = M.2.2.1 0 := by
    unfold rm_bgh rm_bnew
    exact (V0 rfl).trans ((V0 rfl).trans ((V0 rfl).trans ((V0 rfl).trans ((V0 rfl).trans ((V0 rfl).trans ((V0 rfl).trans (V0 rfl)))))))
  exact ⟨((p1.same (M' := rm_bgh (rm_bnew M b k q) g k q p a s) rfl rfl rfl rfl rfl hV).w).same rfl rfl rfl rfl rfl rfl, p2, p3, ⟨a1, p4, p5, by omega⟩, ⟨u, p7, by omega⟩, ⟨0, rfl, by omega⟩, b + 1, rfl, by omega⟩
theorem hkI_n {c : Nat} (h : ¬ hkI c < 0) : 7 ≤ c ∧ c ≤ 12 ∧ hkI c = nI (c - 7) := by
  unfold hkI at h ⊢
  by_cases z : 7 ≤ c ∧ c ≤ 12
  · rw [if_pos z]; exact ⟨z.1, z.2, rfl⟩
  · rw [if_neg z] at h; exact absurd (by decide) h
section PBD
variable {tb : Nat → Nat} {n a0 t k : Nat} {M : mw_S}
theorem pI.bd (h : pI tb n a0 M t) : ∃ b, M.1 37 = nI b ∧ (M.1 37).toNatClampNeg = b ∧ b ≤ qs tb n t := by
  obtain ⟨b, h1, h2⟩ := h.2.2.2.2.2.2
  have := qs_le (tb := tb) (n := n) t
  have := h.n7
  exact ⟨b, h1, by rw [h1, nI_clamp (by omega)], h2⟩
theorem pBd3_I {q : Nat} (h : pI tb n a0 M t) (hc : 2 ≤ cd tb n t) : pI tb n a0 (mw_setS (pw tb n (rm_bgh (rm_bnew (if rm_has M q k = true then rm_faulty M 3 (M.1 27) else M) (M.1 37).toNatClampNeg k q) (M.1 111).toNatClampNeg k q (qs tb n t) (M.1 13).toNatClampNeg (rm_has M q k)) t) 47 0) (t + 1) := by
  obtain ⟨b, b1, b2, b3⟩ := h.bd
  rw [b2]
  by_cases z : rm_has M q k = true
  · rw [if_pos z]
    exact h.flt.bnew (by rw [rm_faulty_1 _ _ _ (by decide) (by decide)]; exact b1) b3 hc
  · rw [if_neg z]
    exact h.bnew b1 b3 hc
theorem pBd4_post {q g : Nat} {r l : Int32} {s : Bool} {z : pr_T} (h : z.1 = -2 ∨ pG tb n a0 t z) : (pBd4 k q g r l s z).1 = 0 ∨ ((pBd4 k q g r l s z).1 = 1 ∧ pG tb n a0 t (pBd4 k q g r l s z)) := by
  unfold pBd4
  by_cases c : z.1 = -2
  · rw [if_pos c]; exact Or.inl rfl
  · rw [if_neg c]
    obtain ⟨g1, g2⟩ := h.resolve_left c
    refine Or.inr ⟨rfl, ?_, g2⟩
    have e : ∀ M1 : mw_S, M1.1 = z.2.1.1 → M1.2.2.1 0 = z.2.1.2.2.1 0 → pI tb n a0 (rm_bge M1 g z.1 r l) z.2.2 := fun M1 e1 e2 => g1.same e1 (by unfold rm_bge; exact ((V0 rfl).trans ((V0 rfl).trans ((V0 rfl).trans ((V0 rfl).trans (V0 rfl))))).trans e2)
    show pI tb n a0 (if s = true then _ else _) z.2.2
    by_cases cs : s = true
    · rw [if_pos cs]; exact e _ rfl rfl
    · rw [if_neg cs]
      refine pI.sV ?_ rfl
      exact e _ rfl (by unfold rm_body; exact (V0 rfl).trans ((V0 rfl).trans ((V0 rfl).trans ((V0 rfl).trans (V0 rfl)))))
theorem pBd2_post {r l : Int32} (h : pI tb n a0 M t) : (pBd2 tb n k r l M t).1 = 0 ∨ ((pBd2 tb n k r l M t).1 = 1 ∧ pG tb n a0 (t + 1) (pBd2 tb n k r l M t) ∧ 2 ≤ cd tb n t) := by
  unfold pBd2
  by_cases c : hkI (cd tb n t) < 0
  · rw [if_pos c]; exact Or.inl rfl
  · rw [if_neg c]
    obtain ⟨h7, h12, -⟩ := hkI_n c
    unfold pBd3
    have := qs_le (tb := tb) (n := n) (t + 1)
    exact (pBd4_post ((pB_post (pL_post k (cd tb n t - 7) n) (pBd3_I (k := k) (q := cd tb n t - 7) h (by omega)) (by omega) 1).imp id (fun z => z.mono (by omega)))).imp id (fun z => ⟨z.1, z.2, by omega⟩)
theorem pBd1_post {r : Int32} (h : pI tb n a0 M t) : (pBd1 tb n k r M t).1 = 0 ∨ ((pBd1 tb n k r M t).1 = 1 ∧ pG tb n a0 (t + 1) (pBd1 tb n k r M t) ∧ 2 ≤ cd tb n t) := by
  unfold pBd1
  by_cases c : cd tb n t = 29
  · rw [if_pos c]; exact (pBd2_post h.w).imp id (fun z => ⟨z.1, z.2.1.mono (by omega), by omega⟩)
  · rw [if_neg c]; exact pBd2_post h
theorem pBody_post (h : pI tb n a0 M t) : (pBody tb n k M t).1 = 0 ∨ ((pBody tb n k M t).1 = 1 ∧ pG tb n a0 (t + 1) (pBody tb n k M t) ∧ 2 ≤ cd tb n t) := by
  unfold pBody
  by_cases c : cd tb n t = 27
  · rw [if_pos c]; exact (pBd1_post h.w).imp id (fun z => ⟨z.1, z.2.1.mono (by omega), by omega⟩)
  · rw [if_neg c]
    by_cases c2 : cd tb n t = 28
    · rw [if_pos c2]; exact (pBd1_post h.w).imp id (fun z => ⟨z.1, z.2.1.mono (by omega), by omega⟩)
    · rw [if_neg c2]; exact pBd1_post h
theorem pBs_post : ∀ (f : Nat) (M : mw_S) (t : Nat), pI tb n a0 M t → n - qs tb n t < f → (pBs tb n k f M t).1 = 0 ∨ ((pBs tb n k f M t).1 = 1 ∧ pG tb n a0 (t + 1) (pBs tb n k f M t) ∧ qs tb n t < qs tb n (t + 1)) := by
  intro f
  induction f with
  | zero => intro M t _ hf; omega
  | succ f ih =>
    intro M t h hf
    show (if cd tb n t = 5 then (1, mw_setV (pw tb n M t) 106 k (M.1 111), t + 1) else if (pBody tb n k M t).1 = 0 then pBody tb n k M t else pBs tb n k f (pBody tb n k M t).2.1 (pBody tb n k M t).2.2 : pr_T).1 = 0 ∨ _
    show _ ∨ ((if cd tb n t = 5 then (1, mw_setV (pw tb n M t) 106 k (M.1 111), t + 1) else if (pBody tb n k M t).1 = 0 then pBody tb n k M t else pBs tb n k f (pBody tb n k M t).2.1 (pBody tb n k M t).2.2 : pr_T).1 = 1 ∧ pG tb n a0 (t + 1) (if cd tb n t = 5 then (1, mw_setV (pw tb n M t) 106 k (M.1 111), t + 1) else if (pBody tb n k M t).1 = 0 then pBody tb n k M t else pBs tb n k f (pBody tb n k M t).2.1 (pBody tb n k M t).2.2 : pr_T) ∧ _)
    by_cases c : cd tb n t = 5
    · rw [if_pos c]
      exact Or.inr ⟨rfl, ⟨h.w.sV rfl, Nat.le_refl _⟩, (qs_lt (by omega)).2.1⟩
    · rw [if_neg c]
      by_cases z : (pBody tb n k M t).1 = 0
      · rw [if_pos z]; exact Or.inl z
      · rw [if_neg z]
        obtain ⟨-, ⟨g1, g2⟩, g3⟩ := (pBody_post h).resolve_left z
        have q1 := (qs_lt g3).2.1
        have q2 := qs_le_of (tb := tb) (n := n) g2
        have q3 := qs_le (tb := tb) (n := n) (pBody tb n k M t).2.2
        exact (ih _ _ g1 (by omega)).imp id (fun y => ⟨y.1, y.2.1.mono (by omega), q1⟩)
end PBD

theorem ok_readBody {G : mm_G} {L : Nat × Nat} {h0 : mm_H} {m : Nat} {ad : Nat → Nat} {tb : Nat → Nat} {n a0 k : Nat} {d t : Nat} {M : mw_S} {h : mm_H} (hI : pI tb n a0 M t) (hk : k < 50) (hL : LT G m ad h0) (hW : mw_W m ad h0 M h) : mm_Ok G mX12_readBody L (d + 29) [.ref m, .int (nI k)] h (fun r h1 => mw_W m ad h0 (pBody tb n k M t).2.1 h1 ∧ h1.2 = h.2 ∧ r = some (.int (pBody tb n k M t).1)) := by
  obtain ⟨R_, hRe⟩ : ∃ R_, R_ = pBody tb n k M t := ⟨_, rfl⟩
  rw [← hRe]
  refine mm_Ok.of [(0, .ref m), (1, .int (nI k))] rfl kX12_readBody.2.2.2.2.2 rfl (fun A => ?_)
  have lpD_ : ∀ (s : Bool) (M1 M2 : mw_S) (t1 q : Nat) (r l : Int32) (h1 : mm_H), q < 6 → (l = 0 ∨ l = 1) → M2.1 27 = M1.1 27 → M2.1 37 = nI (M1.1 37).toNatClampNeg → (M1.1 37).toNatClampNeg < 700 → pP tb n (rm_bgh (rm_bnew M2 (M1.1 37).toNatClampNeg k q) (M1.1 111).toNatClampNeg k q (qs tb n t1) (M1.1 13).toNatClampNeg s) t1 → pI tb n a0 (mw_setS (pw tb n (rm_bgh (rm_bnew M2 (M1.1 37).toNatClampNeg k q) (M1.1 111).toNatClampNeg k q (qs tb n t1) (M1.1 13).toNatClampNeg s) t1) 47 0) (t1 + 1) → pBd4 k q (M1.1 111).toNatClampNeg r l s (pB tb n (pL tb n k q n) (mw_setS (pw tb n (rm_bgh (rm_bnew M2 (M1.1 37).toNatClampNeg k q) (M1.1 111).toNatClampNeg k q (qs tb n t1) (M1.1 13).toNatClampNeg s) t1) 47 0) (t1 + 1) 1) = R_ → mw_W m ad h0 M2 h1 → h1.2 = h.2 → mm_Run G mX12_readBody A L (d + 29) 98 [(5, .int (bI s)), (4, .int (nI q)), (2, .int r), (3, .int l), (0, .ref m), (1, .int (nI k))] [] h1 (fun r h1 => mw_W m ad h0 R_.2.1 h1 ∧ h1.2 = h.2 ∧ r = some (.int R_.1)) := by
    intro s M1 M2 t1 q r l h1 hq hl h27 hb37 hb7 hPb hI3 hR hW eh
    cases s with
    | true =>
      show mm_Run G mX12_readBody A L (d + 29) 98 [(5, .int 1), (4, .int (nI q)), (2, .int r), (3, .int l), (0, .ref m), (1, .int (nI k))] [] h1 (fun r h1 => mw_W m ad h0 R_.2.1 h1 ∧ h1.2 = h.2 ∧ r = some (.int R_.1))
      refine mm_aload_n (pc := 98) dX12_readBody_98 rfl (by first | trivial | assumption | exact mm_isr_rf _) ?_
      refine mw_geta (pc := 99) 38 hW dX12_readBody_99 fl_X12_85 rfl rfl ?_
      refine mm_aload_n (pc := 102) dX12_readBody_102 rfl (by first | trivial | assumption | exact mm_isr_rf _) ?_
      refine mw_gets (pc := 103) 37 hW dX12_readBody_103 fl_X12_359 rfl rfl ?_
      refine mm_iload_n (pc := 106) dX12_readBody_106 rfl ?_
      refine mw_iast (pc := 107) 38 (M1.1 37).toNatClampNeg hW dX12_readBody_107 rfl rfl (hb37) (by show _ < 700; omega) (by omega) (fun h107 hW e107 => ?_)
      refine mm_aload_n (pc := 108) dX12_readBody_108 rfl (by first | trivial | assumption | exact mm_isr_rf _) ?_
      refine mw_geta (pc := 109) 39 hW dX12_readBody_109 fl_X12_88 rfl rfl ?_
      refine mm_aload_n (pc := 112) dX12_readBody_112 rfl (by first | trivial | assumption | exact mm_isr_rf _) ?_
      refine mw_gets (pc := 113) 37 hW dX12_readBody_113 fl_X12_359 rfl rfl ?_
      refine mm_iload (pc := 116) dX12_readBody_116 rfl ?_
      refine mw_iast (pc := 118) 39 (M1.1 37).toNatClampNeg hW dX12_readBody_118 rfl rfl (hb37) (by show _ < 700; omega) (by omega) (fun h118 hW e118 => ?_)
      refine mm_aload_n (pc := 119) dX12_readBody_119 rfl (by first | trivial | assumption | exact mm_isr_rf _) ?_
      refine mw_geta (pc := 120) 40 hW dX12_readBody_120 fl_X12_91 rfl rfl ?_
      refine mm_aload_n (pc := 123) dX12_readBody_123 rfl (by first | trivial | assumption | exact mm_isr_rf _) ?_
      refine mw_gets (pc := 124) 37 hW dX12_readBody_124 fl_X12_359 rfl rfl ?_
      refine mm_aload_n (pc := 127) dX12_readBody_127 rfl (by first | trivial | assumption | exact mm_isr_rf _) ?_
      refine mw_gets (pc := 128) 27 hW dX12_readBody_128 fl_X12_212 rfl rfl ?_
      refine mw_iast (pc := 131) 40 (M1.1 37).toNatClampNeg hW dX12_readBody_131 rfl rfl (hb37) (by show _ < 700; omega) (by omega) (fun h131 hW e131 => ?_)
      refine mm_aload_n (pc := 132) dX12_readBody_132 rfl (by first | trivial | assumption | exact mm_isr_rf _) ?_
      refine mm_dup (pc := 133) dX12_readBody_133 rfl ?_
      refine mw_gets (pc := 134) 37 hW dX12_readBody_134 fl_X12_359 rfl rfl ?_
      refine mm_iconst (pc := 137) (v := 1) dX12_readBody_137 (by decide) ?_
      refine mm_iadd (pc := 138) dX12_readBody_138 ?_
      refine mw_put (pc := 139) 37 hW dX12_readBody_139 (pl_X12_359 _) rfl (fun h139 hW e139 => ?_)
      have hW : mw_W m ad h0 (rm_bnew M2 (M1.1 37).toNatClampNeg k q) h139 := by
        unfold rm_bnew
        rw [← nI_1, ← hb37]
        exact hW
      have hW := hW.gB (g := (M1.1 111).toNatClampNeg) (k := k) (q := q) (p := qs tb n t1) (a := (M1.1 13).toNatClampNeg) (s := true)
      refine mm_aload_n (pc := 142) dX12_readBody_142 rfl (by first | trivial | assumption | exact mm_isr_rf _) ?_
      refine mm_callV (pc := 143) (As := []) (kd := ?kd_143_1) (fs := ?fs_143_1) dX12_readBody_143 vl_X12_284 (ok_wordC (M := (rm_bgh (rm_bnew M2 (M1.1 37).toNatClampNeg k q) (M1.1 111).toNatClampNeg k q (qs tb n t1) (M1.1 13).toNatClampNeg true)) (t := t1) hPb hW) ?hc_143_1 ?hk_143_1 rfl rfl (Nat.le_of_ble_eq_true rfl) ?_; (case hc_143_1 => exact hW.1); (case hk_143_1 => rfl)
      rintro _ h143 ⟨hW, e143, rfl⟩
      refine mm_aload_n (pc := 146) dX12_readBody_146 rfl (by first | trivial | assumption | exact mm_isr_rf _) ?_
      refine mm_iconst (pc := 147) (v := 0) dX12_readBody_147 (by decide) ?_
      refine mw_put (pc := 148) 47 hW dX12_readBody_148 (pl_X12_362 _) rfl (fun h148 hW e148 => ?_)
      refine mm_aload_n (pc := 151) dX12_readBody_151 rfl (by first | trivial | assumption | exact mm_isr_rf _) ?_
      refine mm_iload_n (pc := 152) dX12_readBody_152 rfl ?_
      refine mm_iload (pc := 153) dX12_readBody_153 rfl ?_
      refine mm_iconst (pc := 155) (v := 1) dX12_readBody_155 (by decide) ?_
      refine mm_callV (pc := 156) (As := [_, _, _]) (kd := ?kd_156_2) (fs := ?fs_156_2) dX12_readBody_156 vl_X12_365 (ok_readActions (d := d) hL n 1 ⟨by decide, by decide⟩ (mw_setS (pw tb n (rm_bgh (rm_bnew M2 (M1.1 37).toNatClampNeg k q) (M1.1 111).toNatClampNeg k q (qs tb n t1) (M1.1 13).toNatClampNeg true) t1) 47 0) _ (t1 + 1) hI3 (by omega) hW) ?hc_156_2 ?hk_156_2 rfl rfl (Nat.le_of_ble_eq_true rfl) ?_; (case hc_156_2 => exact hW.1); (case hk_156_2 => rfl)
      rintro _ h156 ⟨hW, e156, rfl⟩
      refine mm_istore (pc := 159) dX12_readBody_159 rfl (Nat.le_of_ble_eq_true rfl) ?_
      refine mm_iload (pc := 161) dX12_readBody_161 rfl ?_
      refine mm_bipush (pc := 163) (v := (-2)) dX12_readBody_163 (by decide) ?_
      refine mm_icmp_ne (pc := 165) (tgt := 170) dX12_readBody_165 (by decide) (fun c165 => ?_) (fun c165 => ?_)
      · refine mm_iload (pc := 170) dX12_readBody_170 rfl ?_
        refine mm_if_ne (pc := 172) (tgt := 190) dX12_readBody_172 (by decide) (fun c172 => ?_) (fun c172 => absurd c172 (by decide))
        refine mm_iconst (pc := 190) (v := 1) dX12_readBody_190 (by decide) ?_
        refine mm_zret (pc := 191) dX12_readBody_191 rfl (by first | rfl | decide) ?_
        rw [← hR]
        unfold pBd4
        rw [if_neg c165, if_pos rfl]
        exact ⟨hW.gE, by rw [e156, e148, e143, e139, e131, e118, e107, eh], rfl⟩
      · refine mm_iconst (pc := 168) (v := 0) dX12_readBody_168 (by decide) ?_
        refine mm_zret (pc := 169) dX12_readBody_169 rfl (by first | rfl | decide) ?_
        rw [← hR]
        unfold pBd4
        rw [if_pos c165]
        exact ⟨hW, by rw [e156, e148, e143, e139, e131, e118, e107, eh], rfl⟩
    | false =>
      show mm_Run G mX12_readBody A L (d + 29) 98 [(5, .int 0), (4, .int (nI q)), (2, .int r), (3, .int l), (0, .ref m), (1, .int (nI k))] [] h1 (fun r h1 => mw_W m ad h0 R_.2.1 h1 ∧ h1.2 = h.2 ∧ r = some (.int R_.1))
      refine mm_aload_n (pc := 98) dX12_readBody_98 rfl (by first | trivial | assumption | exact mm_isr_rf _) ?_
      refine mw_geta (pc := 99) 38 hW dX12_readBody_99 fl_X12_85 rfl rfl ?_
      refine mm_aload_n (pc := 102) dX12_readBody_102 rfl (by first | trivial | assumption | exact mm_isr_rf _) ?_
      refine mw_gets (pc := 103) 37 hW dX12_readBody_103 fl_X12_359 rfl rfl ?_
      refine mm_iload_n (pc := 106) dX12_readBody_106 rfl ?_
      refine mw_iast (pc := 107) 38 (M1.1 37).toNatClampNeg hW dX12_readBody_107 rfl rfl (hb37) (by show _ < 700; omega) (by omega) (fun h107 hW e107 => ?_)
      refine mm_aload_n (pc := 108) dX12_readBody_108 rfl (by first | trivial | assumption | exact mm_isr_rf _) ?_
      refine mw_geta (pc := 109) 39 hW dX12_readBody_109 fl_X12_88 rfl rfl ?_
      refine mm_aload_n (pc := 112) dX12_readBody_112 rfl (by first | trivial | assumption | exact mm_isr_rf _) ?_
      refine mw_gets (pc := 113) 37 hW dX12_readBody_113 fl_X12_359 rfl rfl ?_
      refine mm_iload (pc := 116) dX12_readBody_116 rfl ?_
      refine mw_iast (pc := 118) 39 (M1.1 37).toNatClampNeg hW dX12_readBody_118 rfl rfl (hb37) (by show _ < 700; omega) (by omega) (fun h118 hW e118 => ?_)
      refine mm_aload_n (pc := 119) dX12_readBody_119 rfl (by first | trivial | assumption | exact mm_isr_rf _) ?_
      refine mw_geta (pc := 120) 40 hW dX12_readBody_120 fl_X12_91 rfl rfl ?_
      refine mm_aload_n (pc := 123) dX12_readBody_123 rfl (by first | trivial | assumption | exact mm_isr_rf _) ?_
      refine mw_gets (pc := 124) 37 hW dX12_readBody_124 fl_X12_359 rfl rfl ?_
      refine mm_aload_n (pc := 127) dX12_readBody_127 rfl (by first | trivial | assumption | exact mm_isr_rf _) ?_
      refine mw_gets (pc := 128) 27 hW dX12_readBody_128 fl_X12_212 rfl rfl ?_
      refine mw_iast (pc := 131) 40 (M1.1 37).toNatClampNeg hW dX12_readBody_131 rfl rfl (hb37) (by show _ < 700; omega) (by omega) (fun h131 hW e131 => ?_)
      refine mm_aload_n (pc := 132) dX12_readBody_132 rfl (by first | trivial | assumption | exact mm_isr_rf _) ?_
      refine mm_dup (pc := 133) dX12_readBody_133 rfl ?_
      refine mw_gets (pc := 134) 37 hW dX12_readBody_134 fl_X12_359 rfl rfl ?_
      refine mm_iconst (pc := 137) (v := 1) dX12_readBody_137 (by decide) ?_
      refine mm_iadd (pc := 138) dX12_readBody_138 ?_
      refine mw_put (pc := 139) 37 hW dX12_readBody_139 (pl_X12_359 _) rfl (fun h139 hW e139 => ?_)
      have hW : mw_W m ad h0 (rm_bnew M2 (M1.1 37).toNatClampNeg k q) h139 := by
        unfold rm_bnew
        rw [← nI_1, ← hb37]
        exact hW
      have hW := hW.gB (g := (M1.1 111).toNatClampNeg) (k := k) (q := q) (p := qs tb n t1) (a := (M1.1 13).toNatClampNeg) (s := false)
      refine mm_aload_n (pc := 142) dX12_readBody_142 rfl (by first | trivial | assumption | exact mm_isr_rf _) ?_
      refine mm_callV (pc := 143) (As := []) (kd := ?kd_143_3) (fs := ?fs_143_3) dX12_readBody_143 vl_X12_284 (ok_wordC (M := (rm_bgh (rm_bnew M2 (M1.1 37).toNatClampNeg k q) (M1.1 111).toNatClampNeg k q (qs tb n t1) (M1.1 13).toNatClampNeg false)) (t := t1) hPb hW) ?hc_143_3 ?hk_143_3 rfl rfl (Nat.le_of_ble_eq_true rfl) ?_; (case hc_143_3 => exact hW.1); (case hk_143_3 => rfl)
      rintro _ h143 ⟨hW, e143, rfl⟩
      refine mm_aload_n (pc := 146) dX12_readBody_146 rfl (by first | trivial | assumption | exact mm_isr_rf _) ?_
      refine mm_iconst (pc := 147) (v := 0) dX12_readBody_147 (by decide) ?_
      refine mw_put (pc := 148) 47 hW dX12_readBody_148 (pl_X12_362 _) rfl (fun h148 hW e148 => ?_)
      refine mm_aload_n (pc := 151) dX12_readBody_151 rfl (by first | trivial | assumption | exact mm_isr_rf _) ?_
      refine mm_iload_n (pc := 152) dX12_readBody_152 rfl ?_
      refine mm_iload (pc := 153) dX12_readBody_153 rfl ?_
      refine mm_iconst (pc := 155) (v := 1) dX12_readBody_155 (by decide) ?_
      refine mm_callV (pc := 156) (As := [_, _, _]) (kd := ?kd_156_4) (fs := ?fs_156_4) dX12_readBody_156 vl_X12_365 (ok_readActions (d := d) hL n 1 ⟨by decide, by decide⟩ (mw_setS (pw tb n (rm_bgh (rm_bnew M2 (M1.1 37).toNatClampNeg k q) (M1.1 111).toNatClampNeg k q (qs tb n t1) (M1.1 13).toNatClampNeg false) t1) 47 0) _ (t1 + 1) hI3 (by omega) hW) ?hc_156_4 ?hk_156_4 rfl rfl (Nat.le_of_ble_eq_true rfl) ?_; (case hc_156_4 => exact hW.1); (case hk_156_4 => rfl)
      rintro _ h156 ⟨hW, e156, rfl⟩
      refine mm_istore (pc := 159) dX12_readBody_159 rfl (Nat.le_of_ble_eq_true rfl) ?_
      refine mm_iload (pc := 161) dX12_readBody_161 rfl ?_
      refine mm_bipush (pc := 163) (v := (-2)) dX12_readBody_163 (by decide) ?_
      refine mm_icmp_ne (pc := 165) (tgt := 170) dX12_readBody_165 (by decide) (fun c165 => ?_) (fun c165 => ?_)
      · refine mm_iload (pc := 170) dX12_readBody_170 rfl ?_
        refine mm_if_ne (pc := 172) (tgt := 190) dX12_readBody_172 (by decide) (fun c172 => absurd rfl c172) (fun c172 => ?_)
        refine mm_aload_n (pc := 175) dX12_readBody_175 rfl (by first | trivial | assumption | exact mm_isr_rf _) ?_
        refine mm_iload_n (pc := 176) dX12_readBody_176 rfl ?_
        refine mm_iload (pc := 177) dX12_readBody_177 rfl ?_
        refine mm_iload_n (pc := 179) dX12_readBody_179 rfl ?_
        refine mm_iload_n (pc := 180) dX12_readBody_180 rfl ?_
        refine mm_iload (pc := 181) dX12_readBody_181 rfl ?_
        refine mm_aload_n (pc := 183) dX12_readBody_183 rfl (by first | trivial | assumption | exact mm_isr_rf _) ?_
        refine mw_gets (pc := 184) 47 hW dX12_readBody_184 fl_X12_362 rfl rfl ?_
        refine mm_callV (pc := 187) (As := [_, _, _, _, _, _]) (kd := ?kd_187_5) (fs := ?fs_187_5) dX12_readBody_187 vl_X12_165 (ok_X12_body (k := k) (q := q) hk hq hl hW) ?hc_187_5 ?hk_187_5 rfl rfl (Nat.le_of_ble_eq_true rfl) ?_; (case hc_187_5 => exact hW.1); (case hk_187_5 => rfl)
        rintro _ h187 ⟨hW, e187, rfl⟩
        refine mm_iconst (pc := 190) (v := 1) dX12_readBody_190 (by decide) ?_
        refine mm_zret (pc := 191) dX12_readBody_191 rfl (by first | rfl | decide) ?_
        rw [← hR]
        unfold pBd4
        rw [if_neg c165, if_neg (by decide)]
        exact ⟨(hW.gE).gh rfl, by rw [e187, e156, e148, e143, e139, e131, e118, e107, eh], rfl⟩
      · refine mm_iconst (pc := 168) (v := 0) dX12_readBody_168 (by decide) ?_
        refine mm_zret (pc := 169) dX12_readBody_169 rfl (by first | rfl | decide) ?_
        rw [← hR]
        unfold pBd4
        rw [if_pos c165]
        exact ⟨hW, by rw [e156, e148, e143, e139, e131, e118, e107, eh], rfl⟩
  have lpC_ : ∀ (M1 : mw_S) (t1 : Nat) (r l : Int32) (h1 : mm_H), (l = 0 ∨ l = 1) → pI tb n a0 M1 t1 → pBd2 tb n k r l M1 t1 = R_ → mw_W m ad h0 M1 h1 → h1.2 = h.2 → mm_Run G mX12_readBody A L (d + 29) 55 [(2, .int r), (3, .int l), (0, .ref m), (1, .int (nI k))] [] h1 (fun r h1 => mw_W m ad h0 R_.2.1 h1 ∧ h1.2 = h.2 ∧ r = some (.int R_.1)) := by
    intro M1 t1 r l h1 hl hI hR hW eh
    by_cases hc : hkI (cd tb n t1) < 0
    ·
      refine mm_aload_n (pc := 55) dX12_readBody_55 rfl (by first | trivial | assumption | exact mm_isr_rf _) ?_
      refine mm_callV (pc := 56) (As := []) (kd := ?kd_56_6) (fs := ?fs_56_6) dX12_readBody_56 vl_X12_356 (ok_hookC (M := M1) (t := t1) hI.1 hL hW) ?hc_56_6 ?hk_56_6 rfl rfl (Nat.le_of_ble_eq_true rfl) ?_; (case hc_56_6 => exact hW.1); (case hk_56_6 => rfl)
      rintro _ _ ⟨rfl, rfl⟩
      refine mm_istore (pc := 59) dX12_readBody_59 rfl (Nat.le_of_ble_eq_true rfl) ?_
      refine mm_iload (pc := 61) dX12_readBody_61 rfl ?_
      refine mm_if_ge (pc := 63) (tgt := 75) dX12_readBody_63 (by decide) (fun c63 => absurd c63 (fun z => absurd hc (Int32.not_lt.mpr z))) (fun c63 => ?_)
      refine mm_aload_n (pc := 66) dX12_readBody_66 rfl (by first | trivial | assumption | exact mm_isr_rf _) ?_
      refine mm_aload_n (pc := 67) dX12_readBody_67 rfl (by first | trivial | assumption | exact mm_isr_rf _) ?_
      refine mw_gets (pc := 68) 27 hW dX12_readBody_68 fl_X12_212 rfl rfl ?_
      refine mm_callV (pc := 71) (As := [_]) (kd := ?kd_71_7) (fs := ?fs_71_7) dX12_readBody_71 vl_X12_281 (ok_failC (M := M1) (t := t1) hI.1 hI.2.1 hW) ?hc_71_7 ?hk_71_7 rfl rfl (Nat.le_of_ble_eq_true rfl) ?_; (case hc_71_7 => exact hW.1); (case hk_71_7 => rfl)
      rintro _ h71 ⟨hW, e71, rfl⟩
      refine mm_zret (pc := 74) dX12_readBody_74 rfl (by first | rfl | decide) ?_
      rw [← hR]
      unfold pBd2
      rw [if_pos hc]
      exact ⟨hW, by rw [e71, eh], rfl⟩
    · obtain ⟨h7, h12, hk7⟩ := hkI_n hc
      have hqn := (qs_lt (tb := tb) (n := n) (t := t1) (by omega)).2.2
      have hn7 := hI.n7
      obtain ⟨b_, b0, b2, b3⟩ := hI.bd
      have b1 : M1.1 37 = nI (M1.1 37).toNatClampNeg := by rw [b2]; exact b0
      have hb7 : (M1.1 37).toNatClampNeg < 700 := by omega
      have hI3 := pBd3_I (k := k) (q := cd tb n t1 - 7) hI (by omega)
      have hPb : pP tb n (rm_bgh (rm_bnew (if rm_has M1 (cd tb n t1 - 7) k = true then rm_faulty M1 3 (M1.1 27) else M1) (M1.1 37).toNatClampNeg k (cd tb n t1 - 7)) (M1.1 111).toNatClampNeg k (cd tb n t1 - 7) (qs tb n t1) (M1.1 13).toNatClampNeg (rm_has M1 (cd tb n t1 - 7) k)) t1 := by
        have hV : ∀ M2 : mw_S, M2.2.2.1 0 = M1.2.2.1 0 → (rm_bgh (rm_bnew M2 (M1.1 37).toNatClampNeg k (cd tb n t1 - 7)) (M1.1 111).toNatClampNeg k (cd tb n t1 - 7) (qs tb n t1) (M1.1 13).toNatClampNeg (rm_has M1 (cd tb n t1 - 7) k)).2.2.1 0 = M1.2.2.1 0 := by
          intro M2 e
          unfold rm_bgh rm_bnew
          exact ((V0 rfl).trans ((V0 rfl).trans ((V0 rfl).trans ((V0 rfl).trans ((V0 rfl).trans ((V0 rfl).trans ((V0 rfl).trans (V0 rfl)))))))).trans e
        by_cases z : rm_has M1 (cd tb n t1 - 7) k = true
        · rw [if_pos z]
          exact hI.flt.1.same rfl rfl rfl rfl rfl ((hV _ (by rw [rm_faulty_2])).trans (by rw [rm_faulty_2]))
        · rw [if_neg z]
          exact hI.1.same rfl rfl rfl rfl rfl (hV _ rfl)
      cases hs : rm_has M1 (cd tb n t1 - 7) k with
      | true =>
        refine mm_aload_n (pc := 55) dX12_readBody_55 rfl (by first | trivial | assumption | exact mm_isr_rf _) ?_
        refine mm_callV (pc := 56) (As := []) (kd := ?kd_56_8) (fs := ?fs_56_8) dX12_readBody_56 vl_X12_356 (ok_hookC (M := M1) (t := t1) hI.1 hL hW) ?hc_56_8 ?hk_56_8 rfl rfl (Nat.le_of_ble_eq_true rfl) ?_; (case hc_56_8 => exact hW.1); (case hk_56_8 => rfl)
        rintro _ _ ⟨rfl, rfl⟩
        refine mm_topi (nI (cd tb n t1 - 7)) hk7 ?_
        refine mm_istore (pc := 59) dX12_readBody_59 rfl (Nat.le_of_ble_eq_true rfl) ?_
        refine mm_iload (pc := 61) dX12_readBody_61 rfl ?_
        refine mm_if_ge (pc := 63) (tgt := 75) dX12_readBody_63 (by decide) (fun c63 => ?_) (fun c63 => absurd (nI_pos' (by omega)) c63)
        refine mm_aload_n (pc := 75) dX12_readBody_75 rfl (by first | trivial | assumption | exact mm_isr_rf _) ?_
        refine mm_iload_n (pc := 76) dX12_readBody_76 rfl ?_
        refine mm_iload (pc := 77) dX12_readBody_77 rfl ?_
        refine mm_callV (pc := 79) (As := [_, _]) (kd := ?kd_79_9) (fs := ?fs_79_9) dX12_readBody_79 vl_X12_196 (ok_X12_hasBody (M := M1) (k := k) (j := cd tb n t1 - 7) hk (by omega) hW) ?hc_79_9 ?hk_79_9 rfl rfl (Nat.le_of_ble_eq_true rfl) ?_; (case hc_79_9 => exact hW.1); (case hk_79_9 => rfl)
        rintro _ _ ⟨rfl, rfl⟩
        refine mm_topi (1) (by rw [hs]; rfl) ?_
        refine mm_istore (pc := 82) dX12_readBody_82 rfl (Nat.le_of_ble_eq_true rfl) ?_
        refine mm_iload (pc := 84) dX12_readBody_84 rfl ?_
        refine mm_if_eq (pc := 86) (tgt := 98) dX12_readBody_86 (by decide) (fun c86 => absurd c86 (by decide)) (fun c86 => ?_)
        refine mm_aload_n (pc := 89) dX12_readBody_89 rfl (by first | trivial | assumption | exact mm_isr_rf _) ?_
        refine mm_iconst (pc := 90) (v := 3) dX12_readBody_90 (by decide) ?_
        refine mm_aload_n (pc := 91) dX12_readBody_91 rfl (by first | trivial | assumption | exact mm_isr_rf _) ?_
        refine mw_gets (pc := 92) 27 hW dX12_readBody_92 fl_X12_212 rfl rfl ?_
        refine mm_callV (pc := 95) (As := [_, _]) (kd := ?kd_95_10) (fs := ?fs_95_10) dX12_readBody_95 vl_X12_333 (ok_X12_faulty hW) ?hc_95_10 ?hk_95_10 rfl rfl (Nat.le_of_ble_eq_true rfl) ?_; (case hc_95_10 => exact hW.1); (case hk_95_10 => rfl)
        rintro _ h95 ⟨hW, e95, rfl⟩
        exact mm_weakK (lpD_ true M1 (rm_faulty M1 3 (M1.1 27)) t1 (cd tb n t1 - 7) r l h95 (by omega) hl (rm_faulty_1 _ _ _ (by decide) (by decide)) (by rw [rm_faulty_1 _ _ _ (by decide) (by decide)]; exact b1) hb7 (by have z := hPb; rw [hs, if_pos rfl] at z; exact z) (by have z := hI3; rw [hs, if_pos rfl] at z; exact z) (by rw [← hR]; unfold pBd2; rw [if_neg hc]; unfold pBd3; rw [hs, if_pos rfl]) hW (by rw [e95, eh])) (And.intro rfl (And.intro rfl (And.intro rfl (And.intro rfl (And.intro rfl (And.intro rfl trivial))))))
      | false =>
        refine mm_aload_n (pc := 55) dX12_readBody_55 rfl (by first | trivial | assumption | exact mm_isr_rf _) ?_
        refine mm_callV (pc := 56) (As := []) (kd := ?kd_56_11) (fs := ?fs_56_11) dX12_readBody_56 vl_X12_356 (ok_hookC (M := M1) (t := t1) hI.1 hL hW) ?hc_56_11 ?hk_56_11 rfl rfl (Nat.le_of_ble_eq_true rfl) ?_; (case hc_56_11 => exact hW.1); (case hk_56_11 => rfl)
        rintro _ _ ⟨rfl, rfl⟩
        refine mm_topi (nI (cd tb n t1 - 7)) hk7 ?_
        refine mm_istore (pc := 59) dX12_readBody_59 rfl (Nat.le_of_ble_eq_true rfl) ?_
        refine mm_iload (pc := 61) dX12_readBody_61 rfl ?_
        refine mm_if_ge (pc := 63) (tgt := 75) dX12_readBody_63 (by decide) (fun c63 => ?_) (fun c63 => absurd (nI_pos' (by omega)) c63)
        refine mm_aload_n (pc := 75) dX12_readBody_75 rfl (by first | trivial | assumption | exact mm_isr_rf _) ?_
        refine mm_iload_n (pc := 76) dX12_readBody_76 rfl ?_
        refine mm_iload (pc := 77) dX12_readBody_77 rfl ?_
        refine mm_callV (pc := 79) (As := [_, _]) (kd := ?kd_79_12) (fs := ?fs_79_12) dX12_readBody_79 vl_X12_196 (ok_X12_hasBody (M := M1) (k := k) (j := cd tb n t1 - 7) hk (by omega) hW) ?hc_79_12 ?hk_79_12 rfl rfl (Nat.le_of_ble_eq_true rfl) ?_; (case hc_79_12 => exact hW.1); (case hk_79_12 => rfl)
        rintro _ _ ⟨rfl, rfl⟩
        refine mm_topi (0) (by rw [hs]; rfl) ?_
        refine mm_istore (pc := 82) dX12_readBody_82 rfl (Nat.le_of_ble_eq_true rfl) ?_
        refine mm_iload (pc := 84) dX12_readBody_84 rfl ?_
        refine mm_if_eq (pc := 86) (tgt := 98) dX12_readBody_86 (by decide) (fun c86 => ?_) (fun c86 => absurd rfl c86)
        exact mm_weakK (lpD_ false M1 M1 t1 (cd tb n t1 - 7) r l _ (by omega) hl rfl b1 hb7 (by have z := hPb; rw [hs, if_neg (by decide)] at z; exact z) (by have z := hI3; rw [hs, if_neg (by decide)] at z; exact z) (by rw [← hR]; unfold pBd2; rw [if_neg hc]; unfold pBd3; rw [hs, if_neg (by decide)]) hW (by rw [eh])) (And.intro rfl (And.intro rfl (And.intro rfl (And.intro rfl (And.intro rfl (And.intro rfl trivial))))))
  have lpB_ : ∀ (M1 : mw_S) (t1 : Nat) (r : Int32) (h1 : mm_H), pI tb n a0 M1 t1 → pBd1 tb n k r M1 t1 = R_ → mw_W m ad h0 M1 h1 → h1.2 = h.2 → mm_Run G mX12_readBody A L (d + 29) 39 [(2, .int r), (0, .ref m), (1, .int (nI k))] [] h1 (fun r h1 => mw_W m ad h0 R_.2.1 h1 ∧ h1.2 = h.2 ∧ r = some (.int R_.1)) := by
    intro M1 t1 r h1 hI hR hW eh
    refine mm_aload_n (pc := 39) dX12_readBody_39 rfl (by first | trivial | assumption | exact mm_isr_rf _) ?_
    refine mm_ldcSw (pc := 40) (i := 21) dX12_readBody_40 rfl ?_
    refine mm_callV (pc := 43) (As := [_]) (kd := ?kd_43_13) (fs := ?fs_43_13) dX12_readBody_43 vl_X12_263 (ok_isC (M := M1) (t := t1) hI.1 hL 21 29 (w := [108, 97, 115, 116]) (by decide +kernel) (by decide +kernel) hW) ?hc_43_13 ?hk_43_13 rfl rfl (Nat.le_of_ble_eq_true rfl) ?_; (case hc_43_13 => exact hW.1); (case hk_43_13 => rfl)
    rintro _ _ ⟨rfl, rfl⟩
    refine mm_istore_n (pc := 46) dX12_readBody_46 rfl (Nat.le_of_ble_eq_true rfl) ?_
    refine mm_iload_n (pc := 47) dX12_readBody_47 rfl ?_
    refine mm_if_eq (pc := 48) (tgt := 55) dX12_readBody_48 (by decide) (fun c48 => ?_) (fun c48 => ?_)
    · have n48 := bI_d.mp c48
      exact mm_weakK (lpC_ M1 t1 r 0 _ (Or.inl rfl) hI (by rw [← hR]; unfold pBd1; rw [if_neg n48]) hW eh) (And.intro rfl (And.intro (by rw [decide_eq_false n48]; rfl) (And.intro rfl (And.intro rfl trivial))))
    · have y48 := bI_n c48
      refine mm_aload_n (pc := 51) dX12_readBody_51 rfl (by first | trivial | assumption | exact mm_isr_rf _) ?_
      refine mm_callV (pc := 52) (As := []) (kd := ?kd_52_14) (fs := ?fs_52_14) dX12_readBody_52 vl_X12_284 (ok_wordC (M := M1) (t := t1) hI.1 hW) ?hc_52_14 ?hk_52_14 rfl rfl (Nat.le_of_ble_eq_true rfl) ?_; (case hc_52_14 => exact hW.1); (case hk_52_14 => rfl)
      rintro _ h52 ⟨hW, e52, rfl⟩
      exact mm_weakK (lpC_ (pw tb n M1 t1) (t1 + 1) r 1 h52 (Or.inr rfl) hI.w (by rw [← hR]; unfold pBd1; rw [if_pos y48]) hW (by rw [e52, eh])) (And.intro rfl (And.intro (by rw [decide_eq_true y48]; rfl) (And.intro rfl (And.intro rfl trivial))))
  refine mm_aload_n (pc := 0) dX12_readBody_0 rfl (by first | trivial | assumption | exact mm_isr_rf _) ?_
  refine mm_ldcSw (pc := 1) (i := 19) dX12_readBody_1 rfl ?_
  refine mm_callV (pc := 4) (As := [_]) (kd := ?kd_4_15) (fs := ?fs_4_15) dX12_readBody_4 vl_X12_263 (ok_isC hI.1 hL 19 27 (w := [111, 112, 101, 110]) (by decide +kernel) (by decide +kernel) hW) ?hc_4_15 ?hk_4_15 rfl rfl (Nat.le_of_ble_eq_true rfl) ?_; (case hc_4_15 => exact hW.1); (case hk_4_15 => rfl)
  rintro _ _ ⟨rfl, rfl⟩
  refine mm_if_eq (pc := 7) (tgt := 14) dX12_readBody_7 (by decide) (fun c7 => ?_) (fun c7 => ?_)
  · have n7 := bI_d.mp c7
    refine mm_aload_n (pc := 14) dX12_readBody_14 rfl (by first | trivial | assumption | exact mm_isr_rf _) ?_
    refine mm_ldcSw (pc := 15) (i := 20) dX12_readBody_15 rfl ?_
    refine mm_callV (pc := 18) (As := [_]) (kd := ?kd_18_16) (fs := ?fs_18_16) dX12_readBody_18 vl_X12_263 (ok_isC hI.1 hL 20 28 (w := [103, 117, 97, 114, 100, 101, 100]) (by decide +kernel) (by decide +kernel) hW) ?hc_18_16 ?hk_18_16 rfl rfl (Nat.le_of_ble_eq_true rfl) ?_; (case hc_18_16 => exact hW.1); (case hk_18_16 => rfl)
    rintro _ _ ⟨rfl, rfl⟩
    refine mm_if_eq (pc := 21) (tgt := 28) dX12_readBody_21 (by decide) (fun c21 => ?_) (fun c21 => ?_)
    · have n21 := bI_d.mp c21
      refine mm_iconst (pc := 28) (v := 2) dX12_readBody_28 (by decide) ?_
      refine mm_istore_n (pc := 29) dX12_readBody_29 rfl (Nat.le_of_ble_eq_true rfl) ?_
      refine mm_iload_n (pc := 30) dX12_readBody_30 rfl ?_
      refine mm_iconst (pc := 31) (v := 2) dX12_readBody_31 (by decide) ?_
      refine mm_icmp_eq (pc := 32) (tgt := 39) dX12_readBody_32 (by decide) (fun c32 => ?_) (fun c32 => absurd rfl c32)
      exact mm_weakK (lpB_ M t 2 _ hI (by rw [hRe]; unfold pBody; rw [if_neg n7, if_neg n21]) hW rfl) (And.intro rfl (And.intro rfl (And.intro rfl trivial)))
    · have y21 := bI_n c21
      refine mm_iconst (pc := 24) (v := 1) dX12_readBody_24 (by decide) ?_
      refine mm_goto (pc := 25) (tgt := 29) dX12_readBody_25 (by decide) ?_
      refine mm_istore_n (pc := 29) dX12_readBody_29 rfl (Nat.le_of_ble_eq_true rfl) ?_
      refine mm_iload_n (pc := 30) dX12_readBody_30 rfl ?_
      refine mm_iconst (pc := 31) (v := 2) dX12_readBody_31 (by decide) ?_
      refine mm_icmp_eq (pc := 32) (tgt := 39) dX12_readBody_32 (by decide) (fun c32 => absurd c32 (by decide)) (fun c32 => ?_)
      refine mm_aload_n (pc := 35) dX12_readBody_35 rfl (by first | trivial | assumption | exact mm_isr_rf _) ?_
      refine mm_callV (pc := 36) (As := []) (kd := ?kd_36_17) (fs := ?fs_36_17) dX12_readBody_36 vl_X12_284 (ok_wordC hI.1 hW) ?hc_36_17 ?hk_36_17 rfl rfl (Nat.le_of_ble_eq_true rfl) ?_; (case hc_36_17 => exact hW.1); (case hk_36_17 => rfl)
      rintro _ h36 ⟨hW, e36, rfl⟩
      exact mm_weakK (lpB_ (pw tb n M t) (t + 1) 1 h36 hI.w (by rw [hRe]; unfold pBody; rw [if_neg n7, if_pos y21]) hW e36) (And.intro rfl (And.intro rfl (And.intro rfl trivial)))
  · have y7 := bI_n c7
    refine mm_iconst (pc := 10) (v := 0) dX12_readBody_10 (by decide) ?_
    refine mm_goto (pc := 11) (tgt := 29) dX12_readBody_11 (by decide) ?_
    refine mm_istore_n (pc := 29) dX12_readBody_29 rfl (Nat.le_of_ble_eq_true rfl) ?_
    refine mm_iload_n (pc := 30) dX12_readBody_30 rfl ?_
    refine mm_iconst (pc := 31) (v := 2) dX12_readBody_31 (by decide) ?_
    refine mm_icmp_eq (pc := 32) (tgt := 39) dX12_readBody_32 (by decide) (fun c32 => absurd c32 (by decide)) (fun c32 => ?_)
    refine mm_aload_n (pc := 35) dX12_readBody_35 rfl (by first | trivial | assumption | exact mm_isr_rf _) ?_
    refine mm_callV (pc := 36) (As := []) (kd := ?kd_36_18) (fs := ?fs_36_18) dX12_readBody_36 vl_X12_284 (ok_wordC hI.1 hW) ?hc_36_18 ?hk_36_18 rfl rfl (Nat.le_of_ble_eq_true rfl) ?_; (case hc_36_18 => exact hW.1); (case hk_36_18 => rfl)
    rintro _ h36 ⟨hW, e36, rfl⟩
    exact mm_weakK (lpB_ (pw tb n M t) (t + 1) 0 h36 hI.w (by rw [hRe]; unfold pBody; rw [if_pos y7]) hW e36) (And.intro rfl (And.intro rfl (And.intro rfl trivial)))

