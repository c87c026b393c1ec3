/-! a text by ldc_w -/
theorem mm_ldcStrW {p : Program} {l : Launch} {e : Env} {R : Room} {s : State} {m : MethodId} {args : Array Value} {below : List Frame} {meth : Method} {c : Code} {T : State} {locs : List Loc} {cells slots : Nat}
    (X : Stand p l e R s m args below meth c T locs cells slots) (hexec : p.tables.exec = Jvm.exec) {own text : String} {index : Nat} {a : Addr} (hown : s.vm.findClass own = some m.cls)
    (hconst : (Cond.stringRef own index text).before #[] s = true) (hev : (Term.string own index).eval #[] s none [] s = some (.ref a)) {g : JFrame} (hg : g.method = m) (hdg : decode c.code g.pc = .ok (.ldc_w index, 3)) :
    ∀ target, Steps p.tables e below (T.setTop { g with pc := g.pc + 3, stack := .ref a :: g.stack }) target → Steps p.tables e below (T.setTop g) target := by
  obtain ⟨k, cf, i, a', hk, hcf, hcp, -, hr, hev'⟩ := Cond.stringRef_spec hown hconst
  cases hev.symm.trans hev'
  obtain ⟨k', hk', he⟩ := X.warmed.alike.2.2 _ _ hk
  have hr' : k'.resolved[index]? = some (some (.string a)) := by
    rcases X.warmed.entry hk hk' index with h | ⟨h, -⟩
    · rw [h]; exact hr
    · rw [hr] at h; cases h
  intro target hrest
  subst hg
  jvm_step X.here [hexec, hdg, ldc_w.wp_string (e := e) (s := T) (f := g) X.here.top hk' (by rw [he]; exact hcf) hcp hr']
  exact hrest
section MMLW
variable {G : mm_G} {y : mm_M} {A : Nat → Prop} {L : Nat × Nat} {d pc : Nat} {lv : List (Nat × Value)} {st : List Value} {h : mm_H} {Q : Option Value → mm_H → Prop}
theorem mm_ldcSw {idx i : Nat} {tx : String} (hd : decode y.2.1 pc = .ok (.ldc_w idx, 3)) (hi : mm_lit[i]? = some (y.1.cls, idx, tx))
    (k : mm_Run G y A L d (pc + 3) lv (.ref (G.2.2.2.2.1 i) :: st) h Q) : mm_Run G y A L d pc lv st h Q := by
  intro p e R s m args below meth c0 H locs ls F Rm Ok hl T hT X
  obtain ⟨t, a1, b1⟩ := k p e R s m args below meth c0 H locs ls F Rm Ok hl T hT X
  have hZ := F.2.2.2.2.2.2.2.2.2.2.1 i _ hi
  exact ⟨t, mm_ldcStrW X F.1 F.2.2.2.2.1 hZ.1 hZ.2 (g := F0 m pc ls st) rfl (by rw [F.2.1]; exact hd) t a1, b1⟩
end MMLW
/-! the heap grows; the reference's window stays -/
def ext (h h1 : mm_H) : Prop := h.2.1 ≤ h1.2.1 ∧ h.2.2 ≤ h1.2.2 ∧ ∀ b, b < h.2.1 → h1.1 b = h.1 b
theorem ext.refl (h : mm_H) : ext h h := ⟨Nat.le_refl _, Nat.le_refl _, fun _ _ => rfl⟩
theorem ext.trans {h h1 h2 : mm_H} (a : ext h h1) (b : ext h1 h2) : ext h h2 := ⟨Nat.le_trans a.1 b.1, Nat.le_trans a.2.1 b.2.1, fun x hx => (b.2.2 x (by have := a.1; omega)).trans (a.2.2 x hx)⟩
theorem ext.push (h : mm_H) (c : mm_C) : ext h (mm_push h c) := ⟨Nat.le_succ _, Nat.le_add_right _ _, fun b hb => if_neg (by omega)⟩
theorem mw_W.ext {m : Nat} {ad : Nat → Nat} {h0 h h1 : mm_H} {M : mw_S} (hW : mw_W m ad h0 M h) (he : ext h h1) : mw_W m ad h0 M h1 := by
  obtain ⟨w1, w2, w3, w4, w5, w6, w7, w8, w9, w10⟩ := hW
  obtain ⟨e1, e2, e3⟩ := he
  refine ⟨by rw [e3 m (by omega)]; exact w1, fun j hj hk => by rw [e3 _ (by have := w9 j hj hk; omega)]; exact w2 j hj hk, w3, w4, fun a ha hb hlt => by rw [e3 a (by omega)]; exact w5 a ha hb hlt, by omega, by omega, w8, w9, w10⟩
/-- the window seen from the heap as it stands -/
theorem mw_W.re {m : Nat} {ad : Nat → Nat} {h0 h : mm_H} {M : mw_S} (hW : mw_W m ad h0 M h) : mw_W m ad h M h := by
  obtain ⟨w1, w2, w3, w4, w5, w6, w7, w8, w9, w10⟩ := hW
  exact ⟨w1, w2, w3, w4, fun _ _ _ _ => rfl, Nat.le_refl _, Nat.le_refl _, by omega, fun j hj hk => by have := w9 j hj hk; omega, w10⟩
theorem mw_W.trans {m : Nat} {ad : Nat → Nat} {h0 h1 h2 : mm_H} {M M' : mw_S} (hW : mw_W m ad h0 M h1) (hW2 : mw_W m ad h1 M' h2) : mw_W m ad h0 M' h2 := by
  obtain ⟨w1, w2, w3, w4, w5, w6, w7, w8, w9, w10⟩ := hW
  obtain ⟨v1, v2, v3, v4, v5, v6, v7, v8, v9, v10⟩ := hW2
  exact ⟨v1, v2, w3, w4, fun a ha hb hlt => (v5 a ha hb (by omega)).trans (w5 a ha hb hlt), by omega, by omega, w8, w9, v10⟩
/-- what lies outside the window stays -/
theorem mw_W.out {m : Nat} {ad : Nat → Nat} {h h1 : mm_H} {M M' : mw_S} (hW : mw_W m ad h M h) (hW1 : mw_W m ad h M' h1) {a : Nat} {c : mm_C} (hc : h.1 a = some c) (hl : a < h.2.1) (hk : ¬ c.1 = 12 ∧ ∀ j, j < 74 → 100 ≤ mw_k j → ¬ a = ad j) : h1.1 a = some c := by
  rw [hW1.2.2.2.2.1 a (fun e => ?_) hk.2 hl]
  · exact hc
  · rw [e, hW.1] at hc
    cases hc
    exact hk.1 rfl
