theorem mm_set_eq {h : mm_H} {a : Nat} {c : mm_C} : (mm_set h a c).1 a = some c := if_pos rfl
theorem mm_set_ne {h : mm_H} {a b : Nat} {c : mm_C} {r : Option mm_C} (hne : ¬ b = a) (hb : h.1 b = r) : (mm_set h a c).1 b = r := (if_neg hne).trans hb
theorem mm_push_eq {h : mm_H} {c : mm_C} : (mm_push h c).1 h.2.1 = some c := if_pos rfl
theorem mm_push_ne {h : mm_H} {b : Nat} {c : mm_C} {r : Option mm_C} (hne : ¬ b = h.2.1) (hb : h.1 b = r) : (mm_push h c).1 b = r := (if_neg hne).trans hb
theorem mm_set_set {h : mm_H} {a : Nat} {c c' : mm_C} : mm_set (mm_set h a c) a c' = mm_set h a c' := by
  unfold mm_set
  refine Prod.ext (funext fun b => ?_) rfl
  show (if b = a then some c' else (if b = a then some c else h.1 b)) = (if b = a then some c' else h.1 b)
  by_cases e : b = a
  · rw [if_pos e, if_pos e]
  · rw [if_neg e, if_neg e, if_neg e]
theorem mm_set_push {h : mm_H} {c c' : mm_C} (hl : c'.2.length = c.2.length) : mm_set (mm_push h c) h.2.1 c' = mm_push h c' := by
  unfold mm_set mm_push
  refine Prod.ext (funext fun b => ?_) ?_
  · show (if b = h.2.1 then some c' else (if b = h.2.1 then some c else h.1 b)) = (if b = h.2.1 then some c' else h.1 b)
    by_cases e : b = h.2.1
    · rw [if_pos e, if_pos e]
    · rw [if_neg e, if_neg e, if_neg e]
  · show (h.2.1 + 1, h.2.2 + c.2.length) = (h.2.1 + 1, h.2.2 + c'.2.length)
    rw [hl]
theorem mm_ne_kind {h : mm_H} {a b k1 k2 : Nat} {f1 f2 : List Value} (ha : h.1 a = some (k1, f1)) (hb : h.1 b = some (k2, f2)) (hk : Nat.beq k1 k2 = false) : ¬ a = b := by
  intro e
  subst e
  rw [ha] at hb
  have := congrArg Prod.fst (Option.some.inj hb)
  exact Nat.ne_of_beq_eq_false hk this
theorem mm_set_same {h : mm_H} {a : Nat} {c : mm_C} (hc : h.1 a = some c) : mm_set h a c = h := by
  unfold mm_set
  refine Prod.ext (funext fun b => ?_) rfl
  show (if b = a then some c else h.1 b) = h.1 b
  by_cases e : b = a
  · rw [if_pos e, e, hc]
  · rw [if_neg e]
section MMX
variable {G : mm_G} {y : mm_M} {A : Nat → Prop} {L : Nat × Nat} {d pc : Nat} {lv : List (Nat × Value)} {st : List Value} {h : mm_H} {Q : Option Value → mm_H → Prop}
theorem mm_put_s {a kd idx c j : Nat} {fs : List Value} {v : Value} {ty : FieldType} (hd : decode y.2.1 pc = .ok (.putfield idx, 3)) (hl0 : mm_pl y.1.cls y.1.name idx c j ty) (hk : kd = c) (hn : narrow ty v = v) (hf : fits ty v = true)
    (k : mm_Run G y A L d (pc + 3) lv st (mm_set h a (kd, fs.set j v)) Q) : mm_Run G y A L d pc lv (v :: .ref a :: st) (mm_set h a (kd, fs)) Q :=
  mm_put hd hl0 mm_set_eq hk hn hf (by rw [mm_set_set]; exact k)
theorem mm_put_p {kd idx c j : Nat} {fs : List Value} {v : Value} {ty : FieldType} (hd : decode y.2.1 pc = .ok (.putfield idx, 3)) (hl0 : mm_pl y.1.cls y.1.name idx c j ty) (hk : kd = c) (hn : narrow ty v = v) (hf : fits ty v = true)
    (k : mm_Run G y A L d (pc + 3) lv st (mm_push h (kd, fs.set j v)) Q) : mm_Run G y A L d pc lv (v :: .ref h.2.1 :: st) (mm_push h (kd, fs)) Q :=
  mm_put hd hl0 mm_push_eq hk hn hf (by rw [mm_set_push (by show (fs.set j v).length = fs.length; exact List.length_set)]; exact k)
/-- every cell of the picture lies below the next free address -/
theorem mm_wfR (k : (∀ (a : Nat) (c : mm_C), h.1 a = some c → a < h.2.1) → mm_Run G y A L d pc lv st h Q) : mm_Run G y A L d pc lv st h Q := by
  intro p e R s m args below meth c0 H locs ls F Rm Ok hl
  exact k (fun a c hc => by have := (Ok.1.2.2 a c hc).lt; have := Ok.1.1; omega) p e R s m args below meth c0 H locs ls F Rm Ok hl
theorem mm_fitR (k : h.2.1 ≤ L.1 ∧ h.2.2 ≤ L.2 → mm_Run G y A L d pc lv st h Q) : mm_Run G y A L d pc lv st h Q := by
  intro p e R s m args below meth c0 H locs ls F Rm Ok hl
  exact k Ok.2.2.1 p e R s m args below meth c0 H locs ls F Rm Ok hl
theorem mm_weakK {lv' : List (Nat × Value)} (k : mm_Run G y A L d pc lv st h Q) (hs : mm_sub lv lv') : mm_Run G y A L d pc lv' st h Q := mm_weak hs k
theorem mm_heap {h' : mm_H} (e : h = h') (k : mm_Run G y A L d pc lv st h' Q) : mm_Run G y A L d pc lv st h Q := by
  subst e
  exact k
theorem mm_stack {st' : List Value} (e : st = st') (k : mm_Run G y A L d pc lv st' h Q) : mm_Run G y A L d pc lv st h Q := by
  subst e
  exact k
theorem mm_Ok.post {av : List Value} {Q' : Option Value → mm_H → Prop} (hok : mm_Ok G y L d av h Q) (hq : ∀ r h1, Q r h1 → Q' r h1) : mm_Ok G y L d av h Q' := by
  intro A hin hfit p e ha hc hk s m args below hf hap hP hx
  obtain ⟨t, o, a1, b1, b2, ⟨⟨⟨r, h1, c1, c2, c3⟩, c4⟩, b4⟩⟩ := hok A hin hfit p e ha hc hk s m args below hf hap hP hx
  exact ⟨t, o, a1, b1, b2, ⟨⟨⟨r, h1, c1, hq r h1 c2, c3⟩, c4⟩, b4⟩⟩
end MMX
theorem mm_isr_rf (r : Option Nat) : mm_isr (va_rf r) := by cases r <;> trivial
theorem mm_cat_rf (r : Option Nat) : (va_rf r).category = 1 := by cases r <;> rfl
section MMW
variable {G : mm_G} {y : mm_M} {A : Nat → Prop} {L : Nat × Nat} {d pc : Nat} {lv : List (Nat × Value)} {st : List Value} {h : mm_H} {Q : Option Value → mm_H → Prop}
theorem mm_kd100 {n : Nat} (hk : Nat.ble 100 n = true) : n = 100 + (n - 100) := by
  have := Nat.le_of_ble_eq_true hk
  omega
theorem mm_alen2 {a kd : Nat} {vs : List Value} (hd : decode y.2.1 pc = .ok (.arraylength, 1)) (hc : h.1 a = some (kd, vs)) (hk : Nat.ble 100 (kd % 200) = true) (ht : Nat.blt (kd % 200 - 100) 10 = true)
    (k : mm_Run G y A L d (pc + 1) lv (.int (nI vs.length) :: st) h Q) : mm_Run G y A L d pc lv (.ref a :: st) h Q :=
  mm_alen hd hc (mm_kd100 hk) (Nat.le_of_ble_eq_true ht) k
theorem mm_aald2 {a kd : Nat} {vs : List Value} {j : Int32} {v : Value} {ty : FieldType} (hd : decode y.2.1 pc = .ok (.aaload, 1)) (hc : h.1 a = some (kd, vs)) (hk : Nat.ble 100 (kd % 200) = true) (ht : mm_arr[kd % 200 - 100]? = some ty) (hty : ty.isReference = true) (h0 : ¬ j < 0) (hv : vs[j.toNatClampNeg]? = some v)
    (k : mm_Run G y A L d (pc + 1) lv (v :: st) h Q) : mm_Run G y A L d pc lv (.int j :: .ref a :: st) h Q :=
  mm_aald hd hc (mm_kd100 hk) ht hty h0 hv k
theorem mm_aastN2 {a kd : Nat} {vs : List Value} {j : Int32} {C : String} (hd : decode y.2.1 pc = .ok (.aastore, 1)) (hc : h.1 a = some (kd, vs)) (hk : Nat.ble 100 kd = true) (ht : mm_arr[kd - 100]? = some (.object C)) (h0 : ¬ j < 0) (hj : j.toNatClampNeg < vs.length)
    (k : mm_Run G y A L d (pc + 1) lv st (mm_set h a (kd, vs.set j.toNatClampNeg .null)) Q) : mm_Run G y A L d pc lv (.null :: .int j :: .ref a :: st) h Q :=
  mm_aastN hd hc (mm_kd100 hk) ht h0 hj k
theorem mm_aast2 {a kd b kb : Nat} {vs fs : List Value} {j : Int32} {C : String} {T : u_T} {N : Nat} (hd : decode y.2.1 pc = .ok (.aastore, 1)) (hc : h.1 a = some (kd, vs)) (hk : Nat.ble 100 kd = true) (ht : mm_arr[kd - 100]? = some (.object C)) (hb : h.1 b = some (kb, fs)) (hcb : Nat.blt (kb % 200) 100 = true) (hcl : mm_cls[kb % 200]? = some (C, T, N)) (h0 : ¬ j < 0) (hj : j.toNatClampNeg < vs.length)
    (k : mm_Run G y A L d (pc + 1) lv st (mm_set h a (kd, vs.set j.toNatClampNeg (.ref b))) Q) : mm_Run G y A L d pc lv (.ref b :: .int j :: .ref a :: st) h Q :=
  mm_aast hd hc (mm_kd100 hk) ht hb rfl hcb hcl h0 hj k
end MMW
section MMS
variable {G : mm_G} {y : mm_M} {A : Nat → Prop} {L : Nat × Nat} {d pc : Nat} {lv : List (Nat × Value)} {st : List Value} {h : mm_H} {Q : Option Value → mm_H → Prop}
theorem mm_swe {x v : Int32} {n : Int} (h : x.toInt = n) (hv : v.toInt = n) : x = v := Int32.toInt_inj.mp (h.trans hv.symm)
theorem mm_swn {x v : Int32} {n : Int} (h : ¬ x.toInt = n) (hv : v.toInt = n) : ¬ x = v := fun e => h (by rw [e]; exact hv)
theorem mm_sw {dflt lo hi : Int} {offs : Array Int} {len : Nat} {x : Int32} (tg : List Nat) (td : Nat) (hd : decode y.2.1 pc = .ok (.tableswitch dflt lo hi offs, len)) (ht : offs.toList.map (fun o => (pc : Int) + o) = tg.map (fun t : Nat => (t : Int))) (hdt : (pc : Int) + dflt = (td : Int)) (hh : hi = lo + offs.size - 1)
    (k : ∀ (i t : Nat), tg[i]? = some t → x.toInt = lo + i → mm_Run G y A L d t lv st h Q) (kd : (∀ i : Nat, i < tg.length → ¬ x.toInt = lo + i) → mm_Run G y A L d td lv st h Q) : mm_Run G y A L d pc lv (.int x :: st) h Q := by
  have hl : tg.length = offs.size := by
    have := congrArg List.length ht
    simpa using this.symm
  by_cases c : x.toInt < lo ∨ hi < x.toInt
  · exact mm_tsw_out hd c hdt (kd (fun i hi2 e => by omega))
  · have h1 : ¬ x.toInt < lo := fun z => c (Or.inl z)
    have h2 : ¬ hi < x.toInt := fun z => c (Or.inr z)
    have hi2 : (x.toInt - lo).toNat < offs.size := by omega
    have hi3 : (x.toInt - lo).toNat < tg.length := by omega
    have ho : offs[(x.toInt - lo).toNat]? = some offs[(x.toInt - lo).toNat] := Array.getElem?_eq_getElem hi2
    have hg : tg[(x.toInt - lo).toNat]? = some tg[(x.toInt - lo).toNat] := List.getElem?_eq_getElem hi3
    refine mm_tsw_in hd h1 h2 ho ?_ (k _ _ hg (by omega))
    have := congrArg (fun l : List Int => l[(x.toInt - lo).toNat]?) ht
    simp only [List.getElem?_map, Array.getElem?_toList, ho, hg, Option.map_some] at this
    exact Option.some.inj this
end MMS
