/-! the class's kinds: addresses and what the cells hold, by the kind's number -/
abbrev xk_T : Type := (Nat → Option Nat) × (Nat → Nat) × (Nat → Nat) × (Nat → Int32) × (Nat → Int32) × (Nat → Int32) × (Nat → Int64) × (Nat → Nat → Option Nat) × (Nat → Nat → Int32) × (Nat → Nat → Int32) × (Nat → Nat → Option Nat) × (Nat → Nat → Int32) × (Nat → Nat → Int64)
abbrev xab (T : xk_T) : Nat → Option Nat := T.1
abbrev xkA (T : xk_T) : Nat → Nat := T.2.1
abbrev xbA (T : xk_T) : Nat → Nat := T.2.2.1
abbrev xho (T : xk_T) : Nat → Int32 := T.2.2.2.1
abbrev xpk (T : xk_T) : Nat → Int32 := T.2.2.2.2.1
abbrev xde (T : xk_T) : Nat → Int32 := T.2.2.2.2.2.1
abbrev xnm (T : xk_T) : Nat → Int64 := T.2.2.2.2.2.2.1
abbrev xbO (T : xk_T) : Nat → Nat → Option Nat := T.2.2.2.2.2.2.2.1
abbrev xri (T : xk_T) : Nat → Nat → Int32 := T.2.2.2.2.2.2.2.2.1
abbrev xla (T : xk_T) : Nat → Nat → Int32 := T.2.2.2.2.2.2.2.2.2.1
abbrev xfi (T : xk_T) : Nat → Nat → Option Nat := T.2.2.2.2.2.2.2.2.2.2.1
abbrev xct (T : xk_T) : Nat → Nat → Int32 := T.2.2.2.2.2.2.2.2.2.2.2.1
abbrev xov (T : xk_T) : Nat → Nat → Int64 := T.2.2.2.2.2.2.2.2.2.2.2.2
def xk_kc (T : xk_T) (i : Nat) (x1 : Int32) (x2 : Int64) (x3 : Int32) (l1 l2 : Value) : mm_C := (4, [.long (xnm T i), .int x1, .long x2, .int x3, .int (nI i), va_rf ((xab T i).map (xkA T)), .int (xho T i), .int (xpk T i), .int (xde T i), l1, l2, .ref (xbA T i)])
def xk_bc (T : xk_T) (i q : Nat) (pl : Int32) (nx : Value) : mm_C := (1, [.ref (xkA T i), .int (nI q), .int (xri T i q), .int (xla T i q), .int pl, va_rf (xfi T i q), .int (xct T i q), .long (xov T i q), nx])
def xk (h : mm_H) (T : xk_T) (n : Nat) : Prop := kf_ok (xab T) n ∧ n ≤ 50 ∧ (∀ i j, i < n → j < n → xkA T i = xkA T j → i = j) ∧
  (∀ i, i < n → ∃ x1 x2 x3 l1 l2, h.1 (xkA T i) = some (4, [.long (xnm T i), .int x1, .long x2, .int x3, .int (nI i), va_rf ((xab T i).map (xkA T)), .int (xho T i), .int (xpk T i), .int (xde T i), l1, l2, .ref (xbA T i)])) ∧
  (∀ i, i < n → h.1 (xbA T i) = some (106, [va_rf (xbO T i 0), va_rf (xbO T i 1), va_rf (xbO T i 2), va_rf (xbO T i 3), va_rf (xbO T i 4), va_rf (xbO T i 5)])) ∧
  (∀ i q b, i < n → q < 6 → xbO T i q = some b → ∃ pl nx, h.1 b = some (1, [.ref (xkA T i), .int (nI q), .int (xri T i q), .int (xla T i q), .int pl, va_rf (xfi T i q), .int (xct T i q), .long (xov T i q), nx]))
theorem xk_b6 (f : Nat → Option Nat) {q : Nat} (h : q < 6) : [va_rf (f 0), va_rf (f 1), va_rf (f 2), va_rf (f 3), va_rf (f 4), va_rf (f 5)][q]? = some (va_rf (f q)) := by
  match q, h with
  | 0, _ => rfl
  | 1, _ => rfl
  | 2, _ => rfl
  | 3, _ => rfl
  | 4, _ => rfl
  | 5, _ => rfl
def xsees (T : xk_T) (q k u : Nat) : Bool := decide (¬ xri T u q = 2 ∨ xho T k = xho T u)
def xE (T : xk_T) (q x z : Nat) : Bool := (xbO T z q).isSome && xsees T q x z
theorem xseesI (T : xk_T) (q k u : Nat) : (if xri T u q = 2 then if xho T u = xho T k then (1 : Int32) else 0 else 1) = bI (xsees T q k u) := by
  unfold xsees bI
  by_cases h1 : xri T u q = 2 <;> by_cases h2 : xho T k = xho T u <;> simp [h1, h2, eq_comm]
/-- Kind.bodyOf over the table -/
theorem xk_bodyOf {G : mm_G} {L : Nat × Nat} {d : Nat} {h : mm_H} {T : xk_T} {n i q : Nat} {v : Value} (hX : xk h T n) (hi : i < n) (hq : q < 6) (hv : va_rf (xbO T i q) = v) : mm_Ok G mX4_bodyOf L d [.ref (xkA T i), .int (nI q)] h (fun r h1 => h1 = h ∧ r = some v) := by
  obtain ⟨x1, x2, x3, l1, l2, hc⟩ := hX.2.2.2.1 i hi
  subst hv
  exact ok_X4_bodyOf hc (hX.2.2.2.2.1 i hi) rfl hq (xk_b6 _ hq) (mm_isr_rf _)
theorem xk_maySee {G : mm_G} {L : Nat × Nat} {d : Nat} {h : mm_H} {T : xk_T} {n i u q b : Nat} (hX : xk h T n) (hi : i < n) (hu : u < n) (hq : q < 6) (hb : xbO T u q = some b) : mm_Ok G mX4_maySee L d [.ref (xkA T i), .ref b] h (fun r h1 => h1 = h ∧ r = some (.int (bI (xsees T q i u)))) := by
  obtain ⟨x1, x2, x3, l1, l2, hc⟩ := hX.2.2.2.1 i hi
  obtain ⟨y1, y2, y3, m1, m2, hc2⟩ := hX.2.2.2.1 u hu
  obtain ⟨pl, nx, hcb⟩ := hX.2.2.2.2.2 u q b hu hq hb
  rw [← xseesI]
  exact ok_X4_maySee hc hc2 hcb

theorem xk_resolveL {G : mm_G} {L : Nat × Nat} {d : Nat} {h : mm_H} {T : xk_T} {n k q : Nat} {c0 : Option Nat} {A : Nat → Prop} (hX : xk h T n) (hk : k < n) (hq : q < 6) : ∀ (f : Nat) (c : Option Nat), kf_lt f c → kf_lt n c → kfind (xab T) (fun x => (xbO T x q).isSome && (Nat.beq x k || xsees T q k x)) c = kfind (xab T) (fun x => (xbO T x q).isSome && (Nat.beq x k || xsees T q k x)) c0 → mm_Run G mX4_resolve A L (d + 1) 2 [(3, va_rf (c.map (xkA T))), (0, .ref (xkA T k)), (1, .int (nI q))] [] h (fun r h1 => h1 = h ∧ r = some (va_rf ((kfind (xab T) (fun x => (xbO T x q).isSome && (Nat.beq x k || xsees T q k x)) c0).bind (fun x => xbO T x q)))) := by
  have hX2 := hX
  obtain ⟨hab, hn50, -⟩ := hX2
  obtain ⟨y1, y2, y3, m1, m2, hck⟩ := hX.2.2.2.1 k hk
  intro f
  induction f with
  | zero =>
    intro c h1 h2 he
    cases c with
    | none =>
      show mm_Run G mX4_resolve A L (d + 1) 2 [(3, .null), (0, .ref (xkA T k)), (1, .int (nI q))] [] h (fun r h1 => h1 = h ∧ r = some (va_rf ((kfind (xab T) (fun x => (xbO T x q).isSome && (Nat.beq x k || xsees T q k x)) c0).bind (fun x => xbO T x q))))
      refine mm_aload_n (pc := 2) dX4_resolve_2 rfl (by first | trivial | assumption | exact mm_isr_rf _) ?_
      refine mm_ifnull (pc := 3) (tgt := 43) dX4_resolve_3 (by decide) (by first | trivial | assumption | exact mm_isr_rf _) (fun c3 => ?_) (fun a3 c3 => by cases c3)
      refine mm_null (pc := 43) dX4_resolve_43 ?_
      refine mm_aret (pc := 44) dX4_resolve_44 rfl (Or.inl ⟨_, rfl⟩) (by first | trivial | assumption | exact mm_isr_rf _) ?_
      exact ⟨rfl, by rw [← he]; rfl⟩
    | some x => exact absurd h1 (Nat.not_lt_zero x)
  | succ f ih =>
    intro c h1 h2 he
    cases c with
    | none =>
      show mm_Run G mX4_resolve A L (d + 1) 2 [(3, .null), (0, .ref (xkA T k)), (1, .int (nI q))] [] h (fun r h1 => h1 = h ∧ r = some (va_rf ((kfind (xab T) (fun x => (xbO T x q).isSome && (Nat.beq x k || xsees T q k x)) c0).bind (fun x => xbO T x q))))
      refine mm_aload_n (pc := 2) dX4_resolve_2 rfl (by first | trivial | assumption | exact mm_isr_rf _) ?_
      refine mm_ifnull (pc := 3) (tgt := 43) dX4_resolve_3 (by decide) (by first | trivial | assumption | exact mm_isr_rf _) (fun c3 => ?_) (fun a3 c3 => by cases c3)
      refine mm_null (pc := 43) dX4_resolve_43 ?_
      refine mm_aret (pc := 44) dX4_resolve_44 rfl (Or.inl ⟨_, rfl⟩) (by first | trivial | assumption | exact mm_isr_rf _) ?_
      exact ⟨rfl, by rw [← he]; rfl⟩
    | some x =>
      have h1 : x < f + 1 := h1
      have h2 : x < n := h2
      have hs := kfind_some (P := (fun x => (xbO T x q).isSome && (Nat.beq x k || xsees T q k x))) hab (by omega) h2
      obtain ⟨x1, x2, x3, l1, l2, hc⟩ := hX.2.2.2.1 x h2
      show mm_Run G mX4_resolve A L (d + 1) 2 [(3, .ref (xkA T x)), (0, .ref (xkA T k)), (1, .int (nI q))] [] h (fun r h1 => h1 = h ∧ r = some (va_rf ((kfind (xab T) (fun x => (xbO T x q).isSome && (Nat.beq x k || xsees T q k x)) c0).bind (fun x => xbO T x q))))
      cases hb : xbO T x q with
      | none =>
        refine mm_aload_n (pc := 2) dX4_resolve_2 rfl (by first | trivial | assumption | exact mm_isr_rf _) ?_
        refine mm_ifnull (pc := 3) (tgt := 43) dX4_resolve_3 (by decide) (by first | trivial | assumption | exact mm_isr_rf _) (fun c3 => by cases c3) (fun a3 c3 => ?_)
        refine mm_aload_n (pc := 6) dX4_resolve_6 rfl (by first | trivial | assumption | exact mm_isr_rf _) ?_
        refine mm_iload_n (pc := 7) dX4_resolve_7 rfl ?_
        refine mm_callV (pc := 8) (As := [_]) (kd := ?kd_8) (fs := ?fs_8) dX4_resolve_8 vl_X4_71 (xk_bodyOf (v := .null) hX h2 hq (by rw [hb]; rfl)) ?hc_8 ?hk_8 rfl rfl (Nat.le_of_ble_eq_true rfl) ?_; (case hc_8 => exact hc); (case hk_8 => rfl)
        rintro _ _ ⟨rfl, rfl⟩
        refine mm_astore (pc := 11) dX4_resolve_11 (by first | trivial | assumption | exact mm_isr_rf _) rfl (Nat.le_of_ble_eq_true rfl) ?_
        refine mm_aload (pc := 13) dX4_resolve_13 rfl (by first | trivial | assumption | exact mm_isr_rf _) ?_
        refine mm_ifnull (pc := 15) (tgt := 35) dX4_resolve_15 (by decide) (by first | trivial | assumption | exact mm_isr_rf _) (fun c15 => ?_) (fun a15 c15 => by cases c15)
        refine mm_aload_n (pc := 35) dX4_resolve_35 rfl (by first | trivial | assumption | exact mm_isr_rf _) ?_
        refine mm_get (pc := 36) (kd := ?kd_36) (fs := ?fs_36) (v := ?v_36) dX4_resolve_36 fl_X4_22 ?hc_36 ?hk_36 ?hv_36 ?_; (case hc_36 => exact hc); (case hk_36 => rfl); (case hv_36 => rfl)
        refine mm_astore_n (pc := 39) dX4_resolve_39 (by first | trivial | assumption | exact mm_isr_rf _) rfl (Nat.le_of_ble_eq_true rfl) ?_
        refine mm_goto (pc := 40) (tgt := 2) dX4_resolve_40 (by decide) ?_
        refine mm_weakK (ih (xab T x) ?_ ?_ ?_) (And.intro rfl (And.intro rfl (And.intro rfl trivial)))
        · cases hx : xab T x with
          | none => trivial
          | some z => exact Nat.lt_of_lt_of_le (hab x z h2 hx) (by omega)
        · cases hx : xab T x with
          | none => trivial
          | some z => exact Nat.lt_trans (hab x z h2 hx) h2
        · rw [← he, hs]
          rw [hb]
          rfl
      | some b =>
        refine mm_aload_n (pc := 2) dX4_resolve_2 rfl (by first | trivial | assumption | exact mm_isr_rf _) ?_
        refine mm_ifnull (pc := 3) (tgt := 43) dX4_resolve_3 (by decide) (by first | trivial | assumption | exact mm_isr_rf _) (fun c3 => by cases c3) (fun a3 c3 => ?_)
        refine mm_aload_n (pc := 6) dX4_resolve_6 rfl (by first | trivial | assumption | exact mm_isr_rf _) ?_
        refine mm_iload_n (pc := 7) dX4_resolve_7 rfl ?_
        refine mm_callV (pc := 8) (As := [_]) (kd := ?kd_8) (fs := ?fs_8) dX4_resolve_8 vl_X4_71 (xk_bodyOf (v := .ref b) hX h2 hq (by rw [hb]; rfl)) ?hc_8 ?hk_8 rfl rfl (Nat.le_of_ble_eq_true rfl) ?_; (case hc_8 => exact hc); (case hk_8 => rfl)
        rintro _ _ ⟨rfl, rfl⟩
        refine mm_astore (pc := 11) dX4_resolve_11 (by first | trivial | assumption | exact mm_isr_rf _) rfl (Nat.le_of_ble_eq_true rfl) ?_
        refine mm_aload (pc := 13) dX4_resolve_13 rfl (by first | trivial | assumption | exact mm_isr_rf _) ?_
        refine mm_ifnull (pc := 15) (tgt := 35) dX4_resolve_15 (by decide) (by first | trivial | assumption | exact mm_isr_rf _) (fun c15 => by cases c15) (fun a15 c15 => ?_)
        refine mm_aload_n (pc := 18) dX4_resolve_18 rfl (by first | trivial | assumption | exact mm_isr_rf _) ?_
        refine mm_aload_n (pc := 19) dX4_resolve_19 rfl (by first | trivial | assumption | exact mm_isr_rf _) ?_
        refine mm_acmp_eq (pc := 20) (tgt := 32) dX4_resolve_20 (by decide) (by first | trivial | assumption | exact mm_isr_rf _) (by first | trivial | assumption | exact mm_isr_rf _) (fun c20 => ?_) (fun c20 => ?_)
        · refine mm_aload (pc := 32) dX4_resolve_32 rfl (by first | trivial | assumption | exact mm_isr_rf _) ?_
          refine mm_aret (pc := 34) dX4_resolve_34 rfl (Or.inl ⟨_, rfl⟩) (by first | trivial | assumption | exact mm_isr_rf _) ?_
          have ek : x = k := hX.2.2.1 x k h2 hk (Value.ref.inj c20)
          exact ⟨rfl, by rw [← he, hs, hb, show Nat.beq x k = true from Nat.beq_eq.mpr ek]; show _ = some (va_rf (xbO T x q)); rw [hb]; rfl⟩
        · refine mm_aload_n (pc := 23) dX4_resolve_23 rfl (by first | trivial | assumption | exact mm_isr_rf _) ?_
          refine mm_aload (pc := 24) dX4_resolve_24 rfl (by first | trivial | assumption | exact mm_isr_rf _) ?_
          refine mm_callV (pc := 26) (As := [_]) (kd := ?kd_26) (fs := ?fs_26) dX4_resolve_26 vl_X4_75 (xk_maySee hX hk h2 hq hb) ?hc_26 ?hk_26 rfl rfl (Nat.le_of_ble_eq_true rfl) ?_; (case hc_26 => exact hck); (case hk_26 => rfl)
          rintro _ _ ⟨rfl, rfl⟩
          refine mm_if_eq (pc := 29) (tgt := 35) dX4_resolve_29 (by decide) (fun c29 => ?_) (fun c29 => ?_)
          · refine mm_aload_n (pc := 35) dX4_resolve_35 rfl (by first | trivial | assumption | exact mm_isr_rf _) ?_
            refine mm_get (pc := 36) (kd := ?kd_36) (fs := ?fs_36) (v := ?v_36) dX4_resolve_36 fl_X4_22 ?hc_36 ?hk_36 ?hv_36 ?_; (case hc_36 => exact hc); (case hk_36 => rfl); (case hv_36 => rfl)
            refine mm_astore_n (pc := 39) dX4_resolve_39 (by first | trivial | assumption | exact mm_isr_rf _) rfl (Nat.le_of_ble_eq_true rfl) ?_
            refine mm_goto (pc := 40) (tgt := 2) dX4_resolve_40 (by decide) ?_
            refine mm_weakK (ih (xab T x) ?_ ?_ ?_) (And.intro rfl (And.intro rfl (And.intro rfl trivial)))
            · cases hx : xab T x with
              | none => trivial
              | some z => exact Nat.lt_of_lt_of_le (hab x z h2 hx) (by omega)
            · cases hx : xab T x with
              | none => trivial
              | some z => exact Nat.lt_trans (hab x z h2 hx) h2
            · rw [← he, hs]
              rw [hb, bI_eq0.mp c29, show Nat.beq x k = false from by cases hz : Nat.beq x k with
                | true => exact absurd (by rw [Nat.eq_of_beq_eq_true hz]) c20
                | false => rfl]
              rfl
          · refine mm_aload (pc := 32) dX4_resolve_32 rfl (by first | trivial | assumption | exact mm_isr_rf _) ?_
            refine mm_aret (pc := 34) dX4_resolve_34 rfl (Or.inl ⟨_, rfl⟩) (by first | trivial | assumption | exact mm_isr_rf _) ?_
            have hq2 : xsees T q k x = true := by
              cases hz : xsees T q k x with
              | true => rfl
              | false => exact absurd (bI_eq0.mpr hz) c29
            exact ⟨rfl, by rw [← he, hs, hb, hq2, Bool.or_true]; show _ = some (va_rf (xbO T x q)); rw [hb]; rfl⟩

theorem ok_X4_resolve {G : mm_G} {L : Nat × Nat} {d : Nat} {h : mm_H} {T : xk_T} {n k q : Nat} {c0 : Option Nat} (hX : xk h T n) (hk : k < n) (hq : q < 6) (hc0 : kf_lt n c0) : mm_Ok G mX4_resolve L (d + 1) [.ref (xkA T k), .int (nI q), va_rf (c0.map (xkA T))] h (fun r h1 => h1 = h ∧ r = some (va_rf ((kfind (xab T) (fun x => (xbO T x q).isSome && (Nat.beq x k || xsees T q k x)) c0).bind (fun x => xbO T x q)))) := by
  cases hcc : c0 with
  | none =>
    refine mm_Ok.of (av := [.ref (xkA T k), .int (nI q), .null]) [(0, .ref (xkA T k)), (1, .int (nI q)), (2, .null)] rfl kX4_resolve.2.2.2.2.2 rfl (fun A => ?_)
    refine mm_aload_n (pc := 0) dX4_resolve_0 rfl (by first | trivial | assumption | exact mm_isr_rf _) ?_
    refine mm_astore_n (pc := 1) dX4_resolve_1 (by first | trivial | assumption | exact mm_isr_rf _) rfl (Nat.le_of_ble_eq_true rfl) ?_
    exact mm_weakK (xk_resolveL hX hk hq n none (hcc ▸ hc0) (hcc ▸ hc0) rfl) (And.intro rfl (And.intro rfl (And.intro rfl trivial)))
  | some x =>
    refine mm_Ok.of (av := [.ref (xkA T k), .int (nI q), .ref (xkA T x)]) [(0, .ref (xkA T k)), (1, .int (nI q)), (2, .ref (xkA T x))] rfl kX4_resolve.2.2.2.2.2 rfl (fun A => ?_)
    refine mm_aload_n (pc := 0) dX4_resolve_0 rfl (by first | trivial | assumption | exact mm_isr_rf _) ?_
    refine mm_astore_n (pc := 1) dX4_resolve_1 (by first | trivial | assumption | exact mm_isr_rf _) rfl (Nat.le_of_ble_eq_true rfl) ?_
    exact mm_weakK (xk_resolveL hX hk hq n (some x) (hcc ▸ hc0) (hcc ▸ hc0) rfl) (And.intro rfl (And.intro rfl (And.intro rfl trivial)))

theorem xk_chooseL {G : mm_G} {L : Nat × Nat} {d : Nat} {h : mm_H} {T : xk_T} {n k q j w : Nat} {A : Nat → Prop} (hX : xk h T n) (hq : q < 6) (hj : j < n) (hw : xbO T j q = some w) : ∀ (f : Nat) (c : Option Nat), kf_lt f c → kf_lt n c → kfind (xab T) (fun x => (xbO T x q).isSome && (Nat.beq x j || xb (xov T x q) j)) c = kfind (xab T) (fun x => (xbO T x q).isSome && (Nat.beq x j || xb (xov T x q) j)) (some k) → mm_Run G mX4_choose A L (d + 2) 8 [(2, va_rf (c.map (xkA T))), (0, .ref (xkA T k)), (1, .ref w)] [] h (fun r h1 => h1 = h ∧ r = some (va_rf ((kfind (xab T) (fun x => (xbO T x q).isSome && (Nat.beq x j || xb (xov T x q) j)) (some k)).bind (fun x => xbO T x q)))) := by
  have hX2 := hX
  obtain ⟨hab, hn50, -⟩ := hX2
  obtain ⟨y1, y2, y3, m1, m2, hcj⟩ := hX.2.2.2.1 j hj
  obtain ⟨plw, nxw, hcw⟩ := hX.2.2.2.2.2 j q w hj hq hw
  intro f
  induction f with
  | zero =>
    intro c h1 h2 he
    cases c with
    | none =>
      show mm_Run G mX4_choose A L (d + 2) 8 [(2, .null), (0, .ref (xkA T k)), (1, .ref w)] [] h (fun r h1 => h1 = h ∧ r = some (va_rf ((kfind (xab T) (fun x => (xbO T x q).isSome && (Nat.beq x j || xb (xov T x q) j)) (some k)).bind (fun x => xbO T x q))))
      refine mm_aload_n (pc := 8) dX4_choose_8 rfl (by first | trivial | assumption | exact mm_isr_rf _) ?_
      refine mm_ifnull (pc := 9) (tgt := 51) dX4_choose_9 (by decide) (by first | trivial | assumption | exact mm_isr_rf _) (fun c9 => ?_) (fun a9 c9 => by cases c9)
      refine mm_null (pc := 51) dX4_choose_51 ?_
      refine mm_aret (pc := 52) dX4_choose_52 rfl (Or.inl ⟨_, rfl⟩) (by first | trivial | assumption | exact mm_isr_rf _) ?_
      exact ⟨rfl, by rw [← he]; rfl⟩
    | some x => exact absurd h1 (Nat.not_lt_zero x)
  | succ f ih =>
    intro c h1 h2 he
    cases c with
    | none =>
      show mm_Run G mX4_choose A L (d + 2) 8 [(2, .null), (0, .ref (xkA T k)), (1, .ref w)] [] h (fun r h1 => h1 = h ∧ r = some (va_rf ((kfind (xab T) (fun x => (xbO T x q).isSome && (Nat.beq x j || xb (xov T x q) j)) (some k)).bind (fun x => xbO T x q))))
      refine mm_aload_n (pc := 8) dX4_choose_8 rfl (by first | trivial | assumption | exact mm_isr_rf _) ?_
      refine mm_ifnull (pc := 9) (tgt := 51) dX4_choose_9 (by decide) (by first | trivial | assumption | exact mm_isr_rf _) (fun c9 => ?_) (fun a9 c9 => by cases c9)
      refine mm_null (pc := 51) dX4_choose_51 ?_
      refine mm_aret (pc := 52) dX4_choose_52 rfl (Or.inl ⟨_, rfl⟩) (by first | trivial | assumption | exact mm_isr_rf _) ?_
      exact ⟨rfl, by rw [← he]; rfl⟩
    | some x =>
      have h1 : x < f + 1 := h1
      have h2 : x < n := h2
      have hs := kfind_some (P := (fun x => (xbO T x q).isSome && (Nat.beq x j || xb (xov T x q) j))) hab (by omega) h2
      obtain ⟨x1, x2, x3, l1, l2, hc⟩ := hX.2.2.2.1 x h2
      show mm_Run G mX4_choose A L (d + 2) 8 [(2, .ref (xkA T x)), (0, .ref (xkA T k)), (1, .ref w)] [] h (fun r h1 => h1 = h ∧ r = some (va_rf ((kfind (xab T) (fun x => (xbO T x q).isSome && (Nat.beq x j || xb (xov T x q) j)) (some k)).bind (fun x => xbO T x q))))
      cases hb : xbO T x q with
      | none =>
        refine mm_aload_n (pc := 8) dX4_choose_8 rfl (by first | trivial | assumption | exact mm_isr_rf _) ?_
        refine mm_ifnull (pc := 9) (tgt := 51) dX4_choose_9 (by decide) (by first | trivial | assumption | exact mm_isr_rf _) (fun c9 => by cases c9) (fun a9 c9 => ?_)
        refine mm_aload_n (pc := 12) dX4_choose_12 rfl (by first | trivial | assumption | exact mm_isr_rf _) ?_
        refine mm_aload_n (pc := 13) dX4_choose_13 rfl (by first | trivial | assumption | exact mm_isr_rf _) ?_
        refine mm_get (pc := 14) (kd := ?kd_14) (fs := ?fs_14) (v := ?v_14) dX4_choose_14 fl_X4_57 ?hc_14 ?hk_14 ?hv_14 ?_; (case hc_14 => exact hcw); (case hk_14 => rfl); (case hv_14 => rfl)
        refine mm_callV (pc := 17) (As := [_]) (kd := ?kd_17) (fs := ?fs_17) dX4_choose_17 vl_X4_71 (xk_bodyOf (v := .null) hX h2 hq (by rw [hb]; rfl)) ?hc_17 ?hk_17 rfl rfl (Nat.le_of_ble_eq_true rfl) ?_; (case hc_17 => exact hc); (case hk_17 => rfl)
        rintro _ _ ⟨rfl, rfl⟩
        refine mm_astore_n (pc := 20) dX4_choose_20 (by first | trivial | assumption | exact mm_isr_rf _) rfl (Nat.le_of_ble_eq_true rfl) ?_
        refine mm_aload_n (pc := 21) dX4_choose_21 rfl (by first | trivial | assumption | exact mm_isr_rf _) ?_
        refine mm_ifnull (pc := 22) (tgt := 43) dX4_choose_22 (by decide) (by first | trivial | assumption | exact mm_isr_rf _) (fun c22 => ?_) (fun a22 c22 => by cases c22)
        refine mm_aload_n (pc := 43) dX4_choose_43 rfl (by first | trivial | assumption | exact mm_isr_rf _) ?_
        refine mm_get (pc := 44) (kd := ?kd_44) (fs := ?fs_44) (v := ?v_44) dX4_choose_44 fl_X4_22 ?hc_44 ?hk_44 ?hv_44 ?_; (case hc_44 => exact hc); (case hk_44 => rfl); (case hv_44 => rfl)
        refine mm_astore_n (pc := 47) dX4_choose_47 (by first | trivial | assumption | exact mm_isr_rf _) rfl (Nat.le_of_ble_eq_true rfl) ?_
        refine mm_goto (pc := 48) (tgt := 8) dX4_choose_48 (by decide) ?_
        refine mm_weakK (ih (xab T x) ?_ ?_ ?_) (And.intro rfl (And.intro rfl (And.intro rfl trivial)))
        · cases hx : xab T x with
          | none => trivial
          | some z => exact Nat.lt_of_lt_of_le (hab x z h2 hx) (by omega)
        · cases hx : xab T x with
          | none => trivial
          | some z => exact Nat.lt_trans (hab x z h2 hx) h2
        · rw [← he, hs]
          rw [hb]
          rfl
      | some b =>
        obtain ⟨pl, nx, hcb⟩ := hX.2.2.2.2.2 x q b h2 hq hb
        refine mm_aload_n (pc := 8) dX4_choose_8 rfl (by first | trivial | assumption | exact mm_isr_rf _) ?_
        refine mm_ifnull (pc := 9) (tgt := 51) dX4_choose_9 (by decide) (by first | trivial | assumption | exact mm_isr_rf _) (fun c9 => by cases c9) (fun a9 c9 => ?_)
        refine mm_aload_n (pc := 12) dX4_choose_12 rfl (by first | trivial | assumption | exact mm_isr_rf _) ?_
        refine mm_aload_n (pc := 13) dX4_choose_13 rfl (by first | trivial | assumption | exact mm_isr_rf _) ?_
        refine mm_get (pc := 14) (kd := ?kd_14) (fs := ?fs_14) (v := ?v_14) dX4_choose_14 fl_X4_57 ?hc_14 ?hk_14 ?hv_14 ?_; (case hc_14 => exact hcw); (case hk_14 => rfl); (case hv_14 => rfl)
        refine mm_callV (pc := 17) (As := [_]) (kd := ?kd_17) (fs := ?fs_17) dX4_choose_17 vl_X4_71 (xk_bodyOf (v := .ref b) hX h2 hq (by rw [hb]; rfl)) ?hc_17 ?hk_17 rfl rfl (Nat.le_of_ble_eq_true rfl) ?_; (case hc_17 => exact hc); (case hk_17 => rfl)
        rintro _ _ ⟨rfl, rfl⟩
        refine mm_astore_n (pc := 20) dX4_choose_20 (by first | trivial | assumption | exact mm_isr_rf _) rfl (Nat.le_of_ble_eq_true rfl) ?_
        refine mm_aload_n (pc := 21) dX4_choose_21 rfl (by first | trivial | assumption | exact mm_isr_rf _) ?_
        refine mm_ifnull (pc := 22) (tgt := 43) dX4_choose_22 (by decide) (by first | trivial | assumption | exact mm_isr_rf _) (fun c22 => by cases c22) (fun a22 c22 => ?_)
        refine mm_aload_n (pc := 25) dX4_choose_25 rfl (by first | trivial | assumption | exact mm_isr_rf _) ?_
        refine mm_aload_n (pc := 26) dX4_choose_26 rfl (by first | trivial | assumption | exact mm_isr_rf _) ?_
        refine mm_acmp_eq (pc := 27) (tgt := 41) dX4_choose_27 (by decide) (by first | trivial | assumption | exact mm_isr_rf _) (by first | trivial | assumption | exact mm_isr_rf _) (fun c27 => ?_) (fun c27 => ?_)
        · refine mm_aload_n (pc := 41) dX4_choose_41 rfl (by first | trivial | assumption | exact mm_isr_rf _) ?_
          refine mm_aret (pc := 42) dX4_choose_42 rfl (Or.inl ⟨_, rfl⟩) (by first | trivial | assumption | exact mm_isr_rf _) ?_
          have ek : x = j := by
            have e1 := Value.ref.inj c27
            rw [e1] at hcb
            rw [hcw] at hcb
            have e2 := congrArg (fun c : mm_C => c.2[0]?) (Option.some.inj hcb)
            exact (hX.2.2.1 j x hj h2 (Value.ref.inj (Option.some.inj e2))).symm
          exact ⟨rfl, by rw [← he, hs, hb, show Nat.beq x j = true from Nat.beq_eq.mpr ek]; show _ = some (va_rf (xbO T x q)); rw [hb]; rfl⟩
        · refine mm_aload_n (pc := 30) dX4_choose_30 rfl (by first | trivial | assumption | exact mm_isr_rf _) ?_
          refine mm_aload_n (pc := 31) dX4_choose_31 rfl (by first | trivial | assumption | exact mm_isr_rf _) ?_
          refine mm_get (pc := 32) (kd := ?kd_32) (fs := ?fs_32) (v := ?v_32) dX4_choose_32 fl_X4_86 ?hc_32 ?hk_32 ?hv_32 ?_; (case hc_32 => exact hcw); (case hk_32 => rfl); (case hv_32 => rfl)
          refine mm_callV (pc := 35) (As := [_]) (kd := ?kd_35) (fs := ?fs_35) dX4_choose_35 vl_X4_89 (ok_X1_standsFor hcb hcj) ?hc_35 ?hk_35 rfl rfl (Nat.le_of_ble_eq_true rfl) ?_; (case hc_35 => exact hcb); (case hk_35 => rfl)
          rintro _ _ ⟨rfl, rfl⟩
          refine mm_if_eq (pc := 38) (tgt := 43) dX4_choose_38 (by decide) (fun c38 => ?_) (fun c38 => ?_)
          · refine mm_aload_n (pc := 43) dX4_choose_43 rfl (by first | trivial | assumption | exact mm_isr_rf _) ?_
            refine mm_get (pc := 44) (kd := ?kd_44) (fs := ?fs_44) (v := ?v_44) dX4_choose_44 fl_X4_22 ?hc_44 ?hk_44 ?hv_44 ?_; (case hc_44 => exact hc); (case hk_44 => rfl); (case hv_44 => rfl)
            refine mm_astore_n (pc := 47) dX4_choose_47 (by first | trivial | assumption | exact mm_isr_rf _) rfl (Nat.le_of_ble_eq_true rfl) ?_
            refine mm_goto (pc := 48) (tgt := 8) dX4_choose_48 (by decide) ?_
            refine mm_weakK (ih (xab T x) ?_ ?_ ?_) (And.intro rfl (And.intro rfl (And.intro rfl trivial)))
            · cases hx : xab T x with
              | none => trivial
              | some z => exact Nat.lt_of_lt_of_le (hab x z h2 hx) (by omega)
            · cases hx : xab T x with
              | none => trivial
              | some z => exact Nat.lt_trans (hab x z h2 hx) h2
            · rw [← he, hs]
              have hq2 : xb (xov T x q) j = false := by
                cases hz : xb (xov T x q) j with
                | false => rfl
                | true =>
                  rw [if_neg (fun e => by rw [(xb_test (by omega)).mp e] at hz; cases hz)] at c38
                  exact absurd c38 (by decide)
              rw [hb, hq2, show Nat.beq x j = false from by cases hz : Nat.beq x j with
                | true =>
                  have e := Nat.eq_of_beq_eq_true hz
                  subst e
                  rw [hw] at hb
                  cases hb
                  exact absurd rfl c27
                | false => rfl]
              rfl
          · refine mm_aload_n (pc := 41) dX4_choose_41 rfl (by first | trivial | assumption | exact mm_isr_rf _) ?_
            refine mm_aret (pc := 42) dX4_choose_42 rfl (Or.inl ⟨_, rfl⟩) (by first | trivial | assumption | exact mm_isr_rf _) ?_
            have hq2 : xb (xov T x q) j = true := by
              cases hz : xb (xov T x q) j with
              | true => rfl
              | false => exact absurd (by rw [if_pos ((xb_test (by omega)).mpr hz)]) c38
            exact ⟨rfl, by rw [← he, hs, hb, hq2, Bool.or_true]; show _ = some (va_rf (xbO T x q)); rw [hb]; rfl⟩

theorem ok_X4_choose {G : mm_G} {L : Nat × Nat} {d : Nat} {h : mm_H} {T : xk_T} {n k q j w : Nat} (hX : xk h T n) (hk : k < n) (hq : q < 6) (hj : j < n) (hw : xbO T j q = some w) : mm_Ok G mX4_choose L (d + 2) [.ref (xkA T k), .ref w] h (fun r h1 => h1 = h ∧ r = some (va_rf ((kfind (xab T) (fun x => (xbO T x q).isSome && (Nat.beq x j || xb (xov T x q) j)) (some k)).bind (fun x => xbO T x q)))) := by
  refine mm_Ok.of [(0, .ref (xkA T k)), (1, .ref w)] rfl kX4_choose.2.2.2.2.2 rfl (fun A => ?_)
  refine mm_aload_n (pc := 0) dX4_choose_0 rfl (by first | trivial | assumption | exact mm_isr_rf _) ?_
  refine mm_ifnonnull (pc := 1) (tgt := 6) dX4_choose_1 (by decide) (by first | trivial | assumption | exact mm_isr_rf _) (fun a1 c1 => ?_) (fun c1 => by cases c1)
  refine mm_aload_n (pc := 6) dX4_choose_6 rfl (by first | trivial | assumption | exact mm_isr_rf _) ?_
  refine mm_astore_n (pc := 7) dX4_choose_7 (by first | trivial | assumption | exact mm_isr_rf _) rfl (Nat.le_of_ble_eq_true rfl) ?_
  exact mm_weakK (xk_chooseL hX hq hj hw n (some k) hk hk rfl) (And.intro rfl (And.intro rfl (And.intro rfl trivial)))

theorem ok_X4_chooseN {G : mm_G} {L : Nat × Nat} {d : Nat} {h : mm_H} {a : Nat} : mm_Ok G mX4_choose L d [.ref a, .null] h (fun r h1 => h1 = h ∧ r = some .null) := by
  refine mm_Ok.of [(0, .ref a), (1, .null)] rfl kX4_choose.2.2.2.2.2 rfl (fun A => ?_)
  refine mm_aload_n (pc := 0) dX4_choose_0 rfl (by first | trivial | assumption | exact mm_isr_rf _) ?_
  refine mm_ifnonnull (pc := 1) (tgt := 6) dX4_choose_1 (by decide) (by first | trivial | assumption | exact mm_isr_rf _) (fun a1 c1 => by cases c1) (fun c1 => ?_)
  refine mm_null (pc := 4) dX4_choose_4 ?_
  refine mm_aret (pc := 5) dX4_choose_5 rfl (Or.inl ⟨_, rfl⟩) (by first | trivial | assumption | exact mm_isr_rf _) ?_
  exact ⟨rfl, rfl⟩

theorem xk_overL {G : mm_G} {L : Nat × Nat} {d : Nat} {h : mm_H} {T : xk_T} {n k q : Nat} {A : Nat → Prop} (hX : xk h T n) (hk : k < n) (hq : q < 6) (hov : ∀ i, An (xab T) k i → (xbO T i q).isSome = true → ∀ u, u < 64 → xb (xov T i q) u = ovB (xab T) (xE T q) i u) : ∀ (f t : Nat), k < f + t → ∀ (c : Option Nat), upn (xab T) (t + 1) k = c → kf_lt n c → ∀ (w : Int64), oi (xab T) (xE T q) k (fun u => u < 64 ∧ xb w u = true) t → mm_Run G mX4_overriddenOf A L (d + 1) 8 [(4, va_rf (c.map (xkA T))), (2, .long w), (0, .ref (xkA T k)), (1, .int (nI q))] [] h (fun r h1 => h1 = h ∧ ∃ w : Int64, r = some (.long w) ∧ ∀ u, u < 64 → xb w u = ovB (xab T) (xE T q) k u) := by
  have hX2 := hX
  obtain ⟨hab, hn50, -⟩ := hX2
  obtain ⟨y1, y2, y3, m1, m2, hck⟩ := hX.2.2.2.1 k hk
  intro f
  induction f with
  | zero =>
    intro t ht c hup h2 w hv
    cases c with
    | none =>
      show mm_Run G mX4_overriddenOf A L (d + 1) 8 [(4, .null), (2, .long w), (0, .ref (xkA T k)), (1, .int (nI q))] [] h (fun r h1 => h1 = h ∧ ∃ w : Int64, r = some (.long w) ∧ ∀ u, u < 64 → xb w u = ovB (xab T) (xE T q) k u)
      refine mm_aload (pc := 8) dX4_overriddenOf_8 rfl (by first | trivial | assumption | exact mm_isr_rf _) ?_
      refine mm_ifnull (pc := 10) (tgt := 71) dX4_overriddenOf_10 (by decide) (by first | trivial | assumption | exact mm_isr_rf _) (fun c10 => ?_) (fun a10 c10 => by cases c10)
      refine mm_lload_n (pc := 71) dX4_overriddenOf_71 rfl ?_
      refine mm_lret (pc := 72) dX4_overriddenOf_72 rfl ?_
      refine ⟨rfl, w, rfl, fun u hu => ?_⟩
      have key := hv.fin hup u
      cases hb : ovB (xab T) (xE T q) k u with
      | true => exact (key.mpr (ovB_iff.mp hb)).2
      | false =>
        cases hz : xb w u with
        | false => rfl
        | true => rw [ovB_iff.mpr (key.mp ⟨hu, hz⟩)] at hb; cases hb
    | some x =>
      have := upn_lt hab _ _ _ hk hup
      omega
  | succ f ih =>
    intro t ht c hup h2 w hv
    cases c with
    | none =>
      show mm_Run G mX4_overriddenOf A L (d + 1) 8 [(4, .null), (2, .long w), (0, .ref (xkA T k)), (1, .int (nI q))] [] h (fun r h1 => h1 = h ∧ ∃ w : Int64, r = some (.long w) ∧ ∀ u, u < 64 → xb w u = ovB (xab T) (xE T q) k u)
      refine mm_aload (pc := 8) dX4_overriddenOf_8 rfl (by first | trivial | assumption | exact mm_isr_rf _) ?_
      refine mm_ifnull (pc := 10) (tgt := 71) dX4_overriddenOf_10 (by decide) (by first | trivial | assumption | exact mm_isr_rf _) (fun c10 => ?_) (fun a10 c10 => by cases c10)
      refine mm_lload_n (pc := 71) dX4_overriddenOf_71 rfl ?_
      refine mm_lret (pc := 72) dX4_overriddenOf_72 rfl ?_
      refine ⟨rfl, w, rfl, fun u hu => ?_⟩
      have key := hv.fin hup u
      cases hb : ovB (xab T) (xE T q) k u with
      | true => exact (key.mpr (ovB_iff.mp hb)).2
      | false =>
        cases hz : xb w u with
        | false => rfl
        | true => rw [ovB_iff.mpr (key.mp ⟨hu, hz⟩)] at hb; cases hb
    | some x =>
      have h2 : x < n := h2
      obtain ⟨x1, x2, x3, l1, l2, hc⟩ := hX.2.2.2.1 x h2
      show mm_Run G mX4_overriddenOf A L (d + 1) 8 [(4, .ref (xkA T x)), (2, .long w), (0, .ref (xkA T k)), (1, .int (nI q))] [] h (fun r h1 => h1 = h ∧ ∃ w : Int64, r = some (.long w) ∧ ∀ u, u < 64 → xb w u = ovB (xab T) (xE T q) k u)
      cases hb : xbO T x q with
      | none =>
        refine mm_aload (pc := 8) dX4_overriddenOf_8 rfl (by first | trivial | assumption | exact mm_isr_rf _) ?_
        refine mm_ifnull (pc := 10) (tgt := 71) dX4_overriddenOf_10 (by decide) (by first | trivial | assumption | exact mm_isr_rf _) (fun c10 => by cases c10) (fun a10 c10 => ?_)
        refine mm_aload (pc := 13) dX4_overriddenOf_13 rfl (by first | trivial | assumption | exact mm_isr_rf _) ?_
        refine mm_iload_n (pc := 15) dX4_overriddenOf_15 rfl ?_
        refine mm_callV (pc := 16) (As := [_]) (kd := ?kd_16) (fs := ?fs_16) dX4_overriddenOf_16 vl_X4_71 (xk_bodyOf (v := .null) hX h2 hq (by rw [hb]; rfl)) ?hc_16 ?hk_16 rfl rfl (Nat.le_of_ble_eq_true rfl) ?_; (case hc_16 => exact hc); (case hk_16 => rfl)
        rintro _ _ ⟨rfl, rfl⟩
        refine mm_astore (pc := 19) dX4_overriddenOf_19 (by first | trivial | assumption | exact mm_isr_rf _) rfl (Nat.le_of_ble_eq_true rfl) ?_
        refine mm_aload (pc := 21) dX4_overriddenOf_21 rfl (by first | trivial | assumption | exact mm_isr_rf _) ?_
        refine mm_ifnull (pc := 23) (tgt := 61) dX4_overriddenOf_23 (by decide) (by first | trivial | assumption | exact mm_isr_rf _) (fun c23 => ?_) (fun a23 c23 => by cases c23)
        refine mm_aload (pc := 61) dX4_overriddenOf_61 rfl (by first | trivial | assumption | exact mm_isr_rf _) ?_
        refine mm_get (pc := 63) (kd := ?kd_63) (fs := ?fs_63) (v := ?v_63) dX4_overriddenOf_63 fl_X4_22 ?hc_63 ?hk_63 ?hv_63 ?_; (case hc_63 => exact hc); (case hk_63 => rfl); (case hv_63 => rfl)
        refine mm_astore (pc := 66) dX4_overriddenOf_66 (by first | trivial | assumption | exact mm_isr_rf _) rfl (Nat.le_of_ble_eq_true rfl) ?_
        refine mm_goto (pc := 68) (tgt := 8) dX4_overriddenOf_68 (by decide) ?_
        refine mm_weakK (ih (t + 1) (by omega) (xab T x) (upn_succ hup) ?_ _ (hv.skip hup (fun e => by unfold xE at e; rw [hb] at e; cases e))) (And.intro rfl (And.intro rfl (And.intro rfl (And.intro rfl trivial))))
        cases hx : xab T x with
        | none => trivial
        | some z => exact Nat.lt_trans (hab x z h2 hx) h2
      | some b =>
        obtain ⟨pl, nx, hcb⟩ := hX.2.2.2.2.2 x q b h2 hq hb
        refine mm_aload (pc := 8) dX4_overriddenOf_8 rfl (by first | trivial | assumption | exact mm_isr_rf _) ?_
        refine mm_ifnull (pc := 10) (tgt := 71) dX4_overriddenOf_10 (by decide) (by first | trivial | assumption | exact mm_isr_rf _) (fun c10 => by cases c10) (fun a10 c10 => ?_)
        refine mm_aload (pc := 13) dX4_overriddenOf_13 rfl (by first | trivial | assumption | exact mm_isr_rf _) ?_
        refine mm_iload_n (pc := 15) dX4_overriddenOf_15 rfl ?_
        refine mm_callV (pc := 16) (As := [_]) (kd := ?kd_16) (fs := ?fs_16) dX4_overriddenOf_16 vl_X4_71 (xk_bodyOf (v := .ref b) hX h2 hq (by rw [hb]; rfl)) ?hc_16 ?hk_16 rfl rfl (Nat.le_of_ble_eq_true rfl) ?_; (case hc_16 => exact hc); (case hk_16 => rfl)
        rintro _ _ ⟨rfl, rfl⟩
        refine mm_astore (pc := 19) dX4_overriddenOf_19 (by first | trivial | assumption | exact mm_isr_rf _) rfl (Nat.le_of_ble_eq_true rfl) ?_
        refine mm_aload (pc := 21) dX4_overriddenOf_21 rfl (by first | trivial | assumption | exact mm_isr_rf _) ?_
        refine mm_ifnull (pc := 23) (tgt := 61) dX4_overriddenOf_23 (by decide) (by first | trivial | assumption | exact mm_isr_rf _) (fun c23 => by cases c23) (fun a23 c23 => ?_)
        refine mm_aload_n (pc := 26) dX4_overriddenOf_26 rfl (by first | trivial | assumption | exact mm_isr_rf _) ?_
        refine mm_aload (pc := 27) dX4_overriddenOf_27 rfl (by first | trivial | assumption | exact mm_isr_rf _) ?_
        refine mm_callV (pc := 29) (As := [_]) (kd := ?kd_29) (fs := ?fs_29) dX4_overriddenOf_29 vl_X4_75 (xk_maySee hX hk h2 hq hb) ?hc_29 ?hk_29 rfl rfl (Nat.le_of_ble_eq_true rfl) ?_; (case hc_29 => exact hck); (case hk_29 => rfl)
        rintro _ _ ⟨rfl, rfl⟩
        refine mm_if_ne (pc := 32) (tgt := 47) dX4_overriddenOf_32 (by decide) (fun c32 => ?_) (fun c32 => ?_)
        · refine mm_lload_n (pc := 47) dX4_overriddenOf_47 rfl ?_
          refine mm_aload (pc := 48) dX4_overriddenOf_48 rfl (by first | trivial | assumption | exact mm_isr_rf _) ?_
          refine mm_callV (pc := 50) (As := []) (kd := ?kd_50) (fs := ?fs_50) dX4_overriddenOf_50 vl_X4_79 (ok_X4_bit hc) ?hc_50 ?hk_50 rfl rfl (Nat.le_of_ble_eq_true rfl) ?_; (case hc_50 => exact hc); (case hk_50 => rfl)
          rintro _ _ ⟨rfl, rfl⟩
          refine mm_aload (pc := 53) dX4_overriddenOf_53 rfl (by first | trivial | assumption | exact mm_isr_rf _) ?_
          refine mm_get (pc := 55) (kd := ?kd_55) (fs := ?fs_55) (v := ?v_55) dX4_overriddenOf_55 fl_X4_68 ?hc_55 ?hk_55 ?hv_55 ?_; (case hc_55 => exact hcb); (case hk_55 => rfl); (case hv_55 => rfl)
          refine mm_lor (pc := 58) dX4_overriddenOf_58 ?_
          refine mm_lor (pc := 59) dX4_overriddenOf_59 ?_
          refine mm_lstore_n (pc := 60) dX4_overriddenOf_60 rfl rfl (Nat.le_of_ble_eq_true rfl) ?_
          refine mm_aload (pc := 61) dX4_overriddenOf_61 rfl (by first | trivial | assumption | exact mm_isr_rf _) ?_
          refine mm_get (pc := 63) (kd := ?kd_63) (fs := ?fs_63) (v := ?v_63) dX4_overriddenOf_63 fl_X4_22 ?hc_63 ?hk_63 ?hv_63 ?_; (case hc_63 => exact hc); (case hk_63 => rfl); (case hv_63 => rfl)
          refine mm_astore (pc := 66) dX4_overriddenOf_66 (by first | trivial | assumption | exact mm_isr_rf _) rfl (Nat.le_of_ble_eq_true rfl) ?_
          refine mm_goto (pc := 68) (tgt := 8) dX4_overriddenOf_68 (by decide) ?_
          have hS : oi (xab T) (xE T q) k (fun u => u < 64 ∧ xb (w ||| ((1 : Int64) <<< ((nI x).toInt64 &&& 63) ||| xov T x q)) u = true) (t + 1) := by
            have hadd : xE T q k x = true ∨ (x < 64 ∧ xb w x = true) := by
              refine Or.inl ?_
              unfold xE
              rw [hb]
              show (true && xsees T q k x) = true
              cases hz : xsees T q k x with
              | true => rfl
              | false => exact absurd (bI_eq0.mpr hz) c32
            refine oi.ext (hv.add hup hadd) (fun u => ?_)
            constructor
            · rintro (hu | rfl | hu)
              · exact ⟨hu.1, by rw [xb_or, hu.2]; rfl⟩
              · exact ⟨by omega, by rw [xb_or, xb_or, xb_one (by omega) (by omega), show Nat.beq u u = true from Nat.beq_eq.mpr rfl]; simp⟩
              · have hlt := hu.an.lt hab h2
                exact ⟨by omega, by rw [xb_or, xb_or, hov x ⟨t, hup⟩ (by rw [hb]; rfl) u (by omega), ovB_iff.mpr hu]; simp⟩
            · rintro ⟨hu, hz⟩
              rw [xb_or, xb_or, xb_one (by omega) hu, hov x ⟨t, hup⟩ (by rw [hb]; rfl) u hu] at hz
              rcases (Bool.or_eq_true _ _).mp hz with q1 | q1
              · exact Or.inl ⟨hu, q1⟩
              · rcases (Bool.or_eq_true _ _).mp q1 with q2 | q2
                · exact Or.inr (Or.inl (Nat.eq_of_beq_eq_true q2))
                · exact Or.inr (Or.inr (ovB_iff.mp q2))
          refine mm_weakK (ih (t + 1) (by omega) (xab T x) (upn_succ hup) ?_ _ hS) (And.intro rfl (And.intro rfl (And.intro rfl (And.intro rfl trivial))))
          cases hx : xab T x with
          | none => trivial
          | some z => exact Nat.lt_trans (hab x z h2 hx) h2
        · refine mm_lload_n (pc := 35) dX4_overriddenOf_35 rfl ?_
          refine mm_aload (pc := 36) dX4_overriddenOf_36 rfl (by first | trivial | assumption | exact mm_isr_rf _) ?_
          refine mm_callV (pc := 38) (As := []) (kd := ?kd_38) (fs := ?fs_38) dX4_overriddenOf_38 vl_X4_79 (ok_X4_bit hc) ?hc_38 ?hk_38 rfl rfl (Nat.le_of_ble_eq_true rfl) ?_; (case hc_38 => exact hc); (case hk_38 => rfl)
          rintro _ _ ⟨rfl, rfl⟩
          refine mm_land (pc := 41) dX4_overriddenOf_41 ?_
          refine mm_lconst (pc := 42) (v := 0) dX4_overriddenOf_42 (by decide) ?_
          refine mm_lcmp (pc := 43) dX4_overriddenOf_43 ?_
          refine mm_if_eq (pc := 44) (tgt := 61) dX4_overriddenOf_44 (by decide) (fun c44 => ?_) (fun c44 => ?_)
          · refine mm_aload (pc := 61) dX4_overriddenOf_61 rfl (by first | trivial | assumption | exact mm_isr_rf _) ?_
            refine mm_get (pc := 63) (kd := ?kd_63) (fs := ?fs_63) (v := ?v_63) dX4_overriddenOf_63 fl_X4_22 ?hc_63 ?hk_63 ?hv_63 ?_; (case hc_63 => exact hc); (case hk_63 => rfl); (case hv_63 => rfl)
            refine mm_astore (pc := 66) dX4_overriddenOf_66 (by first | trivial | assumption | exact mm_isr_rf _) rfl (Nat.le_of_ble_eq_true rfl) ?_
            refine mm_goto (pc := 68) (tgt := 8) dX4_overriddenOf_68 (by decide) ?_
            refine mm_weakK (ih (t + 1) (by omega) (xab T x) (upn_succ hup) ?_ _ (hv.skip hup (fun e => by
                unfold xE at e
                rw [show xsees T q k x = false from bI_eq0.mp c32, Bool.and_false] at e
                cases e))) (And.intro rfl (And.intro rfl (And.intro rfl (And.intro rfl trivial))))
            cases hx : xab T x with
            | none => trivial
            | some z => exact Nat.lt_trans (hab x z h2 hx) h2
          · refine mm_lload_n (pc := 47) dX4_overriddenOf_47 rfl ?_
            refine mm_aload (pc := 48) dX4_overriddenOf_48 rfl (by first | trivial | assumption | exact mm_isr_rf _) ?_
            refine mm_callV (pc := 50) (As := []) (kd := ?kd_50) (fs := ?fs_50) dX4_overriddenOf_50 vl_X4_79 (ok_X4_bit hc) ?hc_50 ?hk_50 rfl rfl (Nat.le_of_ble_eq_true rfl) ?_; (case hc_50 => exact hc); (case hk_50 => rfl)
            rintro _ _ ⟨rfl, rfl⟩
            refine mm_aload (pc := 53) dX4_overriddenOf_53 rfl (by first | trivial | assumption | exact mm_isr_rf _) ?_
            refine mm_get (pc := 55) (kd := ?kd_55) (fs := ?fs_55) (v := ?v_55) dX4_overriddenOf_55 fl_X4_68 ?hc_55 ?hk_55 ?hv_55 ?_; (case hc_55 => exact hcb); (case hk_55 => rfl); (case hv_55 => rfl)
            refine mm_lor (pc := 58) dX4_overriddenOf_58 ?_
            refine mm_lor (pc := 59) dX4_overriddenOf_59 ?_
            refine mm_lstore_n (pc := 60) dX4_overriddenOf_60 rfl rfl (Nat.le_of_ble_eq_true rfl) ?_
            refine mm_aload (pc := 61) dX4_overriddenOf_61 rfl (by first | trivial | assumption | exact mm_isr_rf _) ?_
            refine mm_get (pc := 63) (kd := ?kd_63) (fs := ?fs_63) (v := ?v_63) dX4_overriddenOf_63 fl_X4_22 ?hc_63 ?hk_63 ?hv_63 ?_; (case hc_63 => exact hc); (case hk_63 => rfl); (case hv_63 => rfl)
            refine mm_astore (pc := 66) dX4_overriddenOf_66 (by first | trivial | assumption | exact mm_isr_rf _) rfl (Nat.le_of_ble_eq_true rfl) ?_
            refine mm_goto (pc := 68) (tgt := 8) dX4_overriddenOf_68 (by decide) ?_
            have hS : oi (xab T) (xE T q) k (fun u => u < 64 ∧ xb (w ||| ((1 : Int64) <<< ((nI x).toInt64 &&& 63) ||| xov T x q)) u = true) (t + 1) := by
              have hadd : xE T q k x = true ∨ (x < 64 ∧ xb w x = true) := by
                refine Or.inr ⟨by omega, ?_⟩
                cases hz : xb w x with
                | true => rfl
                | false => exact absurd ((xb_test (by omega)).mpr hz) c44
              refine oi.ext (hv.add hup hadd) (fun u => ?_)
              constructor
              · rintro (hu | rfl | hu)
                · exact ⟨hu.1, by rw [xb_or, hu.2]; rfl⟩
                · exact ⟨by omega, by rw [xb_or, xb_or, xb_one (by omega) (by omega), show Nat.beq u u = true from Nat.beq_eq.mpr rfl]; simp⟩
                · have hlt := hu.an.lt hab h2
                  exact ⟨by omega, by rw [xb_or, xb_or, hov x ⟨t, hup⟩ (by rw [hb]; rfl) u (by omega), ovB_iff.mpr hu]; simp⟩
              · rintro ⟨hu, hz⟩
                rw [xb_or, xb_or, xb_one (by omega) hu, hov x ⟨t, hup⟩ (by rw [hb]; rfl) u hu] at hz
                rcases (Bool.or_eq_true _ _).mp hz with q1 | q1
                · exact Or.inl ⟨hu, q1⟩
                · rcases (Bool.or_eq_true _ _).mp q1 with q2 | q2
                  · exact Or.inr (Or.inl (Nat.eq_of_beq_eq_true q2))
                  · exact Or.inr (Or.inr (ovB_iff.mp q2))
            refine mm_weakK (ih (t + 1) (by omega) (xab T x) (upn_succ hup) ?_ _ hS) (And.intro rfl (And.intro rfl (And.intro rfl (And.intro rfl trivial))))
            cases hx : xab T x with
            | none => trivial
            | some z => exact Nat.lt_trans (hab x z h2 hx) h2

theorem ok_X4_overriddenOf {G : mm_G} {L : Nat × Nat} {d : Nat} {h : mm_H} {T : xk_T} {n k q : Nat} (hX : xk h T n) (hk : k < n) (hq : q < 6) (hov : ∀ i, An (xab T) k i → (xbO T i q).isSome = true → ∀ u, u < 64 → xb (xov T i q) u = ovB (xab T) (xE T q) i u) : mm_Ok G mX4_overriddenOf L (d + 1) [.ref (xkA T k), .int (nI q)] h (fun r h1 => h1 = h ∧ ∃ w : Int64, r = some (.long w) ∧ ∀ u, u < 64 → xb w u = ovB (xab T) (xE T q) k u) := by
  refine mm_Ok.of [(0, .ref (xkA T k)), (1, .int (nI q))] rfl kX4_overriddenOf.2.2.2.2.2 rfl (fun A => ?_)
  obtain ⟨y1, y2, y3, m1, m2, hck⟩ := hX.2.2.2.1 k hk
  refine mm_lconst (pc := 0) (v := 0) dX4_overriddenOf_0 (by decide) ?_
  refine mm_lstore_n (pc := 1) dX4_overriddenOf_1 rfl rfl (Nat.le_of_ble_eq_true rfl) ?_
  refine mm_aload_n (pc := 2) dX4_overriddenOf_2 rfl (by first | trivial | assumption | exact mm_isr_rf _) ?_
  refine mm_get (pc := 3) (kd := ?kd_3) (fs := ?fs_3) (v := ?v_3) dX4_overriddenOf_3 fl_X4_22 ?hc_3 ?hk_3 ?hv_3 ?_; (case hc_3 => exact hck); (case hk_3 => rfl); (case hv_3 => rfl)
  refine mm_astore (pc := 6) dX4_overriddenOf_6 (by first | trivial | assumption | exact mm_isr_rf _) rfl (Nat.le_of_ble_eq_true rfl) ?_
  refine mm_weakK (xk_overL hX hk hq hov (k + 1) 0 (by omega) (xab T k) (upn_succ rfl) ?_ 0 (oi.ext oi.zero (fun u => ⟨fun z => z.elim, fun z => by rw [xb_zero] at z; cases z.2⟩))) (And.intro rfl (And.intro rfl (And.intro rfl (And.intro rfl trivial))))
  cases hx : xab T k with
  | none => trivial
  | some z => exact Nat.lt_trans (hX.1 k z hk hx) hk

