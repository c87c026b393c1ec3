/-! the class's kinds: addresses and what the cells hold, by the kind's number -/
abbrev xk_T : Type := (Nat → Option Nat) × (Nat → Nat) × (Nat → Nat) × (Nat → Int32) × (Nat → Int32) × (Nat → Int32) × (Nat → Int64) × (Nat → Nat → Option Nat) × (Nat → Nat → Int32) × (Nat → Nat → Int32) × (Nat → Nat → Option Nat) × (Nat → Nat → Int32) × (Nat → Nat → Int64)
abbrev xab (T : xk_T) : Nat → Option Nat := T.1
abbrev xkA (T : xk_T) : Nat → Nat := T.2.1
abbrev xbA (T : xk_T) : Nat → Nat := T.2.2.1
abbrev xho (T : xk_T) : Nat → Int32 := T.2.2.2.1
abbrev xpk (T : xk_T) : Nat → Int32 := T.2.2.2.2.1
abbrev xde (T : xk_T) : Nat → Int32 := T.2.2.2.2.2.1
abbrev xnm (T : xk_T) : Nat → Int64 := T.2.2.2.2.2.2.1
abbrev xbO (T : xk_T) : Nat → Nat → Option Nat := T.2.2.2.2.2.2.2.1
abbrev xri (T : xk_T) : Nat → Nat → Int32 := T.2.2.2.2.2.2.2.2.1
abbrev xla (T : xk_T) : Nat → Nat → Int32 := T.2.2.2.2.2.2.2.2.2.1
abbrev xfi (T : xk_T) : Nat → Nat → Option Nat := T.2.2.2.2.2.2.2.2.2.2.1
abbrev xct (T : xk_T) : Nat → Nat → Int32 := T.2.2.2.2.2.2.2.2.2.2.2.1
abbrev xov (T : xk_T) : Nat → Nat → Int64 := T.2.2.2.2.2.2.2.2.2.2.2.2
def xk_kc (T : xk_T) (i : Nat) (x1 : Int32) (x2 : Int64) (x3 : Int32) (l1 l2 : Value) : mm_C := (4, [.long (xnm T i), .int x1, .long x2, .int x3, .int (nI i), va_rf ((xab T i).map (xkA T)), .int (xho T i), .int (xpk T i), .int (xde T i), l1, l2, .ref (xbA T i)])
def xk_bc (T : xk_T) (i q : Nat) (pl : Int32) (nx : Value) : mm_C := (1, [.ref (xkA T i), .int (nI q), .int (xri T i q), .int (xla T i q), .int pl, va_rf (xfi T i q), .int (xct T i q), .long (xov T i q), nx])
def xk (h : mm_H) (T : xk_T) (n : Nat) : Prop := kf_ok (xab T) n ∧ n ≤ 50 ∧ (∀ i j, i < n → j < n → xkA T i = xkA T j → i = j) ∧
  (∀ i, i < n → ∃ x1 x2 x3 l1 l2, h.1 (xkA T i) = some (4, [.long (xnm T i), .int x1, .long x2, .int x3, .int (nI i), va_rf ((xab T i).map (xkA T)), .int (xho T i), .int (xpk T i), .int (xde T i), l1, l2, .ref (xbA T i)])) ∧
  (∀ i, i < n → h.1 (xbA T i) = some (106, [va_rf (xbO T i 0), va_rf (xbO T i 1), va_rf (xbO T i 2), va_rf (xbO T i 3), va_rf (xbO T i 4), va_rf (xbO T i 5)])) ∧
  (∀ i q b, i < n → q < 6 → xbO T i q = some b → ∃ pl nx, h.1 b = some (1, [.ref (xkA T i), .int (nI q), .int (xri T i q), .int (xla T i q), .int pl, va_rf (xfi T i q), .int (xct T i q), .long (xov T i q), nx]))
theorem xk_b6 (f : Nat → Option Nat) {q : Nat} (h : q < 6) : [va_rf (f 0), va_rf (f 1), va_rf (f 2), va_rf (f 3), va_rf (f 4), va_rf (f 5)][q]? = some (va_rf (f q)) := by
  match q, h with
  | 0, _ => rfl
  | 1, _ => rfl
  | 2, _ => rfl
  | 3, _ => rfl
  | 4, _ => rfl
  | 5, _ => rfl
def xsees (T : xk_T) (q k u : Nat) : Bool := decide (¬ xri T u q = 2 ∨ xho T k = xho T u)
def xE (T : xk_T) (q x z : Nat) : Bool := (xbO T z q).isSome && xsees T q x z
theorem xseesI (T : xk_T) (q k u : Nat) : (if xri T u q = 2 then if xho T u = xho T k then (1 : Int32) else 0 else 1) = bI (xsees T q k u) := by
  unfold xsees bI
  by_cases h1 : xri T u q = 2 <;> by_cases h2 : xho T k = xho T u <;> simp [h1, h2, eq_comm]
/-- Kind.bodyOf over the table -/
theorem xk_bodyOf {G : mm_G} {L : Nat × Nat} {d : Nat} {h : mm_H} {T : xk_T} {n i q : Nat} {v : Value} (hX : xk h T n) (hi : i < n) (hq : q < 6) (hv : va_rf (xbO T i q) = v) : mm_Ok G mX4_bodyOf L d [.ref (xkA T i), .int (nI q)] h (fun r h1 => h1 = h ∧ r = some v) := by
  obtain ⟨x1, x2, x3, l1, l2, hc⟩ := hX.2.2.2.1 i hi
  subst hv
  exact ok_X4_bodyOf hc (hX.2.2.2.2.1 i hi) rfl hq (xk_b6 _ hq) (mm_isr_rf _)
theorem xk_maySee {G : mm_G} {L : Nat × Nat} {d : Nat} {h : mm_H} {T : xk_T} {n i u q b : Nat} (hX : xk h T n) (hi : i < n) (hu : u < n) (hq : q < 6) (hb : xbO T u q = some b) : mm_Ok G mX4_maySee L d [.ref (xkA T i), .ref b] h (fun r h1 => h1 = h ∧ r = some (.int (bI (xsees T q i u)))) := by
  obtain ⟨x1, x2, x3, l1, l2, hc⟩ := hX.2.2.2.1 i hi
  obtain ⟨y1, y2, y3, m1, m2, hc2⟩ := hX.2.2.2.1 u hu
  obtain ⟨pl, nx, hcb⟩ := hX.2.2.2.2.2 u q b hu hq hb
  rw [← xseesI]
  exact ok_X4_maySee hc hc2 hcb

theorem xk_resolveL {G : mm_G} {L : Nat × Nat} {d : Nat} {h : mm_H} {T : xk_T} {n k q : Nat} {c0 : Option Nat} {A : Nat → Prop} (hX : xk h T n) (hk : k < n) (hq : q < 6) : ∀ (f : Nat) (c : Option Nat), kf_lt f c → kf_lt n c → kfind (xab T) (fun x => (xbO T x q).isSome && (Nat.beq x k || xsees T q k x)) c = kfind (xab T) (fun x => (xbO T x q).isSome && (Nat.beq x k || xsees T q k x)) c0 → mm_Run G mX4_resolve A L (d + 1) 2 [(3, va_rf (c.map (xkA T))), (0, .ref (xkA T k)), (1, .int (nI q))] [] h (fun r h1 => h1 = h ∧ r = some (va_rf ((kfind (xab T) (fun x => (xbO T x q).isSome && (Nat.beq x k || xsees T q k x)) c0).bind (fun x => xbO T x q)))) := by
  have hX2 := hX
  obtain ⟨hab, hn50, -⟩ := hX2
  obtain ⟨y1, y2, y3, m1, m2, hck⟩ := hX.2.2.2.1 k hk
  intro f
  induction f with
  | zero =>
    intro c h1 h2 he
    cases c with
    | none =>
      show mm_Run G mX4_resolve A L (d + 1) 2 [(3, .null), (0, .ref (xkA T k)), (1, .int (nI q))] [] h (fun r h1 => h1 = h ∧ r = some (va_rf ((kfind (xab T) (fun x => (xbO T x q).isSome && (Nat.beq x k || xsees T q k x)) c0).bind (fun x => xbO T x q))))
      refine mm_aload_n (pc := 2) dX4_resolve_2 rfl (by first | trivial | assumption | exact mm_isr_rf _) ?_
      refine mm_ifnull (pc := 3) (tgt := 43) dX4_resolve_3 (by decide) (by first | trivial | assumption | exact mm_isr_rf _) (fun c3 => ?_) (fun a3 c3 => by cases c3)
      refine mm_null (pc := 43) dX4_resolve_43 ?_
      refine mm_aret (pc := 44) dX4_resolve_44 rfl (Or.inl ⟨_, rfl⟩) (by first | trivial | assumption | exact mm_isr_rf _) ?_
      exact ⟨rfl, by rw [← he]; rfl⟩
    | some x => exact absurd h1 (Nat.not_lt_zero x)
  | succ f ih =>
    intro c h1 h2 he
    cases c with
    | none =>
      show mm_Run G mX4_resolve A L (d + 1) 2 [(3, .null), (0, .ref (xkA T k)), (1, .int (nI q))] [] h (fun r h1 => h1 = h ∧ r = some (va_rf ((kfind (xab T) (fun x => (xbO T x q).isSome && (Nat.beq x k || xsees T q k x)) c0).bind (fun x => xbO T x q))))
      refine mm_aload_n (pc := 2) dX4_resolve_2 rfl (by first | trivial | assumption | exact mm_isr_rf _) ?_
      refine mm_ifnull (pc := 3) (tgt := 43) dX4_resolve_3 (by decide) (by first | trivial | assumption | exact mm_isr_rf _) (fun c3 => ?_) (fun a3 c3 => by cases c3)
      refine mm_null (pc := 43) dX4_resolve_43 ?_
      refine mm_aret (pc := 44) dX4_resolve_44 rfl (Or.inl ⟨_, rfl⟩) (by first | trivial | assumption | exact mm_isr_rf _) ?_
      exact ⟨rfl, by rw [← he]; rfl⟩
    | some x =>
      have h1 : x < f + 1 := h1
      have h2 : x < n := h2
      have hs := kfind_some (P := (fun x => (xbO T x q).isSome && (Nat.beq x k || xsees T q k x))) hab (by omega) h2
      obtain ⟨x1, x2, x3, l1, l2, hc⟩ := hX.2.2.2.1 x h2
      show mm_Run G mX4_resolve A L (d + 1) 2 [(3, .ref (xkA T x)), (0, .ref (xkA T k)), (1, .int (nI q))] [] h (fun r h1 => h1 = h ∧ r = some (va_rf ((kfind (xab T) (fun x => (xbO T x q).isSome && (Nat.beq x k || xsees T q k x)) c0).bind (fun x => xbO T x q))))
      cases hb : xbO T x q with
      | none =>
        refine mm_aload_n (pc := 2) dX4_resolve_2 rfl (by first | trivial | assumption | exact mm_isr_rf _) ?_
        refine mm_ifnull (pc := 3) (tgt := 43) dX4_resolve_3 (by decide) (by first | trivial | assumption | exact mm_isr_rf _) (fun c3 => by cases c3) (fun a3 c3 => ?_)
        refine mm_aload_n (pc := 6) dX4_resolve_6 rfl (by first | trivial | assumption | exact mm_isr_rf _) ?_
        refine mm_iload_n (pc := 7) dX4_resolve_7 rfl ?_
        refine mm_callV (pc := 8) (As := [_]) (kd := ?kd_8) (fs := ?fs_8) dX4_resolve_8 vl_X4_71 (xk_bodyOf (v := .null) hX h2 hq (by rw [hb]; rfl)) ?hc_8 ?hk_8 rfl rfl (Nat.le_of_ble_eq_true rfl) ?_; (case hc_8 => exact hc); (case hk_8 => rfl)
        rintro _ _ ⟨rfl, rfl⟩
        refine mm_astore (pc := 11) dX4_resolve_11 (by first | trivial | assumption | exact mm_isr_rf _) rfl (Nat.le_of_ble_eq_true rfl) ?_
        refine mm_aload (pc := 13) dX4_resolve_13 rfl (by first | trivial | assumption | exact mm_isr_rf _) ?_
        refine mm_ifnull (pc := 15) (tgt := 35) dX4_resolve_15 (by decide) (by first | trivial | assumption | exact mm_isr_rf _) (fun c15 => ?_) (fun a15 c15 => by cases c15)
        refine mm_aload_n (pc := 35) dX4_resolve_35 rfl (by first | trivial | assumption | exact mm_isr_rf _) ?_
        refine mm_get (pc := 36) (kd := ?kd_36) (fs := ?fs_36) (v := ?v_36) dX4_resolve_36 fl_X4_22 ?hc_36 ?hk_36 ?hv_36 ?_; (case hc_36 => exact hc); (case hk_36 => rfl); (case hv_36 => rfl)
        refine mm_astore_n (pc := 39) dX4_resolve_39 (by first | trivial | assumption | exact mm_isr_rf _) rfl (Nat.le_of_ble_eq_true rfl) ?_
        refine mm_goto (pc := 40) (tgt := 2) dX4_resolve_40 (by decide) ?_
        refine mm_weakK (ih (xab T x) ?_ ?_ ?_) (And.intro rfl (And.intro rfl (And.intro rfl trivial)))
        · cases hx : xab T x with
          | none => trivial
          | some z => exact Nat.lt_of_lt_of_le (hab x z h2 hx) (by omega)
        · cases hx : xab T x with
          | none => trivial
          | some z => exact Nat.lt_trans (hab x z h2 hx) h2
        · rw [← he, hs]
          rw [hb]
          rfl
      | some b =>
        refine mm_aload_n (pc := 2) dX4_resolve_2 rfl (by first | trivial | assumption | exact mm_isr_rf _) ?_
        refine mm_ifnull (pc := 3) (tgt := 43) dX4_resolve_3 (by decide) (by first | trivial | assumption | exact mm_isr_rf _) (fun c3 => by cases c3) (fun a3 c3 => ?_)
        refine mm_aload_n (pc := 6) dX4_resolve_6 rfl (by first | trivial | assumption | exact mm_isr_rf _) ?_
        refine mm_iload_n (pc := 7) dX4_resolve_7 rfl ?_
        refine mm_callV (pc := 8) (As := [_]) (kd := ?kd_8) (fs := ?fs_8) dX4_resolve_8 vl_X4_71 (xk_bodyOf (v := .ref b) hX h2 hq (by rw [hb]; rfl)) ?hc_8 ?hk_8 rfl rfl (Nat.le_of_ble_eq_true rfl) ?_; (case hc_8 => exact hc); (case hk_8 => rfl)
        rintro _ _ ⟨rfl, rfl⟩
        refine mm_astore (pc := 11) dX4_resolve_11 (by first | trivial | assumption | exact mm_isr_rf _) rfl (Nat.le_of_ble_eq_true rfl) ?_
        refine mm_aload (pc := 13) dX4_resolve_13 rfl (by first | trivial | assumption | exact mm_isr_rf _) ?_
        refine mm_ifnull (pc := 15) (tgt := 35) dX4_resolve_15 (by decide) (by first | trivial | assumption | exact mm_isr_rf _) (fun c15 => by cases c15) (fun a15 c15 => ?_)
        refine mm_aload_n (pc := 18) dX4_resolve_18 rfl (by first | trivial | assumption | exact mm_isr_rf _) ?_
        refine mm_aload_n (pc := 19) dX4_resolve_19 rfl (by first | trivial | assumption | exact mm_isr_rf _) ?_
        refine mm_acmp_eq (pc := 20) (tgt := 32) dX4_resolve_20 (by decide) (by first | trivial | assumption | exact mm_isr_rf _) (by first | trivial | assumption | exact mm_isr_rf _) (fun c20 => ?_) (fun c20 => ?_)
        · refine mm_aload (pc := 32) dX4_resolve_32 rfl (by first | trivial | assumption | exact mm_isr_rf _) ?_
          refine mm_aret (pc := 34) dX4_resolve_34 rfl (Or.inl ⟨_, rfl⟩) (by first | trivial | assumption | exact mm_isr_rf _) ?_
          have ek : x = k := hX.2.2.1 x k h2 hk (Value.ref.inj c20)
          exact ⟨rfl, by rw [← he, hs, hb, show Nat.beq x k = true from Nat.beq_eq.mpr ek]; show _ = some (va_rf (xbO T x q)); rw [hb]; rfl⟩
        · refine mm_aload_n (pc := 23) dX4_resolve_23 rfl (by first | trivial | assumption | exact mm_isr_rf _) ?_
          refine mm_aload (pc := 24) dX4_resolve_24 rfl (by first | trivial | assumption | exact mm_isr_rf _) ?_
          refine mm_callV (pc := 26) (As := [_]) (kd := ?kd_26) (fs := ?fs_26) dX4_resolve_26 vl_X4_75 (xk_maySee hX hk h2 hq hb) ?hc_26 ?hk_26 rfl rfl (Nat.le_of_ble_eq_true rfl) ?_; (case hc_26 => exact hck); (case hk_26 => rfl)
          rintro _ _ ⟨rfl, rfl⟩
          refine mm_if_eq (pc := 29) (tgt := 35) dX4_resolve_29 (by decide) (fun c29 => ?_) (fun c29 => ?_)
          · refine mm_aload_n (pc := 35) dX4_resolve_35 rfl (by first | trivial | assumption | exact mm_isr_rf _) ?_
            refine mm_get (pc := 36) (kd := ?kd_36) (fs := ?fs_36) (v := ?v_36) dX4_resolve_36 fl_X4_22 ?hc_36 ?hk_36 ?hv_36 ?_; (case hc_36 => exact hc); (case hk_36 => rfl); (case hv_36 => rfl)
            refine mm_astore_n (pc := 39) dX4_resolve_39 (by first | trivial | assumption | exact mm_isr_rf _) rfl (Nat.le_of_ble_eq_true rfl) ?_
            refine mm_goto (pc := 40) (tgt := 2) dX4_resolve_40 (by decide) ?_
            refine mm_weakK (ih (xab T x) ?_ ?_ ?_) (And.intro rfl (And.intro rfl (And.intro rfl trivial)))
            · cases hx : xab T x with
              | none => trivial
              | some z => exact Nat.lt_of_lt_of_le (hab x z h2 hx) (by omega)
            · cases hx : xab T x with
              | none => trivial
              | some z => exact Nat.lt_trans (hab x z h2 hx) h2
            · rw [← he, hs]
              rw [hb, bI_eq0.mp c29, show Nat.beq x k = false from by cases hz : Nat.beq x k with
                | true => exact absurd (by rw [Nat.eq_of_beq_eq_true hz]) c20
                | false => rfl]
              rfl
          · refine mm_aload (pc := 32) dX4_resolve_32 rfl (by first | trivial | assumption | exact mm_isr_rf _) ?_
            refine mm_aret (pc := 34) dX4_resolve_34 rfl (Or.inl ⟨_, rfl⟩) (by first | trivial | assumption | exact mm_isr_rf _) ?_
            have hq2 : xsees T q k x = true := by
              cases hz : xsees T q k x with
              | true => rfl
              | false => exact absurd (bI_eq0.mpr hz) c29
            exact ⟨rfl, by rw [← he, hs, hb, hq2, Bool.or_true]; show _ = some (va_rf (xbO T x q)); rw [hb]; rfl⟩

theorem ok_X4_resolve {G : mm_G} {L : Nat × Nat} {d : Nat} {h : mm_H} {T : xk_T} {n k q : Nat} {c0 : Option Nat} (hX : xk h T n) (hk : k < n) (hq : q < 6) (hc0 : kf_lt n c0) : mm_Ok G mX4_resolve L (d + 1) [.ref (xkA T k), .int (nI q), va_rf (c0.map (xkA T))] h (fun r h1 => h1 = h ∧ r = some (va_rf ((kfind (xab T) (fun x => (xbO T x q).isSome && (Nat.beq x k || xsees T q k x)) c0).bind (fun x => xbO T x q)))) := by
  cases hcc : c0 with
  | none =>
    refine mm_Ok.of (av := [.ref (xkA T k), .int (nI q), .null]) [(0, .ref (xkA T k)), (1, .int (nI q)), (2, .null)] rfl kX4_resolve.2.2.2.2.2 rfl (fun A => ?_)
    refine mm_aload_n (pc := 0) dX4_resolve_0 rfl (by first | trivial | assumption | exact mm_isr_rf _) ?_
    refine mm_astore_n (pc := 1) dX4_resolve_1 (by first | trivial | assumption | exact mm_isr_rf _) rfl (Nat.le_of_ble_eq_true rfl) ?_
    exact mm_weakK (xk_resolveL hX hk hq n none (hcc ▸ hc0) (hcc ▸ hc0) rfl) (And.intro rfl (And.intro rfl (And.intro rfl trivial)))
  | some x =>
    refine mm_Ok.of (av := [.ref (xkA T k), .int (nI q), .ref (xkA T x)]) [(0, .ref (xkA T k)), (1, .int (nI q)), (2, .ref (xkA T x))] rfl kX4_resolve.2.2.2.2.2 rfl (fun A => ?_)
    refine mm_aload_n (pc := 0) dX4_resolve_0 rfl (by first | trivial | assumption | exact mm_isr_rf _) ?_
    refine mm_astore_n (pc := 1) dX4_resolve_1 (by first | trivial | assumption | exact mm_isr_rf _) rfl (Nat.le_of_ble_eq_true rfl) ?_
    exact mm_weakK (xk_resolveL hX hk hq n (some x) (hcc ▸ hc0) (hcc ▸ hc0) rfl) (And.intro rfl (And.intro rfl (And.intro rfl trivial)))

