theorem mw_z {v : Int32} (h : v = 0 ∨ v = 1) : narrow .boolean (.int v) = .int v := by rcases h with rfl | rfl <;> rfl
theorem mw_ix (k j : Nat) : (6 : Int32) * nI k + nI j = nI (6 * k + j) := by rw [show (6 : Int32) = nI 6 by decide, pk_mul, nI_add]
/-- the tree of kinds in the reference's memory -/
def rm_T (M : mw_S) (n : Nat) (ab : Nat → Option Nat) : Prop := kf_ok ab n ∧ n ≤ 50 ∧ ∀ i, i < n → M.2.2.1 6 i = oI (ab i)
theorem bI_z (b : Bool) : narrow .boolean (.int (bI b)) = .int (bI b) := by cases b <;> rfl
theorem nI_ne {a b : Nat} (h : ¬ a = b) (ha : a < 2 ^ 31) (hb : b < 2 ^ 31) : ¬ nI a = nI b := fun e => h ((nI_eq ha hb).mp e)
/-- what a kind's body of a hook may see -/
def rm_sees (M : mw_S) (j k u : Nat) : Bool := decide (¬ M.2.2.1 9 (6 * u + j) = 2 ∨ M.2.2.1 5 k = M.2.2.1 5 u)
def rm_has (M : mw_S) (j k : Nat) : Bool := decide (M.2.2.1 8 (6 * k + j) = 1)
theorem rm_seesI (M : mw_S) (j k u : Nat) : (if M.2.2.1 9 (6 * u + j) = 2 then if M.2.2.1 5 k = M.2.2.1 5 u then (1 : Int32) else 0 else 1) = bI (rm_sees M j k u) := by
  unfold rm_sees bI
  by_cases h1 : M.2.2.1 9 (6 * u + j) = 2 <;> by_cases h2 : M.2.2.1 5 k = M.2.2.1 5 u <;> simp [h1, h2]
theorem rm_hasI {M : mw_S} (hB : mw_B M) (j k : Nat) : M.2.2.1 8 (6 * k + j) = bI (rm_has M j k) := by
  unfold rm_has bI
  rcases hB.1 8 (6 * k + j) rfl with h | h <;> rw [h] <;> decide
theorem bI_eq0 {b : Bool} : bI b = 0 ↔ b = false := by cases b <;> decide

theorem ok_X12_answer {G : mm_G} {L : Nat × Nat} {d : Nat} {h h0 : mm_H} {m : Nat} {ad : Nat → Nat} {M : mw_S} {x : Int32} {c : Nat} (hx : x < 0) (hn : -x = nI c) (hc : c < 5) (hW : mw_W m ad h0 M h) : mm_Ok G mX12_answer L (d) [.ref m, .int x] h (fun r h1 => mw_W m ad h0 (mw_setV M 2 c (M.2.2.1 2 c + 1)) h1 ∧ h1.2 = h.2 ∧ r = some (.int x)) := by
  refine mm_Ok.of [(0, .ref m), (1, .int x)] rfl kX12_answer.2.2.2.2.2 rfl (fun A => ?_)
  refine mm_iload_n (pc := 0) dX12_answer_0 rfl ?_
  refine mm_if_ge (pc := 1) (tgt := 15) dX12_answer_1 (by decide) (fun c1 => absurd c1 (by rw [Int32.not_le]; exact hx)) (fun c1 => ?_)
  refine mm_aload_n (pc := 4) dX12_answer_4 rfl (by first | trivial | assumption) ?_
  refine mw_geta (pc := 5) 2 hW dX12_answer_5 fl_X12_13 rfl rfl ?_
  refine mm_iload_n (pc := 8) dX12_answer_8 rfl ?_
  refine mm_ineg (pc := 9) dX12_answer_9 ?_
  refine mm_dup2 (pc := 10) dX12_answer_10 rfl rfl ?_
  refine mw_iald (pc := 11) 2 _ hW dX12_answer_11 rfl rfl (by first | with_reducible rfl | assumption | rfl) (by show _ < 5; omega) (by omega) ?_
  refine mm_iconst (pc := 12) (v := 1) dX12_answer_12 (by decide) ?_
  refine mm_iadd (pc := 13) dX12_answer_13 ?_
  refine mw_iast (pc := 14) 2 _ hW dX12_answer_14 rfl rfl (by first | with_reducible rfl | assumption | rfl) (by show _ < 5; omega) (by omega) (fun h14 hW e14 => ?_)
  refine mm_iload_n (pc := 15) dX12_answer_15 rfl ?_
  refine mm_iret (pc := 16) dX12_answer_16 rfl ?_
  exact ⟨hW, by rw [e14], rfl⟩

theorem ok_X12_hasBody {G : mm_G} {L : Nat × Nat} {d : Nat} {h h0 : mm_H} {m : Nat} {ad : Nat → Nat} {M : mw_S} {k j : Nat} (hk : k < 50) (hj : j < 6) (hW : mw_W m ad h0 M h) : mm_Ok G mX12_hasBody L (d) [.ref m, .int (nI k), .int (nI j)] h (fun r h1 => h1 = h ∧ r = some (.int (bI (rm_has M j k)))) := by
  refine mm_Ok.of [(0, .ref m), (1, .int (nI k)), (2, .int (nI j))] rfl kX12_hasBody.2.2.2.2.2 rfl (fun A => ?_)
  refine mm_aload_n (pc := 0) dX12_hasBody_0 rfl (by first | trivial | assumption) ?_
  refine mw_geta (pc := 1) 8 hW dX12_hasBody_1 fl_X12_32 rfl rfl ?_
  refine mm_bipush (pc := 4) (v := 6) dX12_hasBody_4 (by decide) ?_
  refine mm_iload_n (pc := 6) dX12_hasBody_6 rfl ?_
  refine mm_imul (pc := 7) dX12_hasBody_7 ?_
  refine mm_iload_n (pc := 8) dX12_hasBody_8 rfl ?_
  refine mm_iadd (pc := 9) dX12_hasBody_9 ?_
  refine mw_zald (pc := 10) 8 (6 * k + j) hW dX12_hasBody_10 rfl rfl (mw_ix k j) (by show _ < 300; omega) (by omega) ?_
  refine mm_zret (pc := 11) dX12_hasBody_11 rfl (mw_z (hW.B.1 8 _ rfl)) ?_
  exact ⟨rfl, by rw [rm_hasI hW.B]⟩

theorem ok_X12_maySee {G : mm_G} {L : Nat × Nat} {d : Nat} {h h0 : mm_H} {m : Nat} {ad : Nat → Nat} {M : mw_S} {k j u : Nat} (hk : k < 50) (hj : j < 6) (hu : u < 50) (hW : mw_W m ad h0 M h) : mm_Ok G mX12_maySee L (d) [.ref m, .int (nI k), .int (nI j), .int (nI u)] h (fun r h1 => h1 = h ∧ r = some (.int (bI (rm_sees M j k u)))) := by
  refine mm_Ok.of [(0, .ref m), (1, .int (nI k)), (2, .int (nI j)), (3, .int (nI u))] rfl kX12_maySee.2.2.2.2.2 rfl (fun A => ?_)
  refine mm_aload_n (pc := 0) dX12_maySee_0 rfl (by first | trivial | assumption) ?_
  refine mw_geta (pc := 1) 9 hW dX12_maySee_1 fl_X12_36 rfl rfl ?_
  refine mm_bipush (pc := 4) (v := 6) dX12_maySee_4 (by decide) ?_
  refine mm_iload_n (pc := 6) dX12_maySee_6 rfl ?_
  refine mm_imul (pc := 7) dX12_maySee_7 ?_
  refine mm_iload_n (pc := 8) dX12_maySee_8 rfl ?_
  refine mm_iadd (pc := 9) dX12_maySee_9 ?_
  refine mw_iald (pc := 10) 9 (6 * u + j) hW dX12_maySee_10 rfl rfl (mw_ix u j) (by show _ < 300; omega) (by omega) ?_
  refine mm_iconst (pc := 11) (v := 2) dX12_maySee_11 (by decide) ?_
  refine mm_icmp_ne (pc := 12) (tgt := 30) dX12_maySee_12 (by decide) (fun c12 => ?_) (fun c12 => ?_)
  · refine mm_iconst (pc := 30) (v := 1) dX12_maySee_30 (by decide) ?_
    refine mm_goto (pc := 31) (tgt := 35) dX12_maySee_31 (by decide) ?_
    refine mm_zret (pc := 35) dX12_maySee_35 rfl (by first | rfl | decide) ?_
    exact ⟨rfl, by rw [← rm_seesI]; rw [if_neg c12]⟩
  · refine mm_aload_n (pc := 15) dX12_maySee_15 rfl (by first | trivial | assumption) ?_
    refine mw_geta (pc := 16) 5 hW dX12_maySee_16 fl_X12_23 rfl rfl ?_
    refine mm_iload_n (pc := 19) dX12_maySee_19 rfl ?_
    refine mw_iald (pc := 20) 5 _ hW dX12_maySee_20 rfl rfl (by first | with_reducible rfl | assumption | rfl) (by show _ < 50; omega) (by omega) ?_
    refine mm_aload_n (pc := 21) dX12_maySee_21 rfl (by first | trivial | assumption) ?_
    refine mw_geta (pc := 22) 5 hW dX12_maySee_22 fl_X12_23 rfl rfl ?_
    refine mm_iload_n (pc := 25) dX12_maySee_25 rfl ?_
    refine mw_iald (pc := 26) 5 _ hW dX12_maySee_26 rfl rfl (by first | with_reducible rfl | assumption | rfl) (by show _ < 50; omega) (by omega) ?_
    refine mm_icmp_ne (pc := 27) (tgt := 34) dX12_maySee_27 (by decide) (fun c27 => ?_) (fun c27 => ?_)
    · refine mm_iconst (pc := 34) (v := 0) dX12_maySee_34 (by decide) ?_
      refine mm_zret (pc := 35) dX12_maySee_35 rfl (by first | rfl | decide) ?_
      exact ⟨rfl, by rw [← rm_seesI]; rw [if_pos c12, if_neg c27]⟩
    · refine mm_iconst (pc := 30) (v := 1) dX12_maySee_30 (by decide) ?_
      refine mm_goto (pc := 31) (tgt := 35) dX12_maySee_31 (by decide) ?_
      refine mm_zret (pc := 35) dX12_maySee_35 rfl (by first | rfl | decide) ?_
      exact ⟨rfl, by rw [← rm_seesI]; rw [if_pos c12, if_pos c27]⟩

theorem ok_X12_isUnder {G : mm_G} {L : Nat × Nat} {d : Nat} {h h0 : mm_H} {m : Nat} {ad : Nat → Nat} {M : mw_S} {k j n : Nat} {ab : Nat → Option Nat} (hT : rm_T M n ab) (hk : k < n) (hj : j < 2 ^ 31) (hW : mw_W m ad h0 M h) : mm_Ok G mX12_isUnder L (d) [.ref m, .int (nI k), .int (nI j)] h (fun r h1 => h1 = h ∧ r = some (.int (bI (kfind ab (fun x => Nat.beq x j) (ab k)).isSome))) := by
  refine mm_Ok.of [(0, .ref m), (1, .int (nI k)), (2, .int (nI j))] rfl kX12_isUnder.2.2.2.2.2 rfl (fun A => ?_)
  obtain ⟨hab, hn50, hV⟩ := hT
  have lp_ : ∀ (f : Nat) (c : Option Nat), kf_lt f c → kf_lt n c → kfind ab (fun x => Nat.beq x j) c = kfind ab (fun x => Nat.beq x j) (ab k) → mm_Run G mX12_isUnder A L d 7 [(3, .int (oI c)), (0, .ref m), (2, .int (nI j))] [] h (fun r h1 => h1 = h ∧ r = some (.int (bI (kfind ab (fun x => Nat.beq x j) (ab k)).isSome))) := by
    intro f
    induction f with
    | zero =>
      intro c h1 h2 he
      cases c with
      | none =>
        refine mm_iload_n (pc := 7) dX12_isUnder_7 rfl ?_
        refine mm_if_lt (pc := 8) (tgt := 26) dX12_isUnder_8 (by decide) (fun c8 => ?_) (fun c8 => absurd oI_neg c8)
        refine mm_iload_n (pc := 26) dX12_isUnder_26 rfl ?_
        refine mm_if_lt (pc := 27) (tgt := 34) dX12_isUnder_27 (by decide) (fun c27 => ?_) (fun c27 => absurd oI_neg c27)
        refine mm_iconst (pc := 34) (v := 0) dX12_isUnder_34 (by decide) ?_
        refine mm_zret (pc := 35) dX12_isUnder_35 rfl (by rfl) ?_
        exact ⟨rfl, by rw [← he]; rfl⟩
      | some x => exact absurd h1 (Nat.not_lt_zero x)
    | succ f ih =>
      intro c h1 h2 he
      cases c with
      | none =>
        refine mm_iload_n (pc := 7) dX12_isUnder_7 rfl ?_
        refine mm_if_lt (pc := 8) (tgt := 26) dX12_isUnder_8 (by decide) (fun c8 => ?_) (fun c8 => absurd oI_neg c8)
        refine mm_iload_n (pc := 26) dX12_isUnder_26 rfl ?_
        refine mm_if_lt (pc := 27) (tgt := 34) dX12_isUnder_27 (by decide) (fun c27 => ?_) (fun c27 => absurd oI_neg c27)
        refine mm_iconst (pc := 34) (v := 0) dX12_isUnder_34 (by decide) ?_
        refine mm_zret (pc := 35) dX12_isUnder_35 rfl (by rfl) ?_
        exact ⟨rfl, by rw [← he]; rfl⟩
      | some x =>
        have h1 : x < f + 1 := h1
        have h2 : x < n := h2
        have hs := kfind_some (P := fun x => Nat.beq x j) hab (by omega) h2
        refine mm_iload_n (pc := 7) dX12_isUnder_7 rfl ?_
        refine mm_if_lt (pc := 8) (tgt := 26) dX12_isUnder_8 (by decide) (fun c8 => absurd c8 (oI_pos (by omega))) (fun c8 => ?_)
        refine mm_iload_n (pc := 11) dX12_isUnder_11 rfl ?_
        refine mm_iload_n (pc := 12) dX12_isUnder_12 rfl ?_
        refine mm_icmp_eq (pc := 13) (tgt := 26) dX12_isUnder_13 (by decide) (fun c13 => ?_) (fun c13 => ?_)
        · refine mm_iload_n (pc := 26) dX12_isUnder_26 rfl ?_
          refine mm_if_lt (pc := 27) (tgt := 34) dX12_isUnder_27 (by decide) (fun c27 => absurd c27 (oI_pos (by omega))) (fun c27 => ?_)
          have ej : x = j := (nI_eq (by omega) (by omega)).mp c13
          refine mm_iconst (pc := 30) (v := 1) dX12_isUnder_30 (by decide) ?_
          refine mm_goto (pc := 31) (tgt := 35) dX12_isUnder_31 (by decide) ?_
          refine mm_zret (pc := 35) dX12_isUnder_35 rfl (by rfl) ?_
          rw [show Nat.beq x j = true from Nat.beq_eq.mpr ej] at hs
          exact ⟨rfl, by rw [← he, hs]; rfl⟩
        · have ej : ¬ x = j := fun e => c13 (by rw [e]; rfl)
          refine mm_aload_n (pc := 16) dX12_isUnder_16 rfl (by first | trivial | assumption) ?_
          refine mw_geta (pc := 17) 6 hW dX12_isUnder_17 fl_X12_26 rfl rfl ?_
          refine mm_iload_n (pc := 20) dX12_isUnder_20 rfl ?_
          refine mw_iald (pc := 21) 6 x hW dX12_isUnder_21 rfl rfl (by first | with_reducible rfl | assumption | rfl) (by show _ < 50; omega) (by omega) ?_
          refine mm_istore_n (pc := 22) dX12_isUnder_22 rfl (Nat.le_of_ble_eq_true rfl) ?_
          refine mm_goto (pc := 23) (tgt := 7) dX12_isUnder_23 (by decide) ?_
          rw [hV x h2]
          refine mm_weakK (ih (ab x) ?_ ?_ ?_) (And.intro rfl (And.intro rfl (And.intro rfl trivial)))
          · cases hx : ab x with
            | none => trivial
            | some z => exact Nat.lt_of_lt_of_le (hab x z h2 hx) (by omega)
          · cases hx : ab x with
            | none => trivial
            | some z => exact Nat.lt_trans (hab x z h2 hx) h2
          · rw [← he, hs, show Nat.beq x j = false from by cases hq : Nat.beq x j with
              | true => exact absurd (Nat.eq_of_beq_eq_true hq) ej
              | false => rfl]
            rfl
  refine mm_aload_n (pc := 0) dX12_isUnder_0 rfl (by first | trivial | assumption) ?_
  refine mw_geta (pc := 1) 6 hW dX12_isUnder_1 fl_X12_26 rfl rfl ?_
  refine mm_iload_n (pc := 4) dX12_isUnder_4 rfl ?_
  refine mw_iald (pc := 5) 6 k hW dX12_isUnder_5 rfl rfl (by first | with_reducible rfl | assumption | rfl) (by show _ < 50; omega) (by omega) ?_
  refine mm_istore_n (pc := 6) dX12_isUnder_6 rfl (Nat.le_of_ble_eq_true rfl) ?_
  rw [hV k hk]
  refine mm_weakK (lp_ k (ab k) ?_ ?_ rfl) (And.intro rfl (And.intro rfl (And.intro rfl trivial)))
  · cases hx : ab k with
    | none => trivial
    | some z => exact hab k z hk hx
  · cases hx : ab k with
    | none => trivial
    | some z => exact Nat.lt_trans (hab k z hk hx) hk

theorem ok_X12_find {G : mm_G} {L : Nat × Nat} {d : Nat} {h h0 : mm_H} {m : Nat} {ad : Nat → Nat} {M : mw_S} {k j n : Nat} {ab : Nat → Option Nat} {c0 : Option Nat} (hT : rm_T M n ab) (hk : k < n) (hj : j < 6) (hc0 : kf_lt n c0) (hW : mw_W m ad h0 M h) : mm_Ok G mX12_find L (d + 1) [.ref m, .int (nI k), .int (nI j), .int (oI c0)] h (fun r h1 => h1 = h ∧ r = some (.int (oI (kfind ab (fun x => rm_has M j x && (Nat.beq x k || rm_sees M j k x)) c0)))) := by
  refine mm_Ok.of [(0, .ref m), (1, .int (nI k)), (2, .int (nI j)), (3, .int (oI c0))] rfl kX12_find.2.2.2.2.2 rfl (fun A => ?_)
  obtain ⟨hab, hn50, hV⟩ := hT
  have lp_ : ∀ (f : Nat) (c : Option Nat), kf_lt f c → kf_lt n c → kfind ab (fun x => rm_has M j x && (Nat.beq x k || rm_sees M j k x)) c = kfind ab (fun x => rm_has M j x && (Nat.beq x k || rm_sees M j k x)) c0 → mm_Run G mX12_find A L (d + 1) 3 [(4, .int (oI c)), (0, .ref m), (1, .int (nI k)), (2, .int (nI j))] [] h (fun r h1 => h1 = h ∧ r = some (.int (oI (kfind ab (fun x => rm_has M j x && (Nat.beq x k || rm_sees M j k x)) c0)))) := by
    intro f
    induction f with
    | zero =>
      intro c h1 h2 he
      cases c with
      | none =>
        refine mm_iload (pc := 3) dX12_find_3 rfl ?_
        refine mm_if_lt (pc := 5) (tgt := 50) dX12_find_5 (by decide) (fun c5 => ?_) (fun c5 => absurd oI_neg c5)
        refine mm_iconst (pc := 50) (v := (-1)) dX12_find_50 (by decide) ?_
        refine mm_iret (pc := 51) dX12_find_51 rfl ?_
        exact ⟨rfl, by rw [← he]; rfl⟩
      | some x => exact absurd h1 (Nat.not_lt_zero x)
    | succ f ih =>
      intro c h1 h2 he
      cases c with
      | none =>
        refine mm_iload (pc := 3) dX12_find_3 rfl ?_
        refine mm_if_lt (pc := 5) (tgt := 50) dX12_find_5 (by decide) (fun c5 => ?_) (fun c5 => absurd oI_neg c5)
        refine mm_iconst (pc := 50) (v := (-1)) dX12_find_50 (by decide) ?_
        refine mm_iret (pc := 51) dX12_find_51 rfl ?_
        exact ⟨rfl, by rw [← he]; rfl⟩
      | some x =>
        have h1 : x < f + 1 := h1
        have h2 : x < n := h2
        have hs := kfind_some (P := (fun x => rm_has M j x && (Nat.beq x k || rm_sees M j k x))) hab (by omega) h2
        refine mm_iload (pc := 3) dX12_find_3 rfl ?_
        refine mm_if_lt (pc := 5) (tgt := 50) dX12_find_5 (by decide) (fun c5 => absurd c5 (oI_pos (by omega))) (fun c5 => ?_)
        refine mm_aload_n (pc := 8) dX12_find_8 rfl (by first | trivial | assumption) ?_
        refine mm_iload (pc := 9) dX12_find_9 rfl ?_
        refine mm_iload_n (pc := 11) dX12_find_11 rfl ?_
        refine mm_callV (pc := 12) (As := [_, _]) (kd := ?kd_12) (fs := ?fs_12) dX12_find_12 vl_X12_196 (ok_X12_hasBody (k := x) (j := j) (by omega) hj hW) ?hc_12 ?hk_12 rfl rfl (Nat.le_of_ble_eq_true rfl) ?_; (case hc_12 => exact hW.1); (case hk_12 => rfl)
        rintro _ _ ⟨rfl, rfl⟩
        refine mm_if_eq (pc := 15) (tgt := 38) dX12_find_15 (by decide) (fun c15 => ?_) (fun c15 => ?_)
        · refine mm_aload_n (pc := 38) dX12_find_38 rfl (by first | trivial | assumption) ?_
          refine mw_geta (pc := 39) 6 hW dX12_find_39 fl_X12_26 rfl rfl ?_
          refine mm_iload (pc := 42) dX12_find_42 rfl ?_
          refine mw_iald (pc := 44) 6 x hW dX12_find_44 rfl rfl (by first | with_reducible rfl | assumption | rfl) (by show _ < 50; omega) (by omega) ?_
          refine mm_istore (pc := 45) dX12_find_45 rfl (Nat.le_of_ble_eq_true rfl) ?_
          refine mm_goto (pc := 47) (tgt := 3) dX12_find_47 (by decide) ?_
          rw [hV x h2]
          refine mm_weakK (ih (ab x) ?_ ?_ ?_) (And.intro rfl (And.intro rfl (And.intro rfl (And.intro rfl trivial))))
          · cases hx : ab x with
            | none => trivial
            | some z => exact Nat.lt_of_lt_of_le (hab x z h2 hx) (by omega)
          · cases hx : ab x with
            | none => trivial
            | some z => exact Nat.lt_trans (hab x z h2 hx) h2
          · rw [← he, hs]
            rw [bI_eq0.mp c15]
            rfl
        · refine mm_iload (pc := 18) dX12_find_18 rfl ?_
          refine mm_iload_n (pc := 20) dX12_find_20 rfl ?_
          refine mm_icmp_eq (pc := 21) (tgt := 35) dX12_find_21 (by decide) (fun c21 => ?_) (fun c21 => ?_)
          · refine mm_iload (pc := 35) dX12_find_35 rfl ?_
            refine mm_iret (pc := 37) dX12_find_37 rfl ?_
            have ek : x = k := (nI_eq (by omega) (by omega)).mp c21
            have hh : rm_has M j x = true := by cases hq : rm_has M j x with
              | true => rfl
              | false => exact absurd (bI_eq0.mpr hq) c15
            exact ⟨rfl, by rw [← he, hs, hh, show Nat.beq x k = true from Nat.beq_eq.mpr ek]; rfl⟩
          · refine mm_aload_n (pc := 24) dX12_find_24 rfl (by first | trivial | assumption) ?_
            refine mm_iload_n (pc := 25) dX12_find_25 rfl ?_
            refine mm_iload_n (pc := 26) dX12_find_26 rfl ?_
            refine mm_iload (pc := 27) dX12_find_27 rfl ?_
            refine mm_callV (pc := 29) (As := [_, _, _]) (kd := ?kd_29) (fs := ?fs_29) dX12_find_29 vl_X12_199 (ok_X12_maySee (k := k) (j := j) (u := x) (by omega) hj (by omega) hW) ?hc_29 ?hk_29 rfl rfl (Nat.le_of_ble_eq_true rfl) ?_; (case hc_29 => exact hW.1); (case hk_29 => rfl)
            rintro _ _ ⟨rfl, rfl⟩
            refine mm_if_eq (pc := 32) (tgt := 38) dX12_find_32 (by decide) (fun c32 => ?_) (fun c32 => ?_)
            · refine mm_aload_n (pc := 38) dX12_find_38 rfl (by first | trivial | assumption) ?_
              refine mw_geta (pc := 39) 6 hW dX12_find_39 fl_X12_26 rfl rfl ?_
              refine mm_iload (pc := 42) dX12_find_42 rfl ?_
              refine mw_iald (pc := 44) 6 x hW dX12_find_44 rfl rfl (by first | with_reducible rfl | assumption | rfl) (by show _ < 50; omega) (by omega) ?_
              refine mm_istore (pc := 45) dX12_find_45 rfl (Nat.le_of_ble_eq_true rfl) ?_
              refine mm_goto (pc := 47) (tgt := 3) dX12_find_47 (by decide) ?_
              rw [hV x h2]
              refine mm_weakK (ih (ab x) ?_ ?_ ?_) (And.intro rfl (And.intro rfl (And.intro rfl (And.intro rfl trivial))))
              · cases hx : ab x with
                | none => trivial
                | some z => exact Nat.lt_of_lt_of_le (hab x z h2 hx) (by omega)
              · cases hx : ab x with
                | none => trivial
                | some z => exact Nat.lt_trans (hab x z h2 hx) h2
              · rw [← he, hs]
                rw [bI_eq0.mp c32, show Nat.beq x k = false from by cases hq : Nat.beq x k with
                  | true => exact absurd (congrArg nI (Nat.eq_of_beq_eq_true hq)) c21
                  | false => rfl]
                cases rm_has M j x <;> rfl
            · refine mm_iload (pc := 35) dX12_find_35 rfl ?_
              refine mm_iret (pc := 37) dX12_find_37 rfl ?_
              have hh : rm_has M j x = true := by cases hq : rm_has M j x with
                | true => rfl
                | false => exact absurd (bI_eq0.mpr hq) c15
              have hq : rm_sees M j k x = true := by cases hq : rm_sees M j k x with
                | true => rfl
                | false => exact absurd (bI_eq0.mpr hq) c32
              exact ⟨rfl, by rw [← he, hs, hh, hq, Bool.or_true]; rfl⟩
  refine mm_iload_n (pc := 0) dX12_find_0 rfl ?_
  refine mm_istore (pc := 1) dX12_find_1 rfl (Nat.le_of_ble_eq_true rfl) ?_
  exact mm_weakK (lp_ n c0 hc0 hc0 rfl) (And.intro rfl (And.intro rfl (And.intro rfl (And.intro rfl trivial))))
