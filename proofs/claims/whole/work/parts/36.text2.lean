/-! word of the reference -/
def rm_word (M : mw_S) (tb : Nat → Nat) (n q : Nat) : mw_S := mw_setS (mw_setS (mw_setS (mw_setS M 26 (nI (tkT tb n q))) 27 (nI q)) 28 (nI (tkT tb n q))) 29 (nI (tkK tb n q))
theorem mw_word {m : Nat} {ad : Nat → Nat} {h0 h : mm_H} {M M1 : mw_S} {tb : Nat → Nat} {n q : Nat} (hW : mw_W m ad h0 M1 h) (h2 : M1.2 = M.2) (h26 : M1.1 26 = nI (tkT tb n q)) (h27 : M1.1 27 = nI q) (h28 : M1.1 28 = nI (tkT tb n q)) (h29 : M1.1 29 = nI (tkK tb n q)) (ho : ∀ j, ¬ j = 26 → ¬ j = 27 → ¬ j = 28 → ¬ j = 29 → M1.1 j = M.1 j) : mw_W m ad h0 (rm_word M tb n q) h := by
  have e : M1 = rm_word M tb n q := by
    refine Prod.ext (funext fun j => ?_) h2
    show M1.1 j = mw_u (mw_u (mw_u (mw_u M.1 26 (nI (tkT tb n q))) 27 (nI q)) 28 (nI (tkT tb n q))) 29 (nI (tkK tb n q)) j
    unfold mw_u
    by_cases a : j = 29
    · rw [if_pos a, a, h29]
    · rw [if_neg a]
      by_cases b : j = 28
      · rw [if_pos b, b, h28]
      · rw [if_neg b]
        by_cases c : j = 27
        · rw [if_pos c, c, h27]
        · rw [if_neg c]
          by_cases d : j = 26
          · rw [if_pos d, d, h26]
          · rw [if_neg d, ho j d c b a]
  rw [← e]
  exact hW
theorem mw_setS2 (M : mw_S) (j : Nat) (x y : Int32) : mw_setS (mw_setS M j x) j y = mw_setS M j y := by
  unfold mw_setS
  refine Prod.ext (funext fun i => ?_) rfl
  show mw_u (mw_u M.1 j x) j y i = mw_u M.1 j y i
  unfold mw_u
  by_cases e : i = j
  · rw [if_pos e, if_pos e]
  · rw [if_neg e, if_neg e, if_neg e]
/-- the byte at k, or -1 -/
def bA (tb : Nat → Nat) (n k : Nat) : Int32 := if k < n then nI (tb k) else -1
theorem ok_byteA {G : mm_G} {L : Nat × Nat} {d : Nat} {h h0 : mm_H} {m : Nat} {ad : Nat → Nat} {M : mw_S} {tb : Nat → Nat} {n k : Nat} (hs : M.1 1 = nI n) (hn : n ≤ 800) (htp : tp M tb) (hk : k ≤ 800) (hW : mw_W m ad h0 M h) : mm_Ok G mX12_byteAt L d [.ref m, .int (nI k)] h (fun r h1 => h1 = h ∧ r = some (.int (bA tb n k))) := by
  refine (ok_X12_byteAt hs hn hk hW).post ?_
  rintro r h1 ⟨rfl, rfl⟩
  refine ⟨rfl, ?_⟩
  unfold bA
  by_cases hkn : k < n
  · rw [if_neg (by rw [hs]; exact nI_ge hkn (by omega)), if_pos hkn, (htp k).2, (bt_f _ (htp k).1).1]
  · rw [if_pos (by rw [hs]; exact nI_le (by omega) (by omega)), if_neg hkn]
theorem bA_lt {tb : Nat → Nat} {n k : Nat} (htb : ∀ i, tb i < 256) : ¬ 0 ≤ bA tb n k ↔ n ≤ k := by
  unfold bA
  by_cases hk : k < n
  · rw [if_pos hk]
    exact ⟨fun z => absurd (nI_pos' (by have := htb k; omega)) z, fun z => by omega⟩
  · rw [if_neg hk]
    exact ⟨fun _ => by omega, fun _ => by decide⟩
theorem bA_eq {tb : Nat → Nat} {n k c : Nat} (htb : ∀ i, tb i < 256) (hc : c < 256) : bA tb n k = nI c ↔ (k < n ∧ tb k = c) := by
  unfold bA
  by_cases hk : k < n
  · rw [if_pos hk, nI_eq (by have := htb k; omega) (by omega)]
    exact ⟨fun z => ⟨hk, z⟩, fun z => z.2⟩
  · rw [if_neg hk]
    exact ⟨fun z => absurd (show nI c < 0 by rw [← z]; decide) (nI_pos (by omega)), fun z => absurd z.1 hk⟩
theorem bA_in {tb : Nat → Nat} {n k a b : Nat} {x y : Int32} (htb : ∀ i, tb i < 256) (ha : a < 256) (hb : b < 256) (hx : x = nI a) (hy : y = nI b) : (if bA tb n k < x then (0 : Int32) else if y < bA tb n k then 0 else 1) = bI (decide (k < n ∧ (Nat.ble a (tb k) && Nat.ble (tb k) b) = true)) := by
  subst hx hy
  unfold bA
  have := htb k
  by_cases hk : k < n
  · rw [if_pos hk]
    by_cases h1 : tb k < a
    · rw [if_pos (nI_lt h1 (by omega)), decide_eq_false (fun z => by have := Nat.le_of_ble_eq_true (Bool.and_eq_true_iff.mp z.2).1; omega)]
      rfl
    · rw [if_neg (nI_nlt (by omega) (by omega))]
      by_cases h2 : b < tb k
      · rw [if_pos (nI_lt h2 (by omega)), decide_eq_false (fun z => by have := Nat.le_of_ble_eq_true (Bool.and_eq_true_iff.mp z.2).2; omega)]
        rfl
      · rw [if_neg (nI_nlt (by omega) (by omega)), decide_eq_true ⟨hk, Bool.and_eq_true_iff.mpr ⟨Nat.ble_eq_true_of_le (by omega), Nat.ble_eq_true_of_le (by omega)⟩⟩]
        rfl
  · rw [if_neg hk, decide_eq_false (fun z => hk z.1)]
    have : (-1 : Int32) < nI a := by
      rw [Int32.lt_iff_toInt_lt, nI_toInt (by omega)]
      have : (-1 : Int32).toInt = -1 := by decide
      omega
    rw [if_pos this]
    rfl
theorem ok_letA {G : mm_G} {L : Nat × Nat} {d : Nat} {h : mm_H} {tb : Nat → Nat} {n k : Nat} (htb : ∀ i, tb i < 256) : mm_Ok G mX12_isLetter L d [.int (bA tb n k)] h (fun r h1 => h1 = h ∧ r = some (.int (bI (decide (k < n ∧ isL (tb k) = true))))) := by
  refine ok_X12_isLetter.post ?_
  rintro r h1 ⟨rfl, rfl⟩
  exact ⟨rfl, by rw [bA_in (a := 97) (b := 122) htb (by decide) (by decide) (by decide) (by decide)]; rfl⟩
theorem ok_figA {G : mm_G} {L : Nat × Nat} {d : Nat} {h : mm_H} {tb : Nat → Nat} {n k : Nat} (htb : ∀ i, tb i < 256) : mm_Ok G mX12_isFigure L d [.int (bA tb n k)] h (fun r h1 => h1 = h ∧ r = some (.int (bI (decide (k < n ∧ isF (tb k) = true))))) := by
  refine ok_X12_isFigure.post ?_
  rintro r h1 ⟨rfl, rfl⟩
  exact ⟨rfl, by rw [bA_in (a := 48) (b := 57) htb (by decide) (by decide) (by decide) (by decide)]; rfl⟩
theorem bI_d {p : Prop} [Decidable p] : bI (decide p) = 0 ↔ ¬ p := by rw [bI_eq0, decide_eq_false_iff_not]

theorem ok_X12_word {G : mm_G} {L : Nat × Nat} {d : Nat} {h h0 : mm_H} {m : Nat} {ad : Nat → Nat} {M : mw_S} {tb : Nat → Nat} {n p q : Nat} (hs : M.1 1 = nI n) (hn : n ≤ 800) (hp : M.1 26 = nI p) (hpn : p ≤ n) (htp : tp M tb) (hq : tkF tb n p = q) (hW : mw_W m ad h0 M h) : mm_Ok G mX12_word L (d + 1) [.ref m] h (fun r h1 => mw_W m ad h0 (rm_word M tb n q) h1 ∧ h1.2 = h.2 ∧ r = none) := by
  refine mm_Ok.of [(0, .ref m)] rfl kX12_word.2.2.2.2.2 rfl (fun A => ?_)
  have hqn := (lx_spec (P := isBl) (tb := tb) (n := n) (n - p) p rfl hpn).2.1
  have hqp := (lx_spec (P := isBl) (tb := tb) (n := n) (n - p) p rfl hpn).1
  rw [show lx isBl tb n p = q from hq] at hqn hqp
  have lpW_ : ∀ (to : Nat) (M1 : mw_S) (h1 : mm_H), M1.2 = M.2 → M1.1 26 = nI q → M1.1 27 = nI q → M1.1 29 = nI (tkK tb n q) → (∀ j, ¬ j = 26 → ¬ j = 27 → ¬ j = 28 → ¬ j = 29 → M1.1 j = M.1 j) → (tkK tb n q = 1 → tkT tb n q = q) → (¬ tkK tb n q = 1 → to = tkT tb n q) → mw_W m ad h0 M1 h1 → h1.2 = h.2 → mm_Run G mX12_word A L (d + 1) 197 [(2, .int (nI to)), (0, .ref m)] [] h1 (fun r h1 => mw_W m ad h0 (rm_word M tb n q) h1 ∧ h1.2 = h.2 ∧ r = none) := by
    intro to M1 h1 g2 g26 g27 g29 go hT1 hTo hW eh
    refine mm_aload_n (pc := 197) dX12_word_197 rfl (by first | trivial | assumption | exact mm_isr_rf _) ?_
    refine mm_aload_n (pc := 198) dX12_word_198 rfl (by first | trivial | assumption | exact mm_isr_rf _) ?_
    refine mw_gets (pc := 199) 29 hW dX12_word_199 fl_X12_215 rfl rfl ?_
    refine mm_iconst (pc := 202) (v := 1) dX12_word_202 (by decide) ?_
    refine mm_icmp_ne (pc := 203) (tgt := 213) dX12_word_203 (by decide) (fun c203 => ?_) (fun c203 => ?_)
    · have ht : nI to = nI (tkT tb n q) := by
        rw [hTo (fun z => c203 (by rw [g29, z]; decide))]
      refine mm_iload_n (pc := 213) dX12_word_213 rfl ?_
      refine mw_put (pc := 214) 28 hW dX12_word_214 (pl_X12_225 _) rfl (fun h214 hW e214 => ?_)
      refine mm_aload_n (pc := 217) dX12_word_217 rfl (by first | trivial | assumption | exact mm_isr_rf _) ?_
      refine mm_aload_n (pc := 218) dX12_word_218 rfl (by first | trivial | assumption | exact mm_isr_rf _) ?_
      refine mw_gets (pc := 219) 28 hW dX12_word_219 fl_X12_225 rfl rfl ?_
      refine mw_put (pc := 222) 26 hW dX12_word_222 (pl_X12_206 _) rfl (fun h222 hW e222 => ?_)
      refine mm_vret (pc := 225) dX12_word_225 rfl ?_
      refine ⟨mw_word hW ?_ ?_ ?_ ?_ ?_ ?_, by rw [e222, e214, eh], rfl⟩
      · exact g2
      · exact ht
      · exact g27
      · exact ht
      · exact g29
      · intro j a b c d2
        show mw_u (mw_u M1.1 28 (nI to)) 26 (nI to) j = _
        rw [mw_u_ne _ _ a, mw_u_ne _ _ c]
        exact go j a b c d2
    · have hq1 : nI q = nI (tkT tb n q) := by
        rw [hT1 ((nI_eq (a := tkK tb n q) (b := 1) (by have := tkK_lt tb n q; omega) (by decide)).mp (g29.symm.trans c203))]
      refine mm_aload_n (pc := 206) dX12_word_206 rfl (by first | trivial | assumption | exact mm_isr_rf _) ?_
      refine mw_gets (pc := 207) 26 hW dX12_word_207 fl_X12_206 rfl rfl ?_
      refine mm_goto (pc := 210) (tgt := 214) dX12_word_210 (by decide) ?_
      refine mw_put (pc := 214) 28 hW dX12_word_214 (pl_X12_225 _) rfl (fun h214 hW e214 => ?_)
      refine mm_aload_n (pc := 217) dX12_word_217 rfl (by first | trivial | assumption | exact mm_isr_rf _) ?_
      refine mm_aload_n (pc := 218) dX12_word_218 rfl (by first | trivial | assumption | exact mm_isr_rf _) ?_
      refine mw_gets (pc := 219) 28 hW dX12_word_219 fl_X12_225 rfl rfl ?_
      refine mw_put (pc := 222) 26 hW dX12_word_222 (pl_X12_206 _) rfl (fun h222 hW e222 => ?_)
      refine mm_vret (pc := 225) dX12_word_225 rfl ?_
      refine ⟨mw_word hW ?_ ?_ ?_ ?_ ?_ ?_, by rw [e222, e214, eh], rfl⟩
      · exact g2
      · exact (g26.trans hq1)
      · exact g27
      · exact (g26.trans hq1)
      · exact g29
      · intro j a b c d2
        show mw_u (mw_u M1.1 28 (M1.1 26)) 26 (M1.1 26) j = _
        rw [mw_u_ne _ _ a, mw_u_ne _ _ c]
        exact go j a b c d2
  have lpL_ :  q < n → isL (tb q) = true → ∀ (v t : Nat), t + v = n → q ≤ t → t ≤ n → lx isL tb n t = lx isL tb n q → ∀ (h1 : mm_H), mw_W m ad h0 (mw_setS (mw_setS (mw_setS M 26 (nI q)) 27 (nI q)) 29 1) h1 → h1.2 = h.2 → mm_Run G mX12_word A L (d + 1) 81 [(2, .int (nI t)), (0, .ref m)] [] h1 (fun r h1 => mw_W m ad h0 (rm_word M tb n q) h1 ∧ h1.2 = h.2 ∧ r = none) := by
    intro  hqn hqP v
    induction v with
    | zero =>
      intro t ht hqt htn hle h1 hW eh
      have hst : ¬ (t < n ∧ isL (tb t) = true) := by omega
      have hle : t = lx isL tb n q := by rw [← hle, lx_stop hst]
      refine mm_aload_n (pc := 81) dX12_word_81 rfl (by first | trivial | assumption | exact mm_isr_rf _) ?_
      refine mm_iload_n (pc := 82) dX12_word_82 rfl ?_
      refine mm_callV (pc := 83) (As := [_]) (kd := ?kd_83_1) (fs := ?fs_83_1) dX12_word_83 vl_X12_209 (ok_byteA (M := mw_setS (mw_setS (mw_setS M 26 (nI q)) 27 (nI q)) 29 1) hs hn htp (k := t) (by omega) hW) ?hc_83_1 ?hk_83_1 rfl rfl (Nat.le_of_ble_eq_true rfl) ?_; (case hc_83_1 => exact hW.1); (case hk_83_1 => rfl)
      rintro _ _ ⟨rfl, rfl⟩
      refine mm_callS (pc := 86) (As := [_]) dX12_word_86 sl_X12_218 (ok_letA (n := n) (k := t) (fun i => (htp i).1)) rfl rfl (Nat.le_of_ble_eq_true rfl) ?_
      rintro _ _ ⟨rfl, rfl⟩
      refine mm_if_eq (pc := 89) (tgt := 98) dX12_word_89 (by decide) (fun c89 => ?_) (fun c89 => absurd (bI_d.mpr hst) c89)
      refine mm_aload_n (pc := 98) dX12_word_98 rfl (by first | trivial | assumption | exact mm_isr_rf _) ?_
      refine mm_iload_n (pc := 99) dX12_word_99 rfl ?_
      refine mm_aload_n (pc := 100) dX12_word_100 rfl (by first | trivial | assumption | exact mm_isr_rf _) ?_
      refine mw_gets (pc := 101) 26 hW dX12_word_101 fl_X12_206 rfl rfl ?_
      refine mm_isub (pc := 104) dX12_word_104 ?_
      refine mm_topi (nI (t - q)) (show nI t - nI q = nI (t - q) by rw [← Int32.add_left_inj (nI q), Int32.sub_add_cancel, nI_add, show t - q + q = t by omega]) ?_
      refine mm_bipush (pc := 105) (v := 8) dX12_word_105 (by decide) ?_
      refine mm_icmp_gt (pc := 107) (tgt := 114) dX12_word_107 (by decide) (fun c107 => ?_) (fun c107 => ?_)
      · refine mm_iconst (pc := 114) (v := 1) dX12_word_114 (by decide) ?_
        refine mw_put (pc := 115) 29 hW dX12_word_115 (pl_X12_215 _) rfl (fun h115 hW e115 => ?_)
        refine mm_goto (pc := 118) (tgt := 197) dX12_word_118 (by decide) ?_
        have hK : tkK tb n q = 1 := by
          unfold tkK
          rw [if_neg (by omega), if_pos hqP, if_neg (by rw [← hle]; have hz := (nI_ltI (a := 8) (by decide) (by omega)).mp c107; omega)]
        refine mm_weakK (lpW_ t (mw_setS (mw_setS (mw_setS (mw_setS M 26 (nI q)) 27 (nI q)) 29 1) 29 1) h115 rfl rfl rfl (by show (1 : Int32) = nI (tkK tb n q); rw [hK]; decide) (fun j a b c d2 => ?_) (fun z => ?_) (fun z => ?_) hW (by rw [e115, eh])) (And.intro rfl (And.intro rfl trivial))
        · show mw_u (mw_u (mw_u (mw_u M.1 26 (nI q)) 27 (nI q)) 29 1) 29 1 j = _
          rw [mw_u_ne _ _ d2, mw_u_ne _ _ d2, mw_u_ne _ _ b, mw_u_ne _ _ a]
        · unfold tkT
          rw [if_neg (by omega), if_neg (by omega), if_neg (by omega)]
        · exact absurd hK z
      · refine mm_iconst (pc := 110) (v := 2) dX12_word_110 (by decide) ?_
        refine mm_goto (pc := 111) (tgt := 115) dX12_word_111 (by decide) ?_
        refine mw_put (pc := 115) 29 hW dX12_word_115 (pl_X12_215 _) rfl (fun h115 hW e115 => ?_)
        refine mm_goto (pc := 118) (tgt := 197) dX12_word_118 (by decide) ?_
        have hK : tkK tb n q = 2 := by
          unfold tkK
          rw [if_neg (by omega), if_pos hqP, if_pos (by rw [← hle]; have hz := Nat.not_lt.mp (fun z => c107 (nI_lt (a := 8) z (by omega))); omega)]
        refine mm_weakK (lpW_ t (mw_setS (mw_setS (mw_setS (mw_setS M 26 (nI q)) 27 (nI q)) 29 1) 29 2) h115 rfl rfl rfl (by show (2 : Int32) = nI (tkK tb n q); rw [hK]; decide) (fun j a b c d2 => ?_) (fun z => ?_) (fun z => ?_) hW (by rw [e115, eh])) (And.intro rfl (And.intro rfl trivial))
        · show mw_u (mw_u (mw_u (mw_u M.1 26 (nI q)) 27 (nI q)) 29 1) 29 2 j = _
          rw [mw_u_ne _ _ d2, mw_u_ne _ _ d2, mw_u_ne _ _ b, mw_u_ne _ _ a]
        · unfold tkT
          rw [if_neg (by omega), if_neg (by omega), if_neg (by omega)]
        · unfold tkT
          rw [if_pos hK]
          exact hle
    | succ v ih =>
      intro t ht hqt htn hle h1 hW eh
      by_cases hgo : t < n ∧ isL (tb t) = true
      ·
        refine mm_aload_n (pc := 81) dX12_word_81 rfl (by first | trivial | assumption | exact mm_isr_rf _) ?_
        refine mm_iload_n (pc := 82) dX12_word_82 rfl ?_
        refine mm_callV (pc := 83) (As := [_]) (kd := ?kd_83_2) (fs := ?fs_83_2) dX12_word_83 vl_X12_209 (ok_byteA (M := mw_setS (mw_setS (mw_setS M 26 (nI q)) 27 (nI q)) 29 1) hs hn htp (k := t) (by omega) hW) ?hc_83_2 ?hk_83_2 rfl rfl (Nat.le_of_ble_eq_true rfl) ?_; (case hc_83_2 => exact hW.1); (case hk_83_2 => rfl)
        rintro _ _ ⟨rfl, rfl⟩
        refine mm_callS (pc := 86) (As := [_]) dX12_word_86 sl_X12_218 (ok_letA (n := n) (k := t) (fun i => (htp i).1)) rfl rfl (Nat.le_of_ble_eq_true rfl) ?_
        rintro _ _ ⟨rfl, rfl⟩
        refine mm_if_eq (pc := 89) (tgt := 98) dX12_word_89 (by decide) (fun c89 => absurd c89 (fun z => (bI_d.mp z) hgo)) (fun c89 => ?_)
        refine mm_iinc (pc := 92) dX12_word_92 rfl rfl rfl (Nat.le_of_ble_eq_true rfl) ?_
        refine mm_goto (pc := 95) (tgt := 81) dX12_word_95 (by decide) ?_
        exact mm_weakK (ih (t + 1) (by omega) (by omega) (by omega) (by rw [← hle, lx_go hgo.1 hgo.2]) _ hW eh) (And.intro (by rw [← nI_1]; rfl) (And.intro rfl trivial))
      · have hst := hgo
        have hle : t = lx isL tb n q := by rw [← hle, lx_stop hst]
        refine mm_aload_n (pc := 81) dX12_word_81 rfl (by first | trivial | assumption | exact mm_isr_rf _) ?_
        refine mm_iload_n (pc := 82) dX12_word_82 rfl ?_
        refine mm_callV (pc := 83) (As := [_]) (kd := ?kd_83_3) (fs := ?fs_83_3) dX12_word_83 vl_X12_209 (ok_byteA (M := mw_setS (mw_setS (mw_setS M 26 (nI q)) 27 (nI q)) 29 1) hs hn htp (k := t) (by omega) hW) ?hc_83_3 ?hk_83_3 rfl rfl (Nat.le_of_ble_eq_true rfl) ?_; (case hc_83_3 => exact hW.1); (case hk_83_3 => rfl)
        rintro _ _ ⟨rfl, rfl⟩
        refine mm_callS (pc := 86) (As := [_]) dX12_word_86 sl_X12_218 (ok_letA (n := n) (k := t) (fun i => (htp i).1)) rfl rfl (Nat.le_of_ble_eq_true rfl) ?_
        rintro _ _ ⟨rfl, rfl⟩
        refine mm_if_eq (pc := 89) (tgt := 98) dX12_word_89 (by decide) (fun c89 => ?_) (fun c89 => absurd (bI_d.mpr hst) c89)
        refine mm_aload_n (pc := 98) dX12_word_98 rfl (by first | trivial | assumption | exact mm_isr_rf _) ?_
        refine mm_iload_n (pc := 99) dX12_word_99 rfl ?_
        refine mm_aload_n (pc := 100) dX12_word_100 rfl (by first | trivial | assumption | exact mm_isr_rf _) ?_
        refine mw_gets (pc := 101) 26 hW dX12_word_101 fl_X12_206 rfl rfl ?_
        refine mm_isub (pc := 104) dX12_word_104 ?_
        refine mm_topi (nI (t - q)) (show nI t - nI q = nI (t - q) by rw [← Int32.add_left_inj (nI q), Int32.sub_add_cancel, nI_add, show t - q + q = t by omega]) ?_
        refine mm_bipush (pc := 105) (v := 8) dX12_word_105 (by decide) ?_
        refine mm_icmp_gt (pc := 107) (tgt := 114) dX12_word_107 (by decide) (fun c107 => ?_) (fun c107 => ?_)
        · refine mm_iconst (pc := 114) (v := 1) dX12_word_114 (by decide) ?_
          refine mw_put (pc := 115) 29 hW dX12_word_115 (pl_X12_215 _) rfl (fun h115 hW e115 => ?_)
          refine mm_goto (pc := 118) (tgt := 197) dX12_word_118 (by decide) ?_
          have hK : tkK tb n q = 1 := by
            unfold tkK
            rw [if_neg (by omega), if_pos hqP, if_neg (by rw [← hle]; have hz := (nI_ltI (a := 8) (by decide) (by omega)).mp c107; omega)]
          refine mm_weakK (lpW_ t (mw_setS (mw_setS (mw_setS (mw_setS M 26 (nI q)) 27 (nI q)) 29 1) 29 1) h115 rfl rfl rfl (by show (1 : Int32) = nI (tkK tb n q); rw [hK]; decide) (fun j a b c d2 => ?_) (fun z => ?_) (fun z => ?_) hW (by rw [e115, eh])) (And.intro rfl (And.intro rfl trivial))
          · show mw_u (mw_u (mw_u (mw_u M.1 26 (nI q)) 27 (nI q)) 29 1) 29 1 j = _
            rw [mw_u_ne _ _ d2, mw_u_ne _ _ d2, mw_u_ne _ _ b, mw_u_ne _ _ a]
          · unfold tkT
            rw [if_neg (by omega), if_neg (by omega), if_neg (by omega)]
          · exact absurd hK z
        · refine mm_iconst (pc := 110) (v := 2) dX12_word_110 (by decide) ?_
          refine mm_goto (pc := 111) (tgt := 115) dX12_word_111 (by decide) ?_
          refine mw_put (pc := 115) 29 hW dX12_word_115 (pl_X12_215 _) rfl (fun h115 hW e115 => ?_)
          refine mm_goto (pc := 118) (tgt := 197) dX12_word_118 (by decide) ?_
          have hK : tkK tb n q = 2 := by
            unfold tkK
            rw [if_neg (by omega), if_pos hqP, if_pos (by rw [← hle]; have hz := Nat.not_lt.mp (fun z => c107 (nI_lt (a := 8) z (by omega))); omega)]
          refine mm_weakK (lpW_ t (mw_setS (mw_setS (mw_setS (mw_setS M 26 (nI q)) 27 (nI q)) 29 1) 29 2) h115 rfl rfl rfl (by show (2 : Int32) = nI (tkK tb n q); rw [hK]; decide) (fun j a b c d2 => ?_) (fun z => ?_) (fun z => ?_) hW (by rw [e115, eh])) (And.intro rfl (And.intro rfl trivial))
          · show mw_u (mw_u (mw_u (mw_u M.1 26 (nI q)) 27 (nI q)) 29 1) 29 2 j = _
            rw [mw_u_ne _ _ d2, mw_u_ne _ _ d2, mw_u_ne _ _ b, mw_u_ne _ _ a]
          · unfold tkT
            rw [if_neg (by omega), if_neg (by omega), if_neg (by omega)]
          · unfold tkT
            rw [if_pos hK]
            exact hle
  have lpF_ : ¬ isL (tb q) = true → q < n → isF (tb q) = true → ∀ (v t : Nat), t + v = n → q ≤ t → t ≤ n → lx isF tb n t = lx isF tb n q → ∀ (h1 : mm_H), mw_W m ad h0 (mw_setS (mw_setS (mw_setS M 26 (nI q)) 27 (nI q)) 29 1) h1 → h1.2 = h.2 → mm_Run G mX12_word A L (d + 1) 128 [(2, .int (nI t)), (0, .ref m)] [] h1 (fun r h1 => mw_W m ad h0 (rm_word M tb n q) h1 ∧ h1.2 = h.2 ∧ r = none) := by
    intro hqL hqn hqP v
    induction v with
    | zero =>
      intro t ht hqt htn hle h1 hW eh
      have hst : ¬ (t < n ∧ isF (tb t) = true) := by omega
      have hle : t = lx isF tb n q := by rw [← hle, lx_stop hst]
      refine mm_aload_n (pc := 128) dX12_word_128 rfl (by first | trivial | assumption | exact mm_isr_rf _) ?_
      refine mm_iload_n (pc := 129) dX12_word_129 rfl ?_
      refine mm_callV (pc := 130) (As := [_]) (kd := ?kd_130_4) (fs := ?fs_130_4) dX12_word_130 vl_X12_209 (ok_byteA (M := mw_setS (mw_setS (mw_setS M 26 (nI q)) 27 (nI q)) 29 1) hs hn htp (k := t) (by omega) hW) ?hc_130_4 ?hk_130_4 rfl rfl (Nat.le_of_ble_eq_true rfl) ?_; (case hc_130_4 => exact hW.1); (case hk_130_4 => rfl)
      rintro _ _ ⟨rfl, rfl⟩
      refine mm_callS (pc := 133) (As := [_]) dX12_word_133 sl_X12_222 (ok_figA (n := n) (k := t) (fun i => (htp i).1)) rfl rfl (Nat.le_of_ble_eq_true rfl) ?_
      rintro _ _ ⟨rfl, rfl⟩
      refine mm_if_eq (pc := 136) (tgt := 145) dX12_word_136 (by decide) (fun c136 => ?_) (fun c136 => absurd (bI_d.mpr hst) c136)
      refine mm_aload_n (pc := 145) dX12_word_145 rfl (by first | trivial | assumption | exact mm_isr_rf _) ?_
      refine mm_iload_n (pc := 146) dX12_word_146 rfl ?_
      refine mm_aload_n (pc := 147) dX12_word_147 rfl (by first | trivial | assumption | exact mm_isr_rf _) ?_
      refine mw_gets (pc := 148) 26 hW dX12_word_148 fl_X12_206 rfl rfl ?_
      refine mm_isub (pc := 151) dX12_word_151 ?_
      refine mm_topi (nI (t - q)) (show nI t - nI q = nI (t - q) by rw [← Int32.add_left_inj (nI q), Int32.sub_add_cancel, nI_add, show t - q + q = t by omega]) ?_
      refine mm_iconst (pc := 152) (v := 3) dX12_word_152 (by decide) ?_
      refine mm_icmp_gt (pc := 153) (tgt := 160) dX12_word_153 (by decide) (fun c153 => ?_) (fun c153 => ?_)
      · refine mm_iconst (pc := 160) (v := 1) dX12_word_160 (by decide) ?_
        refine mw_put (pc := 161) 29 hW dX12_word_161 (pl_X12_215 _) rfl (fun h161 hW e161 => ?_)
        refine mm_goto (pc := 164) (tgt := 197) dX12_word_164 (by decide) ?_
        have hK : tkK tb n q = 1 := by
          unfold tkK
          rw [if_neg (by omega), if_neg hqL, if_pos hqP, if_neg (by rw [← hle]; have hz := (nI_ltI (a := 3) (by decide) (by omega)).mp c153; omega)]
        refine mm_weakK (lpW_ t (mw_setS (mw_setS (mw_setS (mw_setS M 26 (nI q)) 27 (nI q)) 29 1) 29 1) h161 rfl rfl rfl (by show (1 : Int32) = nI (tkK tb n q); rw [hK]; decide) (fun j a b c d2 => ?_) (fun z => ?_) (fun z => ?_) hW (by rw [e161, eh])) (And.intro rfl (And.intro rfl trivial))
        · show mw_u (mw_u (mw_u (mw_u M.1 26 (nI q)) 27 (nI q)) 29 1) 29 1 j = _
          rw [mw_u_ne _ _ d2, mw_u_ne _ _ d2, mw_u_ne _ _ b, mw_u_ne _ _ a]
        · unfold tkT
          rw [if_neg (by omega), if_neg (by omega), if_neg (by omega)]
        · exact absurd hK z
      · refine mm_iconst (pc := 156) (v := 3) dX12_word_156 (by decide) ?_
        refine mm_goto (pc := 157) (tgt := 161) dX12_word_157 (by decide) ?_
        refine mw_put (pc := 161) 29 hW dX12_word_161 (pl_X12_215 _) rfl (fun h161 hW e161 => ?_)
        refine mm_goto (pc := 164) (tgt := 197) dX12_word_164 (by decide) ?_
        have hK : tkK tb n q = 3 := by
          unfold tkK
          rw [if_neg (by omega), if_neg hqL, if_pos hqP, if_pos (by rw [← hle]; have hz := Nat.not_lt.mp (fun z => c153 (nI_lt (a := 3) z (by omega))); omega)]
        refine mm_weakK (lpW_ t (mw_setS (mw_setS (mw_setS (mw_setS M 26 (nI q)) 27 (nI q)) 29 1) 29 3) h161 rfl rfl rfl (by show (3 : Int32) = nI (tkK tb n q); rw [hK]; decide) (fun j a b c d2 => ?_) (fun z => ?_) (fun z => ?_) hW (by rw [e161, eh])) (And.intro rfl (And.intro rfl trivial))
        · show mw_u (mw_u (mw_u (mw_u M.1 26 (nI q)) 27 (nI q)) 29 1) 29 3 j = _
          rw [mw_u_ne _ _ d2, mw_u_ne _ _ d2, mw_u_ne _ _ b, mw_u_ne _ _ a]
        · unfold tkT
          rw [if_neg (by omega), if_neg (by omega), if_neg (by omega)]
        · unfold tkT
          rw [if_neg (by omega), if_pos hK]
          exact hle
    | succ v ih =>
      intro t ht hqt htn hle h1 hW eh
      by_cases hgo : t < n ∧ isF (tb t) = true
      ·
        refine mm_aload_n (pc := 128) dX12_word_128 rfl (by first | trivial | assumption | exact mm_isr_rf _) ?_
        refine mm_iload_n (pc := 129) dX12_word_129 rfl ?_
        refine mm_callV (pc := 130) (As := [_]) (kd := ?kd_130_5) (fs := ?fs_130_5) dX12_word_130 vl_X12_209 (ok_byteA (M := mw_setS (mw_setS (mw_setS M 26 (nI q)) 27 (nI q)) 29 1) hs hn htp (k := t) (by omega) hW) ?hc_130_5 ?hk_130_5 rfl rfl (Nat.le_of_ble_eq_true rfl) ?_; (case hc_130_5 => exact hW.1); (case hk_130_5 => rfl)
        rintro _ _ ⟨rfl, rfl⟩
        refine mm_callS (pc := 133) (As := [_]) dX12_word_133 sl_X12_222 (ok_figA (n := n) (k := t) (fun i => (htp i).1)) rfl rfl (Nat.le_of_ble_eq_true rfl) ?_
        rintro _ _ ⟨rfl, rfl⟩
        refine mm_if_eq (pc := 136) (tgt := 145) dX12_word_136 (by decide) (fun c136 => absurd c136 (fun z => (bI_d.mp z) hgo)) (fun c136 => ?_)
        refine mm_iinc (pc := 139) dX12_word_139 rfl rfl rfl (Nat.le_of_ble_eq_true rfl) ?_
        refine mm_goto (pc := 142) (tgt := 128) dX12_word_142 (by decide) ?_
        exact mm_weakK (ih (t + 1) (by omega) (by omega) (by omega) (by rw [← hle, lx_go hgo.1 hgo.2]) _ hW eh) (And.intro (by rw [← nI_1]; rfl) (And.intro rfl trivial))
      · have hst := hgo
        have hle : t = lx isF tb n q := by rw [← hle, lx_stop hst]
        refine mm_aload_n (pc := 128) dX12_word_128 rfl (by first | trivial | assumption | exact mm_isr_rf _) ?_
        refine mm_iload_n (pc := 129) dX12_word_129 rfl ?_
        refine mm_callV (pc := 130) (As := [_]) (kd := ?kd_130_6) (fs := ?fs_130_6) dX12_word_130 vl_X12_209 (ok_byteA (M := mw_setS (mw_setS (mw_setS M 26 (nI q)) 27 (nI q)) 29 1) hs hn htp (k := t) (by omega) hW) ?hc_130_6 ?hk_130_6 rfl rfl (Nat.le_of_ble_eq_true rfl) ?_; (case hc_130_6 => exact hW.1); (case hk_130_6 => rfl)
        rintro _ _ ⟨rfl, rfl⟩
        refine mm_callS (pc := 133) (As := [_]) dX12_word_133 sl_X12_222 (ok_figA (n := n) (k := t) (fun i => (htp i).1)) rfl rfl (Nat.le_of_ble_eq_true rfl) ?_
        rintro _ _ ⟨rfl, rfl⟩
        refine mm_if_eq (pc := 136) (tgt := 145) dX12_word_136 (by decide) (fun c136 => ?_) (fun c136 => absurd (bI_d.mpr hst) c136)
        refine mm_aload_n (pc := 145) dX12_word_145 rfl (by first | trivial | assumption | exact mm_isr_rf _) ?_
        refine mm_iload_n (pc := 146) dX12_word_146 rfl ?_
        refine mm_aload_n (pc := 147) dX12_word_147 rfl (by first | trivial | assumption | exact mm_isr_rf _) ?_
        refine mw_gets (pc := 148) 26 hW dX12_word_148 fl_X12_206 rfl rfl ?_
        refine mm_isub (pc := 151) dX12_word_151 ?_
        refine mm_topi (nI (t - q)) (show nI t - nI q = nI (t - q) by rw [← Int32.add_left_inj (nI q), Int32.sub_add_cancel, nI_add, show t - q + q = t by omega]) ?_
        refine mm_iconst (pc := 152) (v := 3) dX12_word_152 (by decide) ?_
        refine mm_icmp_gt (pc := 153) (tgt := 160) dX12_word_153 (by decide) (fun c153 => ?_) (fun c153 => ?_)
        · refine mm_iconst (pc := 160) (v := 1) dX12_word_160 (by decide) ?_
          refine mw_put (pc := 161) 29 hW dX12_word_161 (pl_X12_215 _) rfl (fun h161 hW e161 => ?_)
          refine mm_goto (pc := 164) (tgt := 197) dX12_word_164 (by decide) ?_
          have hK : tkK tb n q = 1 := by
            unfold tkK
            rw [if_neg (by omega), if_neg hqL, if_pos hqP, if_neg (by rw [← hle]; have hz := (nI_ltI (a := 3) (by decide) (by omega)).mp c153; omega)]
          refine mm_weakK (lpW_ t (mw_setS (mw_setS (mw_setS (mw_setS M 26 (nI q)) 27 (nI q)) 29 1) 29 1) h161 rfl rfl rfl (by show (1 : Int32) = nI (tkK tb n q); rw [hK]; decide) (fun j a b c d2 => ?_) (fun z => ?_) (fun z => ?_) hW (by rw [e161, eh])) (And.intro rfl (And.intro rfl trivial))
          · show mw_u (mw_u (mw_u (mw_u M.1 26 (nI q)) 27 (nI q)) 29 1) 29 1 j = _
            rw [mw_u_ne _ _ d2, mw_u_ne _ _ d2, mw_u_ne _ _ b, mw_u_ne _ _ a]
          · unfold tkT
            rw [if_neg (by omega), if_neg (by omega), if_neg (by omega)]
          · exact absurd hK z
        · refine mm_iconst (pc := 156) (v := 3) dX12_word_156 (by decide) ?_
          refine mm_goto (pc := 157) (tgt := 161) dX12_word_157 (by decide) ?_
          refine mw_put (pc := 161) 29 hW dX12_word_161 (pl_X12_215 _) rfl (fun h161 hW e161 => ?_)
          refine mm_goto (pc := 164) (tgt := 197) dX12_word_164 (by decide) ?_
          have hK : tkK tb n q = 3 := by
            unfold tkK
            rw [if_neg (by omega), if_neg hqL, if_pos hqP, if_pos (by rw [← hle]; have hz := Nat.not_lt.mp (fun z => c153 (nI_lt (a := 3) z (by omega))); omega)]
          refine mm_weakK (lpW_ t (mw_setS (mw_setS (mw_setS (mw_setS M 26 (nI q)) 27 (nI q)) 29 1) 29 3) h161 rfl rfl rfl (by show (3 : Int32) = nI (tkK tb n q); rw [hK]; decide) (fun j a b c d2 => ?_) (fun z => ?_) (fun z => ?_) hW (by rw [e161, eh])) (And.intro rfl (And.intro rfl trivial))
          · show mw_u (mw_u (mw_u (mw_u M.1 26 (nI q)) 27 (nI q)) 29 1) 29 3 j = _
            rw [mw_u_ne _ _ d2, mw_u_ne _ _ d2, mw_u_ne _ _ b, mw_u_ne _ _ a]
          · unfold tkT
            rw [if_neg (by omega), if_neg (by omega), if_neg (by omega)]
          · unfold tkT
            rw [if_neg (by omega), if_pos hK]
            exact hle
  have lpM_ : ∀ (h1 : mm_H), mw_W m ad h0 (mw_setS M 26 (nI q)) h1 → h1.2 = h.2 → mm_Run G mX12_word A L (d + 1) 39 [(0, .ref m)] [] h1 (fun r h1 => mw_W m ad h0 (rm_word M tb n q) h1 ∧ h1.2 = h.2 ∧ r = none) := by
    intro h1 hW eh
    refine mm_aload_n (pc := 39) dX12_word_39 rfl (by first | trivial | assumption | exact mm_isr_rf _) ?_
    refine mm_aload_n (pc := 40) dX12_word_40 rfl (by first | trivial | assumption | exact mm_isr_rf _) ?_
    refine mw_gets (pc := 41) 26 hW dX12_word_41 fl_X12_206 rfl rfl ?_
    refine mw_put (pc := 44) 27 hW dX12_word_44 (pl_X12_212 _) rfl (fun h44 hW e44 => ?_)
    refine mm_aload_n (pc := 47) dX12_word_47 rfl (by first | trivial | assumption | exact mm_isr_rf _) ?_
    refine mm_aload_n (pc := 48) dX12_word_48 rfl (by first | trivial | assumption | exact mm_isr_rf _) ?_
    refine mw_gets (pc := 49) 26 hW dX12_word_49 fl_X12_206 rfl rfl ?_
    refine mm_callV (pc := 52) (As := [_]) (kd := ?kd_52_7) (fs := ?fs_52_7) dX12_word_52 vl_X12_209 (ok_byteA (M := (mw_setS (mw_setS M 26 (nI q)) 27 (nI q))) hs hn htp (k := q) (by omega) hW) ?hc_52_7 ?hk_52_7 rfl rfl (Nat.le_of_ble_eq_true rfl) ?_; (case hc_52_7 => exact hW.1); (case hk_52_7 => rfl)
    rintro _ _ ⟨rfl, rfl⟩
    refine mm_istore_n (pc := 55) dX12_word_55 rfl (Nat.le_of_ble_eq_true rfl) ?_
    refine mm_aload_n (pc := 56) dX12_word_56 rfl (by first | trivial | assumption | exact mm_isr_rf _) ?_
    refine mw_gets (pc := 57) 26 hW dX12_word_57 fl_X12_206 rfl rfl ?_
    refine mm_istore_n (pc := 60) dX12_word_60 rfl (Nat.le_of_ble_eq_true rfl) ?_
    refine mm_aload_n (pc := 61) dX12_word_61 rfl (by first | trivial | assumption | exact mm_isr_rf _) ?_
    refine mm_iload_n (pc := 62) dX12_word_62 rfl ?_
    refine mm_if_ge (pc := 63) (tgt := 70) dX12_word_63 (by decide) (fun c63 => ?_) (fun c63 => ?_)
    · have hqn : q < n := Nat.not_le.mp (fun z => ((bA_lt (fun i => (htp i).1)).mpr z) c63)
      refine mm_iconst (pc := 70) (v := 1) dX12_word_70 (by decide) ?_
      refine mw_put (pc := 71) 29 hW dX12_word_71 (pl_X12_215 _) rfl (fun h71 hW e71 => ?_)
      refine mm_iload_n (pc := 74) dX12_word_74 rfl ?_
      refine mm_callS (pc := 75) (As := [_]) dX12_word_75 sl_X12_218 (ok_letA (n := n) (k := q) (fun i => (htp i).1)) rfl rfl (Nat.le_of_ble_eq_true rfl) ?_
      rintro _ _ ⟨rfl, rfl⟩
      refine mm_if_eq (pc := 78) (tgt := 121) dX12_word_78 (by decide) (fun c78 => ?_) (fun c78 => ?_)
      · refine mm_iload_n (pc := 121) dX12_word_121 rfl ?_
        refine mm_callS (pc := 122) (As := [_]) dX12_word_122 sl_X12_222 (ok_figA (n := n) (k := q) (fun i => (htp i).1)) rfl rfl (Nat.le_of_ble_eq_true rfl) ?_
        rintro _ _ ⟨rfl, rfl⟩
        refine mm_if_eq (pc := 125) (tgt := 167) dX12_word_125 (by decide) (fun c125 => ?_) (fun c125 => ?_)
        · refine mm_iload_n (pc := 167) dX12_word_167 rfl ?_
          refine mm_bipush (pc := 168) (v := 123) dX12_word_168 (by decide) ?_
          refine mm_icmp_eq (pc := 170) (tgt := 185) dX12_word_170 (by decide) (fun c170 => ?_) (fun c170 => ?_)
          · refine mm_aload_n (pc := 185) dX12_word_185 rfl (by first | trivial | assumption | exact mm_isr_rf _) ?_
            refine mw_gets (pc := 186) 26 hW dX12_word_186 fl_X12_206 rfl rfl ?_
            refine mm_iconst (pc := 189) (v := 1) dX12_word_189 (by decide) ?_
            refine mm_iadd (pc := 190) dX12_word_190 ?_
            refine mm_istore_n (pc := 191) dX12_word_191 rfl (Nat.le_of_ble_eq_true rfl) ?_
            refine mm_aload_n (pc := 192) dX12_word_192 rfl (by first | trivial | assumption | exact mm_isr_rf _) ?_
            refine mm_iconst (pc := 193) (v := 4) dX12_word_193 (by decide) ?_
            refine mw_put (pc := 194) 29 hW dX12_word_194 (pl_X12_215 _) rfl (fun h194 hW e194 => ?_)
            have hqLf : ¬ isL (tb q) = true := fun z => bI_d.mp c78 ⟨hqn, z⟩
            have hqFf : ¬ isF (tb q) = true := fun z => bI_d.mp c125 ⟨hqn, z⟩
            have hsg : isSg (tb q) = true := by
              rw [((bA_eq (c := 123) (fun i => (htp i).1) (by decide)).mp c170).2]
              rfl
            have hK : tkK tb n q = 4 := by
              unfold tkK
              rw [if_neg (by omega), if_neg hqLf, if_neg hqFf, if_pos hsg]
            refine mm_weakK (lpW_ (q + 1) (mw_setS (mw_setS (mw_setS (mw_setS M 26 (nI q)) 27 (nI q)) 29 1) 29 4) h194 rfl rfl rfl (by show (4 : Int32) = nI (tkK tb n q); rw [hK]; decide) (fun j a b c d2 => ?_) (fun z => ?_) (fun z => ?_) hW (by rw [e194, e71, e44, eh])) (And.intro (by rw [← nI_1]; rfl) (And.intro rfl trivial))
            · show mw_u (mw_u (mw_u (mw_u M.1 26 (nI q)) 27 (nI q)) 29 1) 29 4 j = _
              rw [mw_u_ne _ _ d2, mw_u_ne _ _ d2, mw_u_ne _ _ b, mw_u_ne _ _ a]
            · unfold tkT
              rw [if_neg (by omega), if_neg (by omega), if_neg (by omega)]
            · unfold tkT
              rw [if_neg (by omega), if_neg (by omega), if_pos hK]
          · refine mm_iload_n (pc := 173) dX12_word_173 rfl ?_
            refine mm_bipush (pc := 174) (v := 125) dX12_word_174 (by decide) ?_
            refine mm_icmp_eq (pc := 176) (tgt := 185) dX12_word_176 (by decide) (fun c176 => ?_) (fun c176 => ?_)
            · refine mm_aload_n (pc := 185) dX12_word_185 rfl (by first | trivial | assumption | exact mm_isr_rf _) ?_
              refine mw_gets (pc := 186) 26 hW dX12_word_186 fl_X12_206 rfl rfl ?_
              refine mm_iconst (pc := 189) (v := 1) dX12_word_189 (by decide) ?_
              refine mm_iadd (pc := 190) dX12_word_190 ?_
              refine mm_istore_n (pc := 191) dX12_word_191 rfl (Nat.le_of_ble_eq_true rfl) ?_
              refine mm_aload_n (pc := 192) dX12_word_192 rfl (by first | trivial | assumption | exact mm_isr_rf _) ?_
              refine mm_iconst (pc := 193) (v := 4) dX12_word_193 (by decide) ?_
              refine mw_put (pc := 194) 29 hW dX12_word_194 (pl_X12_215 _) rfl (fun h194 hW e194 => ?_)
              have hqLf : ¬ isL (tb q) = true := fun z => bI_d.mp c78 ⟨hqn, z⟩
              have hqFf : ¬ isF (tb q) = true := fun z => bI_d.mp c125 ⟨hqn, z⟩
              have hsg : isSg (tb q) = true := by
                rw [((bA_eq (c := 125) (fun i => (htp i).1) (by decide)).mp c176).2]
                rfl
              have hK : tkK tb n q = 4 := by
                unfold tkK
                rw [if_neg (by omega), if_neg hqLf, if_neg hqFf, if_pos hsg]
              refine mm_weakK (lpW_ (q + 1) (mw_setS (mw_setS (mw_setS (mw_setS M 26 (nI q)) 27 (nI q)) 29 1) 29 4) h194 rfl rfl rfl (by show (4 : Int32) = nI (tkK tb n q); rw [hK]; decide) (fun j a b c d2 => ?_) (fun z => ?_) (fun z => ?_) hW (by rw [e194, e71, e44, eh])) (And.intro (by rw [← nI_1]; rfl) (And.intro rfl trivial))
              · show mw_u (mw_u (mw_u (mw_u M.1 26 (nI q)) 27 (nI q)) 29 1) 29 4 j = _
                rw [mw_u_ne _ _ d2, mw_u_ne _ _ d2, mw_u_ne _ _ b, mw_u_ne _ _ a]
              · unfold tkT
                rw [if_neg (by omega), if_neg (by omega), if_neg (by omega)]
              · unfold tkT
                rw [if_neg (by omega), if_neg (by omega), if_pos hK]
            · refine mm_iload_n (pc := 179) dX12_word_179 rfl ?_
              refine mm_bipush (pc := 180) (v := 59) dX12_word_180 (by decide) ?_
              refine mm_icmp_ne (pc := 182) (tgt := 197) dX12_word_182 (by decide) (fun c182 => ?_) (fun c182 => ?_)
              · have hqLf : ¬ isL (tb q) = true := fun z => bI_d.mp c78 ⟨hqn, z⟩
                have hqFf : ¬ isF (tb q) = true := fun z => bI_d.mp c125 ⟨hqn, z⟩
                have hsg : ¬ isSg (tb q) = true := by
                  intro z
                  rcases Bool.or_eq_true_iff.mp z with z | z
                  · exact c170 ((bA_eq (c := 123) (fun i => (htp i).1) (by decide)).mpr ⟨hqn, Nat.eq_of_beq_eq_true z⟩)
                  · rcases Bool.or_eq_true_iff.mp z with z | z
                    · exact c176 ((bA_eq (c := 125) (fun i => (htp i).1) (by decide)).mpr ⟨hqn, Nat.eq_of_beq_eq_true z⟩)
                    · exact c182 ((bA_eq (c := 59) (fun i => (htp i).1) (by decide)).mpr ⟨hqn, Nat.eq_of_beq_eq_true z⟩)
                have hK : tkK tb n q = 1 := by
                  unfold tkK
                  rw [if_neg (by omega), if_neg hqLf, if_neg hqFf, if_neg hsg]
                refine mm_weakK (lpW_ q (mw_setS (mw_setS (mw_setS M 26 (nI q)) 27 (nI q)) 29 1) _ rfl rfl rfl (by show (1 : Int32) = nI (tkK tb n q); rw [hK]; decide) (fun j a b c d2 => ?_) (fun z => ?_) (fun z => ?_) hW (by rw [e71, e44, eh])) (And.intro rfl (And.intro rfl trivial))
                · show mw_u (mw_u (mw_u M.1 26 (nI q)) 27 (nI q)) 29 1 j = _
                  rw [mw_u_ne _ _ d2, mw_u_ne _ _ b, mw_u_ne _ _ a]
                · unfold tkT
                  rw [if_neg (by omega), if_neg (by omega), if_neg (by omega)]
                · exact absurd hK z
              · refine mm_aload_n (pc := 185) dX12_word_185 rfl (by first | trivial | assumption | exact mm_isr_rf _) ?_
                refine mw_gets (pc := 186) 26 hW dX12_word_186 fl_X12_206 rfl rfl ?_
                refine mm_iconst (pc := 189) (v := 1) dX12_word_189 (by decide) ?_
                refine mm_iadd (pc := 190) dX12_word_190 ?_
                refine mm_istore_n (pc := 191) dX12_word_191 rfl (Nat.le_of_ble_eq_true rfl) ?_
                refine mm_aload_n (pc := 192) dX12_word_192 rfl (by first | trivial | assumption | exact mm_isr_rf _) ?_
                refine mm_iconst (pc := 193) (v := 4) dX12_word_193 (by decide) ?_
                refine mw_put (pc := 194) 29 hW dX12_word_194 (pl_X12_215 _) rfl (fun h194 hW e194 => ?_)
                have hqLf : ¬ isL (tb q) = true := fun z => bI_d.mp c78 ⟨hqn, z⟩
                have hqFf : ¬ isF (tb q) = true := fun z => bI_d.mp c125 ⟨hqn, z⟩
                have hsg : isSg (tb q) = true := by
                  rw [((bA_eq (c := 59) (fun i => (htp i).1) (by decide)).mp c182).2]
                  rfl
                have hK : tkK tb n q = 4 := by
                  unfold tkK
                  rw [if_neg (by omega), if_neg hqLf, if_neg hqFf, if_pos hsg]
                refine mm_weakK (lpW_ (q + 1) (mw_setS (mw_setS (mw_setS (mw_setS M 26 (nI q)) 27 (nI q)) 29 1) 29 4) h194 rfl rfl rfl (by show (4 : Int32) = nI (tkK tb n q); rw [hK]; decide) (fun j a b c d2 => ?_) (fun z => ?_) (fun z => ?_) hW (by rw [e194, e71, e44, eh])) (And.intro (by rw [← nI_1]; rfl) (And.intro rfl trivial))
                · show mw_u (mw_u (mw_u (mw_u M.1 26 (nI q)) 27 (nI q)) 29 1) 29 4 j = _
                  rw [mw_u_ne _ _ d2, mw_u_ne _ _ d2, mw_u_ne _ _ b, mw_u_ne _ _ a]
                · unfold tkT
                  rw [if_neg (by omega), if_neg (by omega), if_neg (by omega)]
                · unfold tkT
                  rw [if_neg (by omega), if_neg (by omega), if_pos hK]
        · have hqLf : ¬ isL (tb q) = true := fun z => bI_d.mp c78 ⟨hqn, z⟩
          have hqFt : isF (tb q) = true := by
            cases hz : isF (tb q) with
            | true => rfl
            | false => exact absurd (bI_d.mpr (fun z => by rw [hz] at z; cases z.2)) c125
          exact mm_weakK (lpF_ hqLf hqn hqFt (n - q) q (by omega) (Nat.le_refl q) (by omega) rfl _ hW (by rw [e71, e44, eh])) (And.intro rfl (And.intro rfl trivial))
      · have hqLt : isL (tb q) = true := by
          cases hz : isL (tb q) with
          | true => rfl
          | false => exact absurd (bI_d.mpr (fun z => by rw [hz] at z; cases z.2)) c78
        exact mm_weakK (lpL_ hqn hqLt (n - q) q (by omega) (Nat.le_refl q) (by omega) rfl _ hW (by rw [e71, e44, eh])) (And.intro rfl (And.intro rfl trivial))
    · have hnq : n ≤ q := (bA_lt (fun i => (htp i).1)).mp c63
      refine mm_iconst (pc := 66) (v := 0) dX12_word_66 (by decide) ?_
      refine mm_goto (pc := 67) (tgt := 71) dX12_word_67 (by decide) ?_
      refine mw_put (pc := 71) 29 hW dX12_word_71 (pl_X12_215 _) rfl (fun h71 hW e71 => ?_)
      refine mm_iload_n (pc := 74) dX12_word_74 rfl ?_
      refine mm_callS (pc := 75) (As := [_]) dX12_word_75 sl_X12_218 (ok_letA (n := n) (k := q) (fun i => (htp i).1)) rfl rfl (Nat.le_of_ble_eq_true rfl) ?_
      rintro _ _ ⟨rfl, rfl⟩
      refine mm_if_eq (pc := 78) (tgt := 121) dX12_word_78 (by decide) (fun c78 => ?_) (fun c78 => absurd (bI_d.mpr (fun z => absurd z.1 (by omega))) c78)
      refine mm_iload_n (pc := 121) dX12_word_121 rfl ?_
      refine mm_callS (pc := 122) (As := [_]) dX12_word_122 sl_X12_222 (ok_figA (n := n) (k := q) (fun i => (htp i).1)) rfl rfl (Nat.le_of_ble_eq_true rfl) ?_
      rintro _ _ ⟨rfl, rfl⟩
      refine mm_if_eq (pc := 125) (tgt := 167) dX12_word_125 (by decide) (fun c125 => ?_) (fun c125 => absurd (bI_d.mpr (fun z => absurd z.1 (by omega))) c125)
      refine mm_iload_n (pc := 167) dX12_word_167 rfl ?_
      refine mm_bipush (pc := 168) (v := 123) dX12_word_168 (by decide) ?_
      refine mm_icmp_eq (pc := 170) (tgt := 185) dX12_word_170 (by decide) (fun c170 => absurd c170 (fun z => absurd ((bA_eq (c := 123) (fun i => (htp i).1) (by decide)).mp z).1 (by omega))) (fun c170 => ?_)
      refine mm_iload_n (pc := 173) dX12_word_173 rfl ?_
      refine mm_bipush (pc := 174) (v := 125) dX12_word_174 (by decide) ?_
      refine mm_icmp_eq (pc := 176) (tgt := 185) dX12_word_176 (by decide) (fun c176 => absurd c176 (fun z => absurd ((bA_eq (c := 125) (fun i => (htp i).1) (by decide)).mp z).1 (by omega))) (fun c176 => ?_)
      refine mm_iload_n (pc := 179) dX12_word_179 rfl ?_
      refine mm_bipush (pc := 180) (v := 59) dX12_word_180 (by decide) ?_
      refine mm_icmp_ne (pc := 182) (tgt := 197) dX12_word_182 (by decide) (fun c182 => ?_) (fun c182 => absurd c182 (fun z => absurd ((bA_eq (c := 59) (fun i => (htp i).1) (by decide)).mp z).1 (by omega)))
      have hK : tkK tb n q = 0 := by
        unfold tkK
        rw [if_pos hnq]
      refine mm_weakK (lpW_ q (mw_setS (mw_setS (mw_setS M 26 (nI q)) 27 (nI q)) 29 0) _ rfl rfl rfl (by show (0 : Int32) = nI (tkK tb n q); rw [hK]; decide) (fun j a b c d2 => ?_) (fun z => ?_) (fun z => ?_) hW (by rw [e71, e44, eh])) (And.intro rfl (And.intro rfl trivial))
      · show mw_u (mw_u (mw_u M.1 26 (nI q)) 27 (nI q)) 29 0 j = _
        rw [mw_u_ne _ _ d2, mw_u_ne _ _ b, mw_u_ne _ _ a]
      · unfold tkT
        rw [if_neg (by omega), if_neg (by omega), if_neg (by omega)]
      · unfold tkT
        rw [if_neg (by omega), if_neg (by omega), if_neg (by omega)]
  have lp_ : ∀ (v p1 : Nat), p1 + v = n → p1 ≤ n → lx isBl tb n p1 = q → ∀ (h1 : mm_H), mw_W m ad h0 (mw_setS M 26 (nI p1)) h1 → h1.2 = h.2 → mm_Run G mX12_word A L (d + 1) 0 [(0, .ref m)] [] h1 (fun r h1 => mw_W m ad h0 (rm_word M tb n q) h1 ∧ h1.2 = h.2 ∧ r = none) := by
    intro v
    induction v with
    | zero =>
      intro p1 hv hpn hq h1 hW eh
      have hst : ¬ (p1 < n ∧ isBl (tb p1) = true) := by omega
      refine mm_aload_n (pc := 0) dX12_word_0 rfl (by first | trivial | assumption | exact mm_isr_rf _) ?_
      refine mm_aload_n (pc := 1) dX12_word_1 rfl (by first | trivial | assumption | exact mm_isr_rf _) ?_
      refine mw_gets (pc := 2) 26 hW dX12_word_2 fl_X12_206 rfl rfl ?_
      refine mm_callV (pc := 5) (As := [_]) (kd := ?kd_5_8) (fs := ?fs_5_8) dX12_word_5 vl_X12_209 (ok_byteA (M := mw_setS M 26 (nI p1)) hs hn htp (k := p1) (by omega) hW) ?hc_5_8 ?hk_5_8 rfl rfl (Nat.le_of_ble_eq_true rfl) ?_; (case hc_5_8 => exact hW.1); (case hk_5_8 => rfl)
      rintro _ _ ⟨rfl, rfl⟩
      refine mm_bipush (pc := 8) (v := 10) dX12_word_8 (by decide) ?_
      refine mm_icmp_eq (pc := 10) (tgt := 26) dX12_word_10 (by decide) (fun c10 => absurd c10 (fun z => hst ⟨((bA_eq (c := 10) (fun i => (htp i).1) (by decide)).mp z).1, by rw [((bA_eq (c := 10) (fun i => (htp i).1) (by decide)).mp z).2]; rfl⟩)) (fun c10 => ?_)
      refine mm_aload_n (pc := 13) dX12_word_13 rfl (by first | trivial | assumption | exact mm_isr_rf _) ?_
      refine mm_aload_n (pc := 14) dX12_word_14 rfl (by first | trivial | assumption | exact mm_isr_rf _) ?_
      refine mw_gets (pc := 15) 26 hW dX12_word_15 fl_X12_206 rfl rfl ?_
      refine mm_callV (pc := 18) (As := [_]) (kd := ?kd_18_9) (fs := ?fs_18_9) dX12_word_18 vl_X12_209 (ok_byteA (M := mw_setS M 26 (nI p1)) hs hn htp (k := p1) (by omega) hW) ?hc_18_9 ?hk_18_9 rfl rfl (Nat.le_of_ble_eq_true rfl) ?_; (case hc_18_9 => exact hW.1); (case hk_18_9 => rfl)
      rintro _ _ ⟨rfl, rfl⟩
      refine mm_bipush (pc := 21) (v := 32) dX12_word_21 (by decide) ?_
      refine mm_icmp_ne (pc := 23) (tgt := 39) dX12_word_23 (by decide) (fun c23 => ?_) (fun c23 => absurd c23 (fun z => hst ⟨((bA_eq (c := 32) (fun i => (htp i).1) (by decide)).mp z).1, by rw [((bA_eq (c := 32) (fun i => (htp i).1) (by decide)).mp z).2]; rfl⟩))
      have hq2 : p1 = q := by rw [← hq, lx_stop hst]
      subst hq2
      exact mm_weakK (lpM_ _ hW eh) (And.intro rfl trivial)
    | succ v ih =>
      intro p1 hv hpn hq h1 hW eh
      by_cases hgo : p1 < n ∧ isBl (tb p1) = true
      ·
        refine mm_aload_n (pc := 0) dX12_word_0 rfl (by first | trivial | assumption | exact mm_isr_rf _) ?_
        refine mm_aload_n (pc := 1) dX12_word_1 rfl (by first | trivial | assumption | exact mm_isr_rf _) ?_
        refine mw_gets (pc := 2) 26 hW dX12_word_2 fl_X12_206 rfl rfl ?_
        refine mm_callV (pc := 5) (As := [_]) (kd := ?kd_5_10) (fs := ?fs_5_10) dX12_word_5 vl_X12_209 (ok_byteA (M := mw_setS M 26 (nI p1)) hs hn htp (k := p1) (by omega) hW) ?hc_5_10 ?hk_5_10 rfl rfl (Nat.le_of_ble_eq_true rfl) ?_; (case hc_5_10 => exact hW.1); (case hk_5_10 => rfl)
        rintro _ _ ⟨rfl, rfl⟩
        refine mm_bipush (pc := 8) (v := 10) dX12_word_8 (by decide) ?_
        refine mm_icmp_eq (pc := 10) (tgt := 26) dX12_word_10 (by decide) (fun c10 => ?_) (fun c10 => ?_)
        · refine mm_aload_n (pc := 26) dX12_word_26 rfl (by first | trivial | assumption | exact mm_isr_rf _) ?_
          refine mm_dup (pc := 27) dX12_word_27 rfl ?_
          refine mw_gets (pc := 28) 26 hW dX12_word_28 fl_X12_206 rfl rfl ?_
          refine mm_iconst (pc := 31) (v := 1) dX12_word_31 (by decide) ?_
          refine mm_iadd (pc := 32) dX12_word_32 ?_
          refine mw_put (pc := 33) 26 hW dX12_word_33 (pl_X12_206 _) rfl (fun h33 hW e33 => ?_)
          refine mm_goto (pc := 36) (tgt := 0) dX12_word_36 (by decide) ?_
          rw [mw_setS2] at hW
          rw [show (mw_setS M 26 (nI p1)).1 26 + 1 = nI (p1 + 1) from nI_1 p1] at hW
          exact mm_weakK (ih (p1 + 1) (by omega) (by omega) (by rw [← hq, lx_go hgo.1 hgo.2]) h33 hW (by rw [e33, eh])) (And.intro rfl trivial)
        · refine mm_aload_n (pc := 13) dX12_word_13 rfl (by first | trivial | assumption | exact mm_isr_rf _) ?_
          refine mm_aload_n (pc := 14) dX12_word_14 rfl (by first | trivial | assumption | exact mm_isr_rf _) ?_
          refine mw_gets (pc := 15) 26 hW dX12_word_15 fl_X12_206 rfl rfl ?_
          refine mm_callV (pc := 18) (As := [_]) (kd := ?kd_18_11) (fs := ?fs_18_11) dX12_word_18 vl_X12_209 (ok_byteA (M := mw_setS M 26 (nI p1)) hs hn htp (k := p1) (by omega) hW) ?hc_18_11 ?hk_18_11 rfl rfl (Nat.le_of_ble_eq_true rfl) ?_; (case hc_18_11 => exact hW.1); (case hk_18_11 => rfl)
          rintro _ _ ⟨rfl, rfl⟩
          refine mm_bipush (pc := 21) (v := 32) dX12_word_21 (by decide) ?_
          refine mm_icmp_ne (pc := 23) (tgt := 39) dX12_word_23 (by decide) (fun c23 => ?_) (fun c23 => ?_)
          · exfalso
            rcases Bool.or_eq_true_iff.mp hgo.2 with z | z
            · exact c10 ((bA_eq (c := 10) (fun i => (htp i).1) (by decide)).mpr ⟨hgo.1, Nat.eq_of_beq_eq_true z⟩)
            · exact c23 ((bA_eq (c := 32) (fun i => (htp i).1) (by decide)).mpr ⟨hgo.1, Nat.eq_of_beq_eq_true z⟩)
          · refine mm_aload_n (pc := 26) dX12_word_26 rfl (by first | trivial | assumption | exact mm_isr_rf _) ?_
            refine mm_dup (pc := 27) dX12_word_27 rfl ?_
            refine mw_gets (pc := 28) 26 hW dX12_word_28 fl_X12_206 rfl rfl ?_
            refine mm_iconst (pc := 31) (v := 1) dX12_word_31 (by decide) ?_
            refine mm_iadd (pc := 32) dX12_word_32 ?_
            refine mw_put (pc := 33) 26 hW dX12_word_33 (pl_X12_206 _) rfl (fun h33 hW e33 => ?_)
            refine mm_goto (pc := 36) (tgt := 0) dX12_word_36 (by decide) ?_
            rw [mw_setS2] at hW
            rw [show (mw_setS M 26 (nI p1)).1 26 + 1 = nI (p1 + 1) from nI_1 p1] at hW
            exact mm_weakK (ih (p1 + 1) (by omega) (by omega) (by rw [← hq, lx_go hgo.1 hgo.2]) h33 hW (by rw [e33, eh])) (And.intro rfl trivial)
      · have hst := hgo
        refine mm_aload_n (pc := 0) dX12_word_0 rfl (by first | trivial | assumption | exact mm_isr_rf _) ?_
        refine mm_aload_n (pc := 1) dX12_word_1 rfl (by first | trivial | assumption | exact mm_isr_rf _) ?_
        refine mw_gets (pc := 2) 26 hW dX12_word_2 fl_X12_206 rfl rfl ?_
        refine mm_callV (pc := 5) (As := [_]) (kd := ?kd_5_12) (fs := ?fs_5_12) dX12_word_5 vl_X12_209 (ok_byteA (M := mw_setS M 26 (nI p1)) hs hn htp (k := p1) (by omega) hW) ?hc_5_12 ?hk_5_12 rfl rfl (Nat.le_of_ble_eq_true rfl) ?_; (case hc_5_12 => exact hW.1); (case hk_5_12 => rfl)
        rintro _ _ ⟨rfl, rfl⟩
        refine mm_bipush (pc := 8) (v := 10) dX12_word_8 (by decide) ?_
        refine mm_icmp_eq (pc := 10) (tgt := 26) dX12_word_10 (by decide) (fun c10 => absurd c10 (fun z => hst ⟨((bA_eq (c := 10) (fun i => (htp i).1) (by decide)).mp z).1, by rw [((bA_eq (c := 10) (fun i => (htp i).1) (by decide)).mp z).2]; rfl⟩)) (fun c10 => ?_)
        refine mm_aload_n (pc := 13) dX12_word_13 rfl (by first | trivial | assumption | exact mm_isr_rf _) ?_
        refine mm_aload_n (pc := 14) dX12_word_14 rfl (by first | trivial | assumption | exact mm_isr_rf _) ?_
        refine mw_gets (pc := 15) 26 hW dX12_word_15 fl_X12_206 rfl rfl ?_
        refine mm_callV (pc := 18) (As := [_]) (kd := ?kd_18_13) (fs := ?fs_18_13) dX12_word_18 vl_X12_209 (ok_byteA (M := mw_setS M 26 (nI p1)) hs hn htp (k := p1) (by omega) hW) ?hc_18_13 ?hk_18_13 rfl rfl (Nat.le_of_ble_eq_true rfl) ?_; (case hc_18_13 => exact hW.1); (case hk_18_13 => rfl)
        rintro _ _ ⟨rfl, rfl⟩
        refine mm_bipush (pc := 21) (v := 32) dX12_word_21 (by decide) ?_
        refine mm_icmp_ne (pc := 23) (tgt := 39) dX12_word_23 (by decide) (fun c23 => ?_) (fun c23 => absurd c23 (fun z => hst ⟨((bA_eq (c := 32) (fun i => (htp i).1) (by decide)).mp z).1, by rw [((bA_eq (c := 32) (fun i => (htp i).1) (by decide)).mp z).2]; rfl⟩))
        have hq2 : p1 = q := by rw [← hq, lx_stop hst]
        subst hq2
        exact mm_weakK (lpM_ _ hW eh) (And.intro rfl trivial)
  exact mm_weakK (lp_ (n - p) p (by omega) hpn hq h (by rw [mw_setS_self hp]; exact hW) rfl) (And.intro rfl trivial)

