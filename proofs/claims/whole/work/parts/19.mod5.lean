/-- sums copied beside record n, the first t of them -/
def rm_cp (M : mw_S) (n t : Nat) : mw_S := (M.1, M.2.1, M.2.2.1, (fun j i => if j = 60 ∧ 5 * n ≤ i ∧ i < 5 * n + t then M.2.2.2.1 53 (i - 5 * n) else M.2.2.2.1 j i), M.2.2.2.2)
theorem rm_cp_0 (M : mw_S) (n : Nat) : rm_cp M n 0 = M := by
  unfold rm_cp
  refine Prod.ext rfl (Prod.ext rfl (Prod.ext rfl (Prod.ext ?_ rfl)))
  funext j i
  show (if j = 60 ∧ 5 * n ≤ i ∧ i < 5 * n + 0 then M.2.2.2.1 53 (i - 5 * n) else M.2.2.2.1 j i) = M.2.2.2.1 j i
  rw [if_neg (by omega)]
theorem rm_cp_s (M : mw_S) (n t : Nat) : mw_setW (rm_cp M n t) 60 (5 * n + t) ((rm_cp M n t).2.2.2.1 53 t) = rm_cp M n (t + 1) := by
  unfold mw_setW
  refine Prod.ext rfl (Prod.ext rfl (Prod.ext rfl (Prod.ext ?_ rfl)))
  funext j i
  show mw_u2 (rm_cp M n t).2.2.2.1 60 (5 * n + t) (M.2.2.2.1 53 t) j i = (if j = 60 ∧ 5 * n ≤ i ∧ i < 5 * n + (t + 1) then M.2.2.2.1 53 (i - 5 * n) else M.2.2.2.1 j i)
  unfold mw_u2
  by_cases e : j = 60 ∧ i = 5 * n + t
  · rw [if_pos e, if_pos ⟨e.1, by omega, by omega⟩, e.2, show 5 * n + t - 5 * n = t by omega]
  · rw [if_neg e]
    show (if j = 60 ∧ 5 * n ≤ i ∧ i < 5 * n + t then M.2.2.2.1 53 (i - 5 * n) else M.2.2.2.1 j i) = _
    by_cases e2 : j = 60 ∧ 5 * n ≤ i ∧ i < 5 * n + t
    · rw [if_pos e2, if_pos ⟨e2.1, by omega, by omega⟩]
    · rw [if_neg e2, if_neg (fun z => e2 ⟨z.1, z.2.1, by
        have : ¬ i = 5 * n + t := fun q => e ⟨z.1, q⟩
        omega⟩)]
/-- sums taken back from beside record n -/
def rm_cb (M : mw_S) (n t : Nat) : mw_S := (M.1, M.2.1, M.2.2.1, (fun j i => if j = 53 ∧ i < t then M.2.2.2.1 60 (5 * n + i) else M.2.2.2.1 j i), M.2.2.2.2)
theorem rm_cb_0 (M : mw_S) (n : Nat) : rm_cb M n 0 = M := by
  unfold rm_cb
  refine Prod.ext rfl (Prod.ext rfl (Prod.ext rfl (Prod.ext ?_ rfl)))
  funext j i
  show (if j = 53 ∧ i < 0 then M.2.2.2.1 60 (5 * n + i) else M.2.2.2.1 j i) = M.2.2.2.1 j i
  rw [if_neg (by omega)]
theorem rm_cb_s (M : mw_S) (n t : Nat) : mw_setW (rm_cb M n t) 53 t ((rm_cb M n t).2.2.2.1 60 (5 * n + t)) = rm_cb M n (t + 1) := by
  unfold mw_setW
  refine Prod.ext rfl (Prod.ext rfl (Prod.ext rfl (Prod.ext ?_ rfl)))
  funext j i
  show mw_u2 (rm_cb M n t).2.2.2.1 53 t (M.2.2.2.1 60 (5 * n + t)) j i = (if j = 53 ∧ i < t + 1 then M.2.2.2.1 60 (5 * n + i) else M.2.2.2.1 j i)
  unfold mw_u2
  by_cases e : j = 53 ∧ i = t
  · rw [if_pos e, if_pos ⟨e.1, by omega⟩, e.2]
  · rw [if_neg e]
    show (if j = 53 ∧ i < t then M.2.2.2.1 60 (5 * n + i) else M.2.2.2.1 j i) = _
    by_cases e2 : j = 53 ∧ i < t
    · rw [if_pos e2, if_pos ⟨e2.1, by omega⟩]
    · rw [if_neg e2, if_neg (fun z => e2 ⟨z.1, by
        have : ¬ i = t := fun q => e ⟨z.1, q⟩
        omega⟩)]
def rm_rem0 (M : mw_S) (n : Nat) (w : Int32) (a : Nat) (x : Int32) (b : Nat) : mw_S :=
  mw_setV (mw_setV (mw_setV (mw_setV (mw_setV (mw_setV (mw_setV (mw_setV M 55 n w) 56 n (nI a)) 57 n x) 58 n (nI b)) 59 (4 * n) (M.2.2.1 51 a)) 59 (4 * n + 1) (M.2.2.1 52 a)) 59 (4 * n + 2) (M.2.2.1 51 b)) 59 (4 * n + 3) (M.2.2.1 52 b)
def rm_rem (M : mw_S) (n : Nat) (w : Int32) (a : Nat) (x : Int32) (b : Nat) : mw_S := rm_cp (rm_rem0 M n w a x b) n 5
def rm_rst0 (M : mw_S) (n a b : Nat) : mw_S :=
  mw_setV (mw_setV (mw_setV (mw_setV M 51 b (M.2.2.1 59 (4 * n + 2))) 52 b (M.2.2.1 59 (4 * n + 3))) 51 a (M.2.2.1 59 (4 * n))) 52 a (M.2.2.1 59 (4 * n + 1))
def rm_rst (M : mw_S) (n a b : Nat) : mw_S := rm_cb (rm_rst0 M n a b) n 5

theorem ok_X12_remember {G : mm_G} {L : Nat × Nat} {d : Nat} {h h0 : mm_H} {m : Nat} {ad : Nat → Nat} {M : mw_S} {w x : Int32} {a b n : Nat} (hs : M.1 54 = nI n) (hn : n < 600) (ha : a < 20) (hb : b < 20) (hW : mw_W m ad h0 M h) : mm_Ok G mX12_remember L (d) [.ref m, .int w, .int (nI a), .int x, .int (nI b)] h (fun r h1 => mw_W m ad h0 (rm_rem M n w a x b) h1 ∧ h1.2 = h.2 ∧ r = none) := by
  refine mm_Ok.of [(0, .ref m), (1, .int w), (2, .int (nI a)), (3, .int x), (4, .int (nI b))] rfl kX12_remember.2.2.2.2.2 rfl (fun A => ?_)
  have lp_ : ∀ (v t : Nat), t + v = 5 → ∀ h1 : mm_H, mw_W m ad h0 (rm_cp (rm_rem0 M n w a x b) n t) h1 → h1.2 = h.2 → mm_Run G mX12_remember A L d 120 [(5, .int (nI t)), (0, .ref m)] [] h1 (fun r h1 => mw_W m ad h0 (rm_rem M n w a x b) h1 ∧ h1.2 = h.2 ∧ r = none) := by
    intro v
    induction v with
    | zero =>
      intro t ht h1 hW eh
      obtain rfl : t = 5 := by omega
      refine mm_iload (pc := 120) dX12_remember_120 rfl ?_
      refine mm_iconst (pc := 122) (v := 5) dX12_remember_122 (by decide) ?_
      refine mm_icmp_ge (pc := 123) (tgt := 153) dX12_remember_123 (by decide) (fun c123 => ?_) (fun c123 => absurd (by decide) c123)
      refine mm_vret (pc := 153) dX12_remember_153 rfl ?_
      exact ⟨hW, eh, rfl⟩
    | succ v ih =>
      intro t ht h1 hW eh
      refine mm_iload (pc := 120) dX12_remember_120 rfl ?_
      refine mm_iconst (pc := 122) (v := 5) dX12_remember_122 (by decide) ?_
      refine mm_icmp_ge (pc := 123) (tgt := 153) dX12_remember_123 (by decide) (fun c123 => absurd c123 (nI_ge (b := 5) (by omega) (by decide))) (fun c123 => ?_)
      refine mm_aload_n (pc := 126) dX12_remember_126 rfl (by first | trivial | assumption | exact mm_isr_rf _) ?_
      refine mw_geta (pc := 127) 60 hW dX12_remember_127 fl_X12_140 rfl rfl ?_
      refine mm_iconst (pc := 130) (v := 5) dX12_remember_130 (by decide) ?_
      refine mm_aload_n (pc := 131) dX12_remember_131 rfl (by first | trivial | assumption | exact mm_isr_rf _) ?_
      refine mw_gets (pc := 132) 54 hW dX12_remember_132 fl_X12_440 rfl rfl ?_
      refine mm_imul (pc := 135) dX12_remember_135 ?_
      refine mm_iload (pc := 136) dX12_remember_136 rfl ?_
      refine mm_iadd (pc := 138) dX12_remember_138 ?_
      refine mm_aload_n (pc := 139) dX12_remember_139 rfl (by first | trivial | assumption | exact mm_isr_rf _) ?_
      refine mw_geta (pc := 140) 53 hW dX12_remember_140 fl_X12_121 rfl rfl ?_
      refine mm_iload (pc := 143) dX12_remember_143 rfl ?_
      refine mw_lald (pc := 145) 53 t hW dX12_remember_145 rfl rfl (by first | with_reducible rfl | assumption | rfl) (by show _ < 5; omega) (by omega) ?_
      refine mw_last (pc := 146) 60 (5 * n + t) hW dX12_remember_146 rfl rfl (mw_i5 hs rfl) (by show _ < 3000; omega) (by omega) (fun h146 hW e146 => ?_)
      rw [rm_cp_s] at hW
      refine mm_iinc (pc := 147) dX12_remember_147 rfl rfl rfl (Nat.le_of_ble_eq_true rfl) ?_
      refine mm_goto (pc := 150) (tgt := 120) dX12_remember_150 (by decide) ?_
      exact mm_weakK (ih (t + 1) (by omega) h146 hW (by rw [e146, eh])) (And.intro (by rw [← nI_1]; rfl) (And.intro rfl trivial))
  refine mm_aload_n (pc := 0) dX12_remember_0 rfl (by first | trivial | assumption | exact mm_isr_rf _) ?_
  refine mw_geta (pc := 1) 55 hW dX12_remember_1 fl_X12_125 rfl rfl ?_
  refine mm_aload_n (pc := 4) dX12_remember_4 rfl (by first | trivial | assumption | exact mm_isr_rf _) ?_
  refine mw_gets (pc := 5) 54 hW dX12_remember_5 fl_X12_440 rfl rfl ?_
  refine mm_iload_n (pc := 8) dX12_remember_8 rfl ?_
  refine mw_iast (pc := 9) 55 _ hW dX12_remember_9 rfl rfl (by first | with_reducible rfl | assumption | rfl) (by show _ < 600; omega) (by omega) (fun h9 hW e9 => ?_)
  refine mm_aload_n (pc := 10) dX12_remember_10 rfl (by first | trivial | assumption | exact mm_isr_rf _) ?_
  refine mw_geta (pc := 11) 56 hW dX12_remember_11 fl_X12_128 rfl rfl ?_
  refine mm_aload_n (pc := 14) dX12_remember_14 rfl (by first | trivial | assumption | exact mm_isr_rf _) ?_
  refine mw_gets (pc := 15) 54 hW dX12_remember_15 fl_X12_440 rfl rfl ?_
  refine mm_iload_n (pc := 18) dX12_remember_18 rfl ?_
  refine mw_iast (pc := 19) 56 _ hW dX12_remember_19 rfl rfl (by first | with_reducible rfl | assumption | rfl) (by show _ < 600; omega) (by omega) (fun h19 hW e19 => ?_)
  refine mm_aload_n (pc := 20) dX12_remember_20 rfl (by first | trivial | assumption | exact mm_isr_rf _) ?_
  refine mw_geta (pc := 21) 57 hW dX12_remember_21 fl_X12_131 rfl rfl ?_
  refine mm_aload_n (pc := 24) dX12_remember_24 rfl (by first | trivial | assumption | exact mm_isr_rf _) ?_
  refine mw_gets (pc := 25) 54 hW dX12_remember_25 fl_X12_440 rfl rfl ?_
  refine mm_iload_n (pc := 28) dX12_remember_28 rfl ?_
  refine mw_iast (pc := 29) 57 _ hW dX12_remember_29 rfl rfl (by first | with_reducible rfl | assumption | rfl) (by show _ < 600; omega) (by omega) (fun h29 hW e29 => ?_)
  refine mm_aload_n (pc := 30) dX12_remember_30 rfl (by first | trivial | assumption | exact mm_isr_rf _) ?_
  refine mw_geta (pc := 31) 58 hW dX12_remember_31 fl_X12_134 rfl rfl ?_
  refine mm_aload_n (pc := 34) dX12_remember_34 rfl (by first | trivial | assumption | exact mm_isr_rf _) ?_
  refine mw_gets (pc := 35) 54 hW dX12_remember_35 fl_X12_440 rfl rfl ?_
  refine mm_iload (pc := 38) dX12_remember_38 rfl ?_
  refine mw_iast (pc := 40) 58 _ hW dX12_remember_40 rfl rfl (by first | with_reducible rfl | assumption | rfl) (by show _ < 600; omega) (by omega) (fun h40 hW e40 => ?_)
  refine mm_aload_n (pc := 41) dX12_remember_41 rfl (by first | trivial | assumption | exact mm_isr_rf _) ?_
  refine mw_geta (pc := 42) 59 hW dX12_remember_42 fl_X12_137 rfl rfl ?_
  refine mm_iconst (pc := 45) (v := 4) dX12_remember_45 (by decide) ?_
  refine mm_aload_n (pc := 46) dX12_remember_46 rfl (by first | trivial | assumption | exact mm_isr_rf _) ?_
  refine mw_gets (pc := 47) 54 hW dX12_remember_47 fl_X12_440 rfl rfl ?_
  refine mm_imul (pc := 50) dX12_remember_50 ?_
  refine mm_aload_n (pc := 51) dX12_remember_51 rfl (by first | trivial | assumption | exact mm_isr_rf _) ?_
  refine mw_geta (pc := 52) 51 hW dX12_remember_52 fl_X12_115 rfl rfl ?_
  refine mm_iload_n (pc := 55) dX12_remember_55 rfl ?_
  refine mw_iald (pc := 56) 51 a hW dX12_remember_56 rfl rfl (by first | with_reducible rfl | assumption | rfl) (by show _ < 20; omega) (by omega) ?_
  refine mw_iast (pc := 57) 59 (4 * n) hW dX12_remember_57 rfl rfl (mw_i40 hs) (by show _ < 2400; omega) (by omega) (fun h57 hW e57 => ?_)
  refine mm_aload_n (pc := 58) dX12_remember_58 rfl (by first | trivial | assumption | exact mm_isr_rf _) ?_
  refine mw_geta (pc := 59) 59 hW dX12_remember_59 fl_X12_137 rfl rfl ?_
  refine mm_iconst (pc := 62) (v := 4) dX12_remember_62 (by decide) ?_
  refine mm_aload_n (pc := 63) dX12_remember_63 rfl (by first | trivial | assumption | exact mm_isr_rf _) ?_
  refine mw_gets (pc := 64) 54 hW dX12_remember_64 fl_X12_440 rfl rfl ?_
  refine mm_imul (pc := 67) dX12_remember_67 ?_
  refine mm_iconst (pc := 68) (v := 1) dX12_remember_68 (by decide) ?_
  refine mm_iadd (pc := 69) dX12_remember_69 ?_
  refine mm_aload_n (pc := 70) dX12_remember_70 rfl (by first | trivial | assumption | exact mm_isr_rf _) ?_
  refine mw_geta (pc := 71) 52 hW dX12_remember_71 fl_X12_118 rfl rfl ?_
  refine mm_iload_n (pc := 74) dX12_remember_74 rfl ?_
  refine mw_iald (pc := 75) 52 a hW dX12_remember_75 rfl rfl (by first | with_reducible rfl | assumption | rfl) (by show _ < 20; omega) (by omega) ?_
  refine mw_iast (pc := 76) 59 (4 * n + 1) hW dX12_remember_76 rfl rfl (mw_i4 hs (by decide)) (by show _ < 2400; omega) (by omega) (fun h76 hW e76 => ?_)
  refine mm_aload_n (pc := 77) dX12_remember_77 rfl (by first | trivial | assumption | exact mm_isr_rf _) ?_
  refine mw_geta (pc := 78) 59 hW dX12_remember_78 fl_X12_137 rfl rfl ?_
  refine mm_iconst (pc := 81) (v := 4) dX12_remember_81 (by decide) ?_
  refine mm_aload_n (pc := 82) dX12_remember_82 rfl (by first | trivial | assumption | exact mm_isr_rf _) ?_
  refine mw_gets (pc := 83) 54 hW dX12_remember_83 fl_X12_440 rfl rfl ?_
  refine mm_imul (pc := 86) dX12_remember_86 ?_
  refine mm_iconst (pc := 87) (v := 2) dX12_remember_87 (by decide) ?_
  refine mm_iadd (pc := 88) dX12_remember_88 ?_
  refine mm_aload_n (pc := 89) dX12_remember_89 rfl (by first | trivial | assumption | exact mm_isr_rf _) ?_
  refine mw_geta (pc := 90) 51 hW dX12_remember_90 fl_X12_115 rfl rfl ?_
  refine mm_iload (pc := 93) dX12_remember_93 rfl ?_
  refine mw_iald (pc := 95) 51 b hW dX12_remember_95 rfl rfl (by first | with_reducible rfl | assumption | rfl) (by show _ < 20; omega) (by omega) ?_
  refine mw_iast (pc := 96) 59 (4 * n + 2) hW dX12_remember_96 rfl rfl (mw_i4 hs (by decide)) (by show _ < 2400; omega) (by omega) (fun h96 hW e96 => ?_)
  refine mm_aload_n (pc := 97) dX12_remember_97 rfl (by first | trivial | assumption | exact mm_isr_rf _) ?_
  refine mw_geta (pc := 98) 59 hW dX12_remember_98 fl_X12_137 rfl rfl ?_
  refine mm_iconst (pc := 101) (v := 4) dX12_remember_101 (by decide) ?_
  refine mm_aload_n (pc := 102) dX12_remember_102 rfl (by first | trivial | assumption | exact mm_isr_rf _) ?_
  refine mw_gets (pc := 103) 54 hW dX12_remember_103 fl_X12_440 rfl rfl ?_
  refine mm_imul (pc := 106) dX12_remember_106 ?_
  refine mm_iconst (pc := 107) (v := 3) dX12_remember_107 (by decide) ?_
  refine mm_iadd (pc := 108) dX12_remember_108 ?_
  refine mm_aload_n (pc := 109) dX12_remember_109 rfl (by first | trivial | assumption | exact mm_isr_rf _) ?_
  refine mw_geta (pc := 110) 52 hW dX12_remember_110 fl_X12_118 rfl rfl ?_
  refine mm_iload (pc := 113) dX12_remember_113 rfl ?_
  refine mw_iald (pc := 115) 52 b hW dX12_remember_115 rfl rfl (by first | with_reducible rfl | assumption | rfl) (by show _ < 20; omega) (by omega) ?_
  refine mw_iast (pc := 116) 59 (4 * n + 3) hW dX12_remember_116 rfl rfl (mw_i4 hs (by decide)) (by show _ < 2400; omega) (by omega) (fun h116 hW e116 => ?_)
  refine mm_iconst (pc := 117) (v := 0) dX12_remember_117 (by decide) ?_
  refine mm_istore (pc := 118) dX12_remember_118 rfl (Nat.le_of_ble_eq_true rfl) ?_
  exact mm_weakK (lp_ 5 0 (by omega) h116 (by rw [rm_cp_0]; exact hW) (by rw [e116, e96, e76, e57, e40, e29, e19, e9])) (And.intro rfl (And.intro rfl trivial))

