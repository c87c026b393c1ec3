/-- sums copied beside record n, the first t of them -/
def rm_cp (M : mw_S) (n t : Nat) : mw_S := (M.1, M.2.1, M.2.2.1, (fun j i => if j = 60 ∧ 5 * n ≤ i ∧ i < 5 * n + t then M.2.2.2.1 53 (i - 5 * n) else M.2.2.2.1 j i), M.2.2.2.2)
theorem rm_cp_0 (M : mw_S) (n : Nat) : rm_cp M n 0 = M := by
  unfold rm_cp
  refine Prod.ext rfl (Prod.ext rfl (Prod.ext rfl (Prod.ext ?_ rfl)))
  funext j i
  show (if j = 60 ∧ 5 * n ≤ i ∧ i < 5 * n + 0 then M.2.2.2.1 53 (i - 5 * n) else M.2.2.2.1 j i) = M.2.2.2.1 j i
  rw [if_neg (by omega)]
theorem rm_cp_s (M : mw_S) (n t : Nat) : mw_setW (rm_cp M n t) 60 (5 * n + t) ((rm_cp M n t).2.2.2.1 53 t) = rm_cp M n (t + 1) := by
  unfold mw_setW
  refine Prod.ext rfl (Prod.ext rfl (Prod.ext rfl (Prod.ext ?_ rfl)))
  funext j i
  show mw_u2 (rm_cp M n t).2.2.2.1 60 (5 * n + t) (M.2.2.2.1 53 t) j i = (if j = 60 ∧ 5 * n ≤ i ∧ i < 5 * n + (t + 1) then M.2.2.2.1 53 (i - 5 * n) else M.2.2.2.1 j i)
  unfold mw_u2
  by_cases e : j = 60 ∧ i = 5 * n + t
  · rw [if_pos e, if_pos ⟨e.1, by omega, by omega⟩, e.2, show 5 * n + t - 5 * n = t by omega]
  · rw [if_neg e]
    show (if j = 60 ∧ 5 * n ≤ i ∧ i < 5 * n + t then M.2.2.2.1 53 (i - 5 * n) else M.2.2.2.1 j i) = _
    by_cases e2 : j = 60 ∧ 5 * n ≤ i ∧ i < 5 * n + t
    · rw [if_pos e2, if_pos ⟨e2.1, by omega, by omega⟩]
    · rw [if_neg e2, if_neg (fun z => e2 ⟨z.1, z.2.1, by
        have : ¬ i = 5 * n + t := fun q => e ⟨z.1, q⟩
        omega⟩)]
/-- sums taken back from beside record n -/
def rm_cb (M : mw_S) (n t : Nat) : mw_S := (M.1, M.2.1, M.2.2.1, (fun j i => if j = 53 ∧ i < t then M.2.2.2.1 60 (5 * n + i) else M.2.2.2.1 j i), M.2.2.2.2)
theorem rm_cb_0 (M : mw_S) (n : Nat) : rm_cb M n 0 = M := by
  unfold rm_cb
  refine Prod.ext rfl (Prod.ext rfl (Prod.ext rfl (Prod.ext ?_ rfl)))
  funext j i
  show (if j = 53 ∧ i < 0 then M.2.2.2.1 60 (5 * n + i) else M.2.2.2.1 j i) = M.2.2.2.1 j i
  rw [if_neg (by omega)]
theorem rm_cb_s (M : mw_S) (n t : Nat) : mw_setW (rm_cb M n t) 53 t ((rm_cb M n t).2.2.2.1 60 (5 * n + t)) = rm_cb M n (t + 1) := by
  unfold mw_setW
  refine Prod.ext rfl (Prod.ext rfl (Prod.ext rfl (Prod.ext ?_ rfl)))
  funext j i
  show mw_u2 (rm_cb M n t).2.2.2.1 53 t (M.2.2.2.1 60 (5 * n + t)) j i = (if j = 53 ∧ i < t + 1 then M.2.2.2.1 60 (5 * n + i) else M.2.2.2.1 j i)
  unfold mw_u2
  by_cases e : j = 53 ∧ i = t
  · rw [if_pos e, if_pos ⟨e.1, by omega⟩, e.2]
  · rw [if_neg e]
    show (if j = 53 ∧ i < t then M.2.2.2.1 60 (5 * n + i) else M.2.2.2.1 j i) = _
    by_cases e2 : j = 53 ∧ i < t
    · rw [if_pos e2, if_pos ⟨e2.1, by omega⟩]
    · rw [if_neg e2, if_neg (fun z => e2 ⟨z.1, by
        have : ¬ i = t := fun q => e ⟨z.1, q⟩
        omega⟩)]
def rm_rem0 (M : mw_S) (n : Nat) (w : Int32) (a : Nat) (x : Int32) (b : Nat) : mw_S :=
  mw_setV (mw_setV (mw_setV (mw_setV (mw_setV (mw_setV (mw_setV (mw_setV M 55 n w) 56 n (nI a)) 57 n x) 58 n (nI b)) 59 (4 * n) (M.2.2.1 51 a)) 59 (4 * n + 1) (M.2.2.1 52 a)) 59 (4 * n + 2) (M.2.2.1 51 b)) 59 (4 * n + 3) (M.2.2.1 52 b)
def rm_rem (M : mw_S) (n : Nat) (w : Int32) (a : Nat) (x : Int32) (b : Nat) : mw_S := rm_cp (rm_rem0 M n w a x b) n 5
def rm_rst0 (M : mw_S) (n a b : Nat) : mw_S :=
  mw_setV (mw_setV (mw_setV (mw_setV M 51 b (M.2.2.1 59 (4 * n + 2))) 52 b (M.2.2.1 59 (4 * n + 3))) 51 a (M.2.2.1 59 (4 * n))) 52 a (M.2.2.1 59 (4 * n + 1))
def rm_rst (M : mw_S) (n a b : Nat) : mw_S := rm_cb (rm_rst0 M n a b) n 5

theorem ok_X12_remember {G : mm_G} {L : Nat × Nat} {d : Nat} {h h0 : mm_H} {m : Nat} {ad : Nat → Nat} {M : mw_S} {w x : Int32} {a b n : Nat} (hs : M.1 54 = nI n) (hn : n < 600) (ha : a < 20) (hb : b < 20) (hW : mw_W m ad h0 M h) : mm_Ok G mX12_remember L (d) [.ref m, .int w, .int (nI a), .int x, .int (nI b)] h (fun r h1 => mw_W m ad h0 (rm_rem M n w a x b) h1 ∧ h1.2 = h.2 ∧ r = none) := by
  refine mm_Ok.of [(0, .ref m), (1, .int w), (2, .int (nI a)), (3, .int x), (4, .int (nI b))] rfl kX12_remember.2.2.2.2.2 rfl (fun A => ?_)
  have lp_ : ∀ (v t : Nat), t + v = 5 → ∀ h1 : mm_H, mw_W m ad h0 (rm_cp (rm_rem0 M n w a x b) n t) h1 → h1.2 = h.2 → mm_Run G mX12_remember A L d 120 [(5, .int (nI t)), (0, .ref m)] [] h1 (fun r h1 => mw_W m ad h0 (rm_rem M n w a x b) h1 ∧ h1.2 = h.2 ∧ r = none) := by
    intro v
    induction v with
    | zero =>
      intro t ht h1 hW eh
      obtain rfl : t = 5 := by omega
      refine mm_iload (pc := 120) dX12_remember_120 rfl ?_
      refine mm_iconst (pc := 122) (v := 5) dX12_remember_122 (by decide) ?_
      refine mm_icmp_ge (pc := 123) (tgt := 153) dX12_remember_123 (by decide) (fun c123 => ?_) (fun c123 => absurd (by decide) c123)
      refine mm_vret (pc := 153) dX12_remember_153 rfl ?_
      exact ⟨hW, eh, rfl⟩
    | succ v ih =>
      intro t ht h1 hW eh
      refine mm_iload (pc := 120) dX12_remember_120 rfl ?_
      refine mm_iconst (pc := 122) (v := 5) dX12_remember_122 (by decide) ?_
      refine mm_icmp_ge (pc := 123) (tgt := 153) dX12_remember_123 (by decide) (fun c123 => absurd c123 (nI_ge (b := 5) (by omega) (by decide))) (fun c123 => ?_)
      refine mm_aload_n (pc := 126) dX12_remember_126 rfl (by first | trivial | assumption | exact mm_isr_rf _) ?_
      refine mw_geta (pc := 127) 60 hW dX12_remember_127 fl_X12_140 rfl rfl ?_
      refine mm_iconst (pc := 130) (v := 5) dX12_remember_130 (by decide) ?_
      refine mm_aload_n (pc := 131) dX12_remember_131 rfl (by first | trivial | assumption | exact mm_isr_rf _) ?_
      refine mw_gets (pc := 132) 54 hW dX12_remember_132 fl_X12_440 rfl rfl ?_
      refine mm_imul (pc := 135) dX12_remember_135 ?_
      refine mm_iload (pc := 136) dX12_remember_136 rfl ?_
      refine mm_iadd (pc := 138) dX12_remember_138 ?_
      refine mm_aload_n (pc := 139) dX12_remember_139 rfl (by first | trivial | assumption | exact mm_isr_rf _) ?_
      refine mw_geta (pc := 140) 53 hW dX12_remember_140 fl_X12_121 rfl rfl ?_
      refine mm_iload (pc := 143) dX12_remember_143 rfl ?_
      refine mw_lald (pc := 145) 53 t hW dX12_remember_145 rfl rfl (by first | with_reducible rfl | assumption | rfl) (by show _ < 5; omega) (by omega) ?_
      refine mw_last (pc := 146) 60 (5 * n + t) hW dX12_remember_146 rfl rfl (mw_i5 hs rfl) (by show _ < 3000; omega) (by omega) (fun h146 hW e146 => ?_)
      rw [rm_cp_s] at hW
      refine mm_iinc (pc := 147) dX12_remember_147 rfl rfl rfl (Nat.le_of_ble_eq_true rfl) ?_
      refine mm_goto (pc := 150) (tgt := 120) dX12_remember_150 (by decide) ?_
      exact mm_weakK (ih (t + 1) (by omega) h146 hW (by rw [e146, eh])) (And.intro (by rw [← nI_1]; rfl) (And.intro rfl trivial))
  refine mm_aload_n (pc := 0) dX12_remember_0 rfl (by first | trivial | assumption | exact mm_isr_rf _) ?_
  refine mw_geta (pc := 1) 55 hW dX12_remember_1 fl_X12_125 rfl rfl ?_
  refine mm_aload_n (pc := 4) dX12_remember_4 rfl (by first | trivial | assumption | exact mm_isr_rf _) ?_
  refine mw_gets (pc := 5) 54 hW dX12_remember_5 fl_X12_440 rfl rfl ?_
  refine mm_iload_n (pc := 8) dX12_remember_8 rfl ?_
  refine mw_iast (pc := 9) 55 _ hW dX12_remember_9 rfl rfl (by first | with_reducible rfl | assumption | rfl) (by show _ < 600; omega) (by omega) (fun h9 hW e9 => ?_)
  refine mm_aload_n (pc := 10) dX12_remember_10 rfl (by first | trivial | assumption | exact mm_isr_rf _) ?_
  refine mw_geta (pc := 11) 56 hW dX12_remember_11 fl_X12_128 rfl rfl ?_
  refine mm_aload_n (pc := 14) dX12_remember_14 rfl (by first | trivial | assumption | exact mm_isr_rf _) ?_
  refine mw_gets (pc := 15) 54 hW dX12_remember_15 fl_X12_440 rfl rfl ?_
  refine mm_iload_n (pc := 18) dX12_remember_18 rfl ?_
  refine mw_iast (pc := 19) 56 _ hW dX12_remember_19 rfl rfl (by first | with_reducible rfl | assumption | rfl) (by show _ < 600; omega) (by omega) (fun h19 hW e19 => ?_)
  refine mm_aload_n (pc := 20) dX12_remember_20 rfl (by first | trivial | assumption | exact mm_isr_rf _) ?_
  refine mw_geta (pc := 21) 57 hW dX12_remember_21 fl_X12_131 rfl rfl ?_
  refine mm_aload_n (pc := 24) dX12_remember_24 rfl (by first | trivial | assumption | exact mm_isr_rf _) ?_
  refine mw_gets (pc := 25) 54 hW dX12_remember_25 fl_X12_440 rfl rfl ?_
  refine mm_iload_n (pc := 28) dX12_remember_28 rfl ?_
  refine mw_iast (pc := 29) 57 _ hW dX12_remember_29 rfl rfl (by first | with_reducible rfl | assumption | rfl) (by show _ < 600; omega) (by omega) (fun h29 hW e29 => ?_)
  refine mm_aload_n (pc := 30) dX12_remember_30 rfl (by first | trivial | assumption | exact mm_isr_rf _) ?_
  refine mw_geta (pc := 31) 58 hW dX12_remember_31 fl_X12_134 rfl rfl ?_
  refine mm_aload_n (pc := 34) dX12_remember_34 rfl (by first | trivial | assumption | exact mm_isr_rf _) ?_
  refine mw_gets (pc := 35) 54 hW dX12_remember_35 fl_X12_440 rfl rfl ?_
  refine mm_iload (pc := 38) dX12_remember_38 rfl ?_
  refine mw_iast (pc := 40) 58 _ hW dX12_remember_40 rfl rfl (by first | with_reducible rfl | assumption | rfl) (by show _ < 600; omega) (by omega) (fun h40 hW e40 => ?_)
  refine mm_aload_n (pc := 41) dX12_remember_41 rfl (by first | trivial | assumption | exact mm_isr_rf _) ?_
  refine mw_geta (pc := 42) 59 hW dX12_remember_42 fl_X12_137 rfl rfl ?_
  refine mm_iconst (pc := 45) (v := 4) dX12_remember_45 (by decide) ?_
  refine mm_aload_n (pc := 46) dX12_remember_46 rfl (by first | trivial | assumption | exact mm_isr_rf _) ?_
  refine mw_gets (pc := 47) 54 hW dX12_remember_47 fl_X12_440 rfl rfl ?_
  refine mm_imul (pc := 50) dX12_remember_50 ?_
  refine mm_aload_n (pc := 51) dX12_remember_51 rfl (by first | trivial | assumption | exact mm_isr_rf _) ?_
  refine mw_geta (pc := 52) 51 hW dX12_remember_52 fl_X12_115 rfl rfl ?_
  refine mm_iload_n (pc := 55) dX12_remember_55 rfl ?_
  refine mw_iald (pc := 56) 51 a hW dX12_remember_56 rfl rfl (by first | with_reducible rfl | assumption | rfl) (by show _ < 20; omega) (by omega) ?_
  refine mw_iast (pc := 57) 59 (4 * n) hW dX12_remember_57 rfl rfl (mw_i40 hs) (by show _ < 2400; omega) (by omega) (fun h57 hW e57 => ?_)
  refine mm_aload_n (pc := 58) dX12_remember_58 rfl (by first | trivial | assumption | exact mm_isr_rf _) ?_
  refine mw_geta (pc := 59) 59 hW dX12_remember_59 fl_X12_137 rfl rfl ?_
  refine mm_iconst (pc := 62) (v := 4) dX12_remember_62 (by decide) ?_
  refine mm_aload_n (pc := 63) dX12_remember_63 rfl (by first | trivial | assumption | exact mm_isr_rf _) ?_
  refine mw_gets (pc := 64) 54 hW dX12_remember_64 fl_X12_440 rfl rfl ?_
  refine mm_imul (pc := 67) dX12_remember_67 ?_
  refine mm_iconst (pc := 68) (v := 1) dX12_remember_68 (by decide) ?_
  refine mm_iadd (pc := 69) dX12_remember_69 ?_
  refine mm_aload_n (pc := 70) dX12_remember_70 rfl (by first | trivial | assumption | exact mm_isr_rf _) ?_
  refine mw_geta (pc := 71) 52 hW dX12_remember_71 fl_X12_118 rfl rfl ?_
  refine mm_iload_n (pc := 74) dX12_remember_74 rfl ?_
  refine mw_iald (pc := 75) 52 a hW dX12_remember_75 rfl rfl (by first | with_reducible rfl | assumption | rfl) (by show _ < 20; omega) (by omega) ?_
  refine mw_iast (pc := 76) 59 (4 * n + 1) hW dX12_remember_76 rfl rfl (mw_i4 hs (by decide)) (by show _ < 2400; omega) (by omega) (fun h76 hW e76 => ?_)
  refine mm_aload_n (pc := 77) dX12_remember_77 rfl (by first | trivial | assumption | exact mm_isr_rf _) ?_
  refine mw_geta (pc := 78) 59 hW dX12_remember_78 fl_X12_137 rfl rfl ?_
  refine mm_iconst (pc := 81) (v := 4) dX12_remember_81 (by decide) ?_
  refine mm_aload_n (pc := 82) dX12_remember_82 rfl (by first | trivial | assumption | exact mm_isr_rf _) ?_
  refine mw_gets (pc := 83) 54 hW dX12_remember_83 fl_X12_440 rfl rfl ?_
  refine mm_imul (pc := 86) dX12_remember_86 ?_
  refine mm_iconst (pc := 87) (v := 2) dX12_remember_87 (by decide) ?_
  refine mm_iadd (pc := 88) dX12_remember_88 ?_
  refine mm_aload_n (pc := 89) dX12_remember_89 rfl (by first | trivial | assumption | exact mm_isr_rf _) ?_
  refine mw_geta (pc := 90) 51 hW dX12_remember_90 fl_X12_115 rfl rfl ?_
  refine mm_iload (pc := 93) dX12_remember_93 rfl ?_
  refine mw_iald (pc := 95) 51 b hW dX12_remember_95 rfl rfl (by first | with_reducible rfl | assumption | rfl) (by show _ < 20; omega) (by omega) ?_
  refine mw_iast (pc := 96) 59 (4 * n + 2) hW dX12_remember_96 rfl rfl (mw_i4 hs (by decide)) (by show _ < 2400; omega) (by omega) (fun h96 hW e96 => ?_)
  refine mm_aload_n (pc := 97) dX12_remember_97 rfl (by first | trivial | assumption | exact mm_isr_rf _) ?_
  refine mw_geta (pc := 98) 59 hW dX12_remember_98 fl_X12_137 rfl rfl ?_
  refine mm_iconst (pc := 101) (v := 4) dX12_remember_101 (by decide) ?_
  refine mm_aload_n (pc := 102) dX12_remember_102 rfl (by first | trivial | assumption | exact mm_isr_rf _) ?_
  refine mw_gets (pc := 103) 54 hW dX12_remember_103 fl_X12_440 rfl rfl ?_
  refine mm_imul (pc := 106) dX12_remember_106 ?_
  refine mm_iconst (pc := 107) (v := 3) dX12_remember_107 (by decide) ?_
  refine mm_iadd (pc := 108) dX12_remember_108 ?_
  refine mm_aload_n (pc := 109) dX12_remember_109 rfl (by first | trivial | assumption | exact mm_isr_rf _) ?_
  refine mw_geta (pc := 110) 52 hW dX12_remember_110 fl_X12_118 rfl rfl ?_
  refine mm_iload (pc := 113) dX12_remember_113 rfl ?_
  refine mw_iald (pc := 115) 52 b hW dX12_remember_115 rfl rfl (by first | with_reducible rfl | assumption | rfl) (by show _ < 20; omega) (by omega) ?_
  refine mw_iast (pc := 116) 59 (4 * n + 3) hW dX12_remember_116 rfl rfl (mw_i4 hs (by decide)) (by show _ < 2400; omega) (by omega) (fun h116 hW e116 => ?_)
  refine mm_iconst (pc := 117) (v := 0) dX12_remember_117 (by decide) ?_
  refine mm_istore (pc := 118) dX12_remember_118 rfl (Nat.le_of_ble_eq_true rfl) ?_
  exact mm_weakK (lp_ 5 0 (by omega) h116 (by rw [rm_cp_0]; exact hW) (by rw [e116, e96, e76, e57, e40, e29, e19, e9])) (And.intro rfl (And.intro rfl trivial))

theorem ok_X12_restore {G : mm_G} {L : Nat × Nat} {d : Nat} {h h0 : mm_H} {m : Nat} {ad : Nat → Nat} {M : mw_S} {a b n : Nat} (hs : M.1 54 = nI n) (hn : n < 600) (ha : M.2.2.1 56 n = nI a) (hb : M.2.2.1 58 n = nI b) (ha20 : a < 20) (hb20 : b < 20) (hW : mw_W m ad h0 M h) : mm_Ok G mX12_restore L (d) [.ref m] h (fun r h1 => mw_W m ad h0 (rm_rst M n a b) h1 ∧ h1.2 = h.2 ∧ r = none) := by
  refine mm_Ok.of [(0, .ref m)] rfl kX12_restore.2.2.2.2.2 rfl (fun A => ?_)
  have lp_ : ∀ (v t : Nat), t + v = 5 → ∀ h1 : mm_H, mw_W m ad h0 (rm_cb (rm_rst0 M n a b) n t) h1 → h1.2 = h.2 → mm_Run G mX12_restore A L d 108 [(1, .int (nI t)), (0, .ref m)] [] h1 (fun r h1 => mw_W m ad h0 (rm_rst M n a b) h1 ∧ h1.2 = h.2 ∧ r = none) := by
    intro v
    induction v with
    | zero =>
      intro t ht h1 hW eh
      obtain rfl : t = 5 := by omega
      refine mm_iload_n (pc := 108) dX12_restore_108 rfl ?_
      refine mm_iconst (pc := 109) (v := 5) dX12_restore_109 (by decide) ?_
      refine mm_icmp_ge (pc := 110) (tgt := 138) dX12_restore_110 (by decide) (fun c110 => ?_) (fun c110 => absurd (by decide) c110)
      refine mm_vret (pc := 138) dX12_restore_138 rfl ?_
      exact ⟨hW, eh, rfl⟩
    | succ v ih =>
      intro t ht h1 hW eh
      refine mm_iload_n (pc := 108) dX12_restore_108 rfl ?_
      refine mm_iconst (pc := 109) (v := 5) dX12_restore_109 (by decide) ?_
      refine mm_icmp_ge (pc := 110) (tgt := 138) dX12_restore_110 (by decide) (fun c110 => absurd c110 (nI_ge (b := 5) (by omega) (by decide))) (fun c110 => ?_)
      refine mm_aload_n (pc := 113) dX12_restore_113 rfl (by first | trivial | assumption | exact mm_isr_rf _) ?_
      refine mw_geta (pc := 114) 53 hW dX12_restore_114 fl_X12_121 rfl rfl ?_
      refine mm_iload_n (pc := 117) dX12_restore_117 rfl ?_
      refine mm_aload_n (pc := 118) dX12_restore_118 rfl (by first | trivial | assumption | exact mm_isr_rf _) ?_
      refine mw_geta (pc := 119) 60 hW dX12_restore_119 fl_X12_140 rfl rfl ?_
      refine mm_iconst (pc := 122) (v := 5) dX12_restore_122 (by decide) ?_
      refine mm_aload_n (pc := 123) dX12_restore_123 rfl (by first | trivial | assumption | exact mm_isr_rf _) ?_
      refine mw_gets (pc := 124) 54 hW dX12_restore_124 fl_X12_440 rfl rfl ?_
      refine mm_imul (pc := 127) dX12_restore_127 ?_
      refine mm_iload_n (pc := 128) dX12_restore_128 rfl ?_
      refine mm_iadd (pc := 129) dX12_restore_129 ?_
      refine mw_lald (pc := 130) 60 (5 * n + t) hW dX12_restore_130 rfl rfl (mw_i5 hs rfl) (by show _ < 3000; omega) (by omega) ?_
      refine mw_last (pc := 131) 53 t hW dX12_restore_131 rfl rfl (by first | with_reducible rfl | assumption | rfl) (by show _ < 5; omega) (by omega) (fun h131 hW e131 => ?_)
      rw [rm_cb_s] at hW
      refine mm_iinc (pc := 132) dX12_restore_132 rfl rfl rfl (Nat.le_of_ble_eq_true rfl) ?_
      refine mm_goto (pc := 135) (tgt := 108) dX12_restore_135 (by decide) ?_
      exact mm_weakK (ih (t + 1) (by omega) h131 hW (by rw [e131, eh])) (And.intro (by rw [← nI_1]; rfl) (And.intro rfl trivial))
  refine mm_aload_n (pc := 0) dX12_restore_0 rfl (by first | trivial | assumption | exact mm_isr_rf _) ?_
  refine mw_geta (pc := 1) 51 hW dX12_restore_1 fl_X12_115 rfl rfl ?_
  refine mm_aload_n (pc := 4) dX12_restore_4 rfl (by first | trivial | assumption | exact mm_isr_rf _) ?_
  refine mw_geta (pc := 5) 58 hW dX12_restore_5 fl_X12_134 rfl rfl ?_
  refine mm_aload_n (pc := 8) dX12_restore_8 rfl (by first | trivial | assumption | exact mm_isr_rf _) ?_
  refine mw_gets (pc := 9) 54 hW dX12_restore_9 fl_X12_440 rfl rfl ?_
  refine mw_iald (pc := 12) 58 n hW dX12_restore_12 rfl rfl (by first | with_reducible rfl | assumption | rfl) (by show _ < 600; omega) (by omega) ?_
  refine mm_aload_n (pc := 13) dX12_restore_13 rfl (by first | trivial | assumption | exact mm_isr_rf _) ?_
  refine mw_geta (pc := 14) 59 hW dX12_restore_14 fl_X12_137 rfl rfl ?_
  refine mm_iconst (pc := 17) (v := 4) dX12_restore_17 (by decide) ?_
  refine mm_aload_n (pc := 18) dX12_restore_18 rfl (by first | trivial | assumption | exact mm_isr_rf _) ?_
  refine mw_gets (pc := 19) 54 hW dX12_restore_19 fl_X12_440 rfl rfl ?_
  refine mm_imul (pc := 22) dX12_restore_22 ?_
  refine mm_iconst (pc := 23) (v := 2) dX12_restore_23 (by decide) ?_
  refine mm_iadd (pc := 24) dX12_restore_24 ?_
  refine mw_iald (pc := 25) 59 (4 * n + 2) hW dX12_restore_25 rfl rfl (mw_i4 hs (by decide)) (by show _ < 2400; omega) (by omega) ?_
  refine mw_iast (pc := 26) 51 b hW dX12_restore_26 rfl rfl (hb) (by show _ < 20; omega) (by omega) (fun h26 hW e26 => ?_)
  refine mm_aload_n (pc := 27) dX12_restore_27 rfl (by first | trivial | assumption | exact mm_isr_rf _) ?_
  refine mw_geta (pc := 28) 52 hW dX12_restore_28 fl_X12_118 rfl rfl ?_
  refine mm_aload_n (pc := 31) dX12_restore_31 rfl (by first | trivial | assumption | exact mm_isr_rf _) ?_
  refine mw_geta (pc := 32) 58 hW dX12_restore_32 fl_X12_134 rfl rfl ?_
  refine mm_aload_n (pc := 35) dX12_restore_35 rfl (by first | trivial | assumption | exact mm_isr_rf _) ?_
  refine mw_gets (pc := 36) 54 hW dX12_restore_36 fl_X12_440 rfl rfl ?_
  refine mw_iald (pc := 39) 58 n hW dX12_restore_39 rfl rfl (by first | with_reducible rfl | assumption | rfl) (by show _ < 600; omega) (by omega) ?_
  refine mm_aload_n (pc := 40) dX12_restore_40 rfl (by first | trivial | assumption | exact mm_isr_rf _) ?_
  refine mw_geta (pc := 41) 59 hW dX12_restore_41 fl_X12_137 rfl rfl ?_
  refine mm_iconst (pc := 44) (v := 4) dX12_restore_44 (by decide) ?_
  refine mm_aload_n (pc := 45) dX12_restore_45 rfl (by first | trivial | assumption | exact mm_isr_rf _) ?_
  refine mw_gets (pc := 46) 54 hW dX12_restore_46 fl_X12_440 rfl rfl ?_
  refine mm_imul (pc := 49) dX12_restore_49 ?_
  refine mm_iconst (pc := 50) (v := 3) dX12_restore_50 (by decide) ?_
  refine mm_iadd (pc := 51) dX12_restore_51 ?_
  refine mw_iald (pc := 52) 59 (4 * n + 3) hW dX12_restore_52 rfl rfl (mw_i4 hs (by decide)) (by show _ < 2400; omega) (by omega) ?_
  refine mw_iast (pc := 53) 52 b hW dX12_restore_53 rfl rfl (hb) (by show _ < 20; omega) (by omega) (fun h53 hW e53 => ?_)
  refine mm_aload_n (pc := 54) dX12_restore_54 rfl (by first | trivial | assumption | exact mm_isr_rf _) ?_
  refine mw_geta (pc := 55) 51 hW dX12_restore_55 fl_X12_115 rfl rfl ?_
  refine mm_aload_n (pc := 58) dX12_restore_58 rfl (by first | trivial | assumption | exact mm_isr_rf _) ?_
  refine mw_geta (pc := 59) 56 hW dX12_restore_59 fl_X12_128 rfl rfl ?_
  refine mm_aload_n (pc := 62) dX12_restore_62 rfl (by first | trivial | assumption | exact mm_isr_rf _) ?_
  refine mw_gets (pc := 63) 54 hW dX12_restore_63 fl_X12_440 rfl rfl ?_
  refine mw_iald (pc := 66) 56 n hW dX12_restore_66 rfl rfl (by first | with_reducible rfl | assumption | rfl) (by show _ < 600; omega) (by omega) ?_
  refine mm_aload_n (pc := 67) dX12_restore_67 rfl (by first | trivial | assumption | exact mm_isr_rf _) ?_
  refine mw_geta (pc := 68) 59 hW dX12_restore_68 fl_X12_137 rfl rfl ?_
  refine mm_iconst (pc := 71) (v := 4) dX12_restore_71 (by decide) ?_
  refine mm_aload_n (pc := 72) dX12_restore_72 rfl (by first | trivial | assumption | exact mm_isr_rf _) ?_
  refine mw_gets (pc := 73) 54 hW dX12_restore_73 fl_X12_440 rfl rfl ?_
  refine mm_imul (pc := 76) dX12_restore_76 ?_
  refine mw_iald (pc := 77) 59 (4 * n) hW dX12_restore_77 rfl rfl (mw_i40 hs) (by show _ < 2400; omega) (by omega) ?_
  refine mw_iast (pc := 78) 51 a hW dX12_restore_78 rfl rfl (ha) (by show _ < 20; omega) (by omega) (fun h78 hW e78 => ?_)
  refine mm_aload_n (pc := 79) dX12_restore_79 rfl (by first | trivial | assumption | exact mm_isr_rf _) ?_
  refine mw_geta (pc := 80) 52 hW dX12_restore_80 fl_X12_118 rfl rfl ?_
  refine mm_aload_n (pc := 83) dX12_restore_83 rfl (by first | trivial | assumption | exact mm_isr_rf _) ?_
  refine mw_geta (pc := 84) 56 hW dX12_restore_84 fl_X12_128 rfl rfl ?_
  refine mm_aload_n (pc := 87) dX12_restore_87 rfl (by first | trivial | assumption | exact mm_isr_rf _) ?_
  refine mw_gets (pc := 88) 54 hW dX12_restore_88 fl_X12_440 rfl rfl ?_
  refine mw_iald (pc := 91) 56 n hW dX12_restore_91 rfl rfl (by first | with_reducible rfl | assumption | rfl) (by show _ < 600; omega) (by omega) ?_
  refine mm_aload_n (pc := 92) dX12_restore_92 rfl (by first | trivial | assumption | exact mm_isr_rf _) ?_
  refine mw_geta (pc := 93) 59 hW dX12_restore_93 fl_X12_137 rfl rfl ?_
  refine mm_iconst (pc := 96) (v := 4) dX12_restore_96 (by decide) ?_
  refine mm_aload_n (pc := 97) dX12_restore_97 rfl (by first | trivial | assumption | exact mm_isr_rf _) ?_
  refine mw_gets (pc := 98) 54 hW dX12_restore_98 fl_X12_440 rfl rfl ?_
  refine mm_imul (pc := 101) dX12_restore_101 ?_
  refine mm_iconst (pc := 102) (v := 1) dX12_restore_102 (by decide) ?_
  refine mm_iadd (pc := 103) dX12_restore_103 ?_
  refine mw_iald (pc := 104) 59 (4 * n + 1) hW dX12_restore_104 rfl rfl (mw_i4 hs (by decide)) (by show _ < 2400; omega) (by omega) ?_
  refine mw_iast (pc := 105) 52 a hW dX12_restore_105 rfl rfl (ha) (by show _ < 20; omega) (by omega) (fun h105 hW e105 => ?_)
  refine mm_iconst (pc := 106) (v := 0) dX12_restore_106 (by decide) ?_
  refine mm_istore_n (pc := 107) dX12_restore_107 rfl (Nat.le_of_ble_eq_true rfl) ?_
  exact mm_weakK (lp_ 5 0 (by omega) h105 (by rw [rm_cb_0]; exact hW) (by rw [e105, e78, e53, e26])) (And.intro rfl (And.intro rfl trivial))

theorem ok_X12_undo {G : mm_G} {L : Nat × Nat} {d : Nat} {h h0 : mm_H} {m : Nat} {ad : Nat → Nat} {M : mw_S} {a b n : Nat} (hs : M.1 54 = nI (n + 1)) (hn : n < 600) (ha : M.2.2.1 56 n = nI a) (hb : M.2.2.1 58 n = nI b) (ha20 : a < 20) (hb20 : b < 20) (hW : mw_W m ad h0 M h) : mm_Ok G mX12_undo L (d + 1) [.ref m] h (fun r h1 => mw_W m ad h0 (rm_rst (mw_setS M 54 (nI n)) n a b) h1 ∧ h1.2 = h.2 ∧ r = some (.int (nI n))) := by
  refine mm_Ok.of [(0, .ref m)] rfl kX12_undo.2.2.2.2.2 rfl (fun A => ?_)
  refine mm_aload_n (pc := 0) dX12_undo_0 rfl (by first | trivial | assumption | exact mm_isr_rf _) ?_
  refine mw_gets (pc := 1) 54 hW dX12_undo_1 fl_X12_440 rfl rfl ?_
  refine mm_if_ne (pc := 4) (tgt := 14) dX12_undo_4 (by decide) (fun c4 => ?_) (fun c4 => absurd c4 (by rw [hs]; exact nI_ne0 (by omega) (by omega)))
  refine mm_aload_n (pc := 14) dX12_undo_14 rfl (by first | trivial | assumption | exact mm_isr_rf _) ?_
  refine mm_dup (pc := 15) dX12_undo_15 rfl ?_
  refine mw_gets (pc := 16) 54 hW dX12_undo_16 fl_X12_440 rfl rfl ?_
  refine mm_iconst (pc := 19) (v := 1) dX12_undo_19 (by decide) ?_
  refine mm_isub (pc := 20) dX12_undo_20 ?_
  refine mm_topi _ (show M.1 54 - 1 = nI n by rw [hs]; exact nI_pred n) ?_
  refine mw_put (pc := 21) 54 hW dX12_undo_21 (pl_X12_440 _) rfl (fun h21 hW e21 => ?_)
  refine mm_aload_n (pc := 24) dX12_undo_24 rfl (by first | trivial | assumption | exact mm_isr_rf _) ?_
  refine mm_callV (pc := 25) (As := []) (kd := ?kd_25) (fs := ?fs_25) dX12_undo_25 vl_X12_499 (ok_X12_restore (M := mw_setS M 54 (nI n)) (n := n) rfl hn ha hb ha20 hb20 hW) ?hc_25 ?hk_25 rfl rfl (Nat.le_of_ble_eq_true rfl) ?_; (case hc_25 => exact hW.1); (case hk_25 => rfl)
  rintro _ h_ ⟨hW, e_, rfl⟩
  refine mm_aload_n (pc := 28) dX12_undo_28 rfl (by first | trivial | assumption | exact mm_isr_rf _) ?_
  refine mw_gets (pc := 29) 54 hW dX12_undo_29 fl_X12_440 rfl rfl ?_
  refine mm_iret (pc := 32) dX12_undo_32 rfl ?_
  exact ⟨hW, by rw [e_, e21], rfl⟩

theorem ok_X12_undoN {G : mm_G} {L : Nat × Nat} {d : Nat} {h h0 : mm_H} {m : Nat} {ad : Nat → Nat} {M : mw_S} (hs : M.1 54 = 0) (hW : mw_W m ad h0 M h) : mm_Ok G mX12_undo L (d + 1) [.ref m] h (fun r h1 => mw_W m ad h0 (rm_ans M 2) h1 ∧ h1.2 = h.2 ∧ r = some (.int (-2))) := by
  refine mm_Ok.of [(0, .ref m)] rfl kX12_undo.2.2.2.2.2 rfl (fun A => ?_)
  refine mm_aload_n (pc := 0) dX12_undo_0 rfl (by first | trivial | assumption | exact mm_isr_rf _) ?_
  refine mw_gets (pc := 1) 54 hW dX12_undo_1 fl_X12_440 rfl rfl ?_
  refine mm_if_ne (pc := 4) (tgt := 14) dX12_undo_4 (by decide) (fun c4 => absurd hs c4) (fun c4 => ?_)
  refine mm_aload_n (pc := 7) dX12_undo_7 rfl (by first | trivial | assumption | exact mm_isr_rf _) ?_
  refine mm_bipush (pc := 8) (v := (-2)) dX12_undo_8 (by decide) ?_
  refine mm_callV (pc := 10) (As := [_]) (kd := ?kd_10) (fs := ?fs_10) dX12_undo_10 vl_X12_189 (ok_X12_answer (x := -2) (c := 2) (by decide) (by decide) (by decide) hW) ?hc_10 ?hk_10 rfl rfl (Nat.le_of_ble_eq_true rfl) ?_; (case hc_10 => exact hW.1); (case hk_10 => rfl)
  rintro _ h_ ⟨hW, e_, rfl⟩
  refine mm_iret (pc := 13) dX12_undo_13 rfl ?_
  exact ⟨hW, e_, rfl⟩

theorem mw_pos64 {x w : Int32} (h1 : ¬ x < 1) (h2 : x ≤ w) : ¬ w.toInt64 = 0 := by
  intro e
  rw [Int32.lt_iff_toInt_lt, show (1 : Int32).toInt = 1 by decide] at h1
  rw [Int32.le_iff_toInt_le] at h2
  have := congrArg Int64.toInt e
  rw [Int32.toInt_toInt64] at this
  have z : (0 : Int64).toInt = 0 := by decide
  omega
def sp_room (M : mw_S) (a : Nat) (x y1 : Int64) : Int32 := if 0 < lg_cmp ((M.2.2.1 51 a).toInt64 + x) (M.2.2.1 50 a).toInt64 then 0 else if 0 < lg_cmp ((M.2.2.1 52 a).toInt64 + y1) 100000 then 0 else 1
def rm_charge (M : mw_S) (n a : Nat) (w x : Int32) : mw_S := mw_setS (mw_setW (mw_setW (mw_setV (mw_setV (rm_rem M n 1 a w a) 51 a (M.2.2.1 51 a + w)) 52 a (M.2.2.1 52 a + x)) 53 0 (M.2.2.2.1 53 0 + w.toInt64)) 53 3 (mw_u2 M.2.2.2.1 53 0 (M.2.2.2.1 53 0 + w.toInt64) 53 3 + x.toInt64)) 54 (nI (n + 1))
def sp_charge (M : mw_S) (n : Nat) (i w x : Int32) : Int32 × mw_S := if sp_in i (M.1 48) = 0 then (-1, rm_ans M 1) else if w < 0 then (-1, rm_ans M 1) else if x < 0 then (-1, rm_ans M 1) else if 100000 < w then (-1, rm_ans M 1) else if x ≤ 100000 then (if sp_room M i.toNatClampNeg w.toInt64 x.toInt64 = 0 then (-3, rm_ans M 3) else (M.2.2.1 51 i.toNatClampNeg + w, rm_charge M n i.toNatClampNeg w x)) else (-1, rm_ans M 1)

theorem ok_X12_charge {G : mm_G} {L : Nat × Nat} {d : Nat} {h h0 : mm_H} {m : Nat} {ad : Nat → Nat} {M : mw_S} {i w x : Int32} {na n : Nat} (hs : M.1 48 = nI na) (hn : na ≤ 20) (hs2 : M.1 54 = nI n) (hn2 : n < 600) (hW : mw_W m ad h0 M h) : mm_Ok G mX12_charge L (d + 1) [.ref m, .int i, .int w, .int x] h (fun r h1 => mw_W m ad h0 (sp_charge M n i w x).2 h1 ∧ h1.2 = h.2 ∧ r = some (.int (sp_charge M n i w x).1)) := by
  refine mm_Ok.of [(0, .ref m), (1, .int i), (2, .int w), (3, .int x)] rfl kX12_charge.2.2.2.2.2 rfl (fun A => ?_)
  refine mm_aload_n (pc := 0) dX12_charge_0 rfl (by first | trivial | assumption | exact mm_isr_rf _) ?_
  refine mm_iload_n (pc := 1) dX12_charge_1 rfl ?_
  refine mm_callV (pc := 2) (As := [_]) (kd := ?kd_2) (fs := ?fs_2) dX12_charge_2 vl_X12_445 (ok_X12_isApp hW) ?hc_2 ?hk_2 rfl rfl (Nat.le_of_ble_eq_true rfl) ?_; (case hc_2 => exact hW.1); (case hk_2 => rfl)
  rintro _ _ ⟨rfl, rfl⟩
  refine mm_if_eq (pc := 5) (tgt := 30) dX12_charge_5 (by decide) (fun c5 => ?_) (fun c5 => ?_)
  · refine mm_aload_n (pc := 30) dX12_charge_30 rfl (by first | trivial | assumption | exact mm_isr_rf _) ?_
    refine mm_iconst (pc := 31) (v := (-1)) dX12_charge_31 (by decide) ?_
    refine mm_callV (pc := 32) (As := [_]) (kd := ?kd_32) (fs := ?fs_32) dX12_charge_32 vl_X12_189 (ok_X12_answer (x := -1) (c := 1) (by decide) (by decide) (by decide) hW) ?hc_32 ?hk_32 rfl rfl (Nat.le_of_ble_eq_true rfl) ?_; (case hc_32 => exact hW.1); (case hk_32 => rfl)
    rintro _ h_ ⟨hW, e_, rfl⟩
    refine mm_iret (pc := 35) dX12_charge_35 rfl ?_
    unfold sp_charge
    rw [if_pos c5]
    exact ⟨hW, e_, rfl⟩
  · refine mm_iload_n (pc := 8) dX12_charge_8 rfl ?_
    refine mm_if_lt (pc := 9) (tgt := 30) dX12_charge_9 (by decide) (fun c9 => ?_) (fun c9 => ?_)
    · refine mm_aload_n (pc := 30) dX12_charge_30 rfl (by first | trivial | assumption | exact mm_isr_rf _) ?_
      refine mm_iconst (pc := 31) (v := (-1)) dX12_charge_31 (by decide) ?_
      refine mm_callV (pc := 32) (As := [_]) (kd := ?kd_32) (fs := ?fs_32) dX12_charge_32 vl_X12_189 (ok_X12_answer (x := -1) (c := 1) (by decide) (by decide) (by decide) hW) ?hc_32 ?hk_32 rfl rfl (Nat.le_of_ble_eq_true rfl) ?_; (case hc_32 => exact hW.1); (case hk_32 => rfl)
      rintro _ h_ ⟨hW, e_, rfl⟩
      refine mm_iret (pc := 35) dX12_charge_35 rfl ?_
      unfold sp_charge
      rw [if_neg c5, if_pos c9]
      exact ⟨hW, e_, rfl⟩
    · refine mm_iload_n (pc := 12) dX12_charge_12 rfl ?_
      refine mm_if_lt (pc := 13) (tgt := 30) dX12_charge_13 (by decide) (fun c13 => ?_) (fun c13 => ?_)
      · refine mm_aload_n (pc := 30) dX12_charge_30 rfl (by first | trivial | assumption | exact mm_isr_rf _) ?_
        refine mm_iconst (pc := 31) (v := (-1)) dX12_charge_31 (by decide) ?_
        refine mm_callV (pc := 32) (As := [_]) (kd := ?kd_32) (fs := ?fs_32) dX12_charge_32 vl_X12_189 (ok_X12_answer (x := -1) (c := 1) (by decide) (by decide) (by decide) hW) ?hc_32 ?hk_32 rfl rfl (Nat.le_of_ble_eq_true rfl) ?_; (case hc_32 => exact hW.1); (case hk_32 => rfl)
        rintro _ h_ ⟨hW, e_, rfl⟩
        refine mm_iret (pc := 35) dX12_charge_35 rfl ?_
        unfold sp_charge
        rw [if_neg c5, if_neg c9, if_pos c13]
        exact ⟨hW, e_, rfl⟩
      · refine mm_iload_n (pc := 16) dX12_charge_16 rfl ?_
        refine mm_ldc_w (pc := 17) dX12_charge_17 cn_X12_448 ?_
        refine mm_icmp_gt (pc := 20) (tgt := 30) dX12_charge_20 (by decide) (fun c20 => ?_) (fun c20 => ?_)
        · refine mm_aload_n (pc := 30) dX12_charge_30 rfl (by first | trivial | assumption | exact mm_isr_rf _) ?_
          refine mm_iconst (pc := 31) (v := (-1)) dX12_charge_31 (by decide) ?_
          refine mm_callV (pc := 32) (As := [_]) (kd := ?kd_32) (fs := ?fs_32) dX12_charge_32 vl_X12_189 (ok_X12_answer (x := -1) (c := 1) (by decide) (by decide) (by decide) hW) ?hc_32 ?hk_32 rfl rfl (Nat.le_of_ble_eq_true rfl) ?_; (case hc_32 => exact hW.1); (case hk_32 => rfl)
          rintro _ h_ ⟨hW, e_, rfl⟩
          refine mm_iret (pc := 35) dX12_charge_35 rfl ?_
          unfold sp_charge
          rw [if_neg c5, if_neg c9, if_neg c13, if_pos c20]
          exact ⟨hW, e_, rfl⟩
        · refine mm_iload_n (pc := 23) dX12_charge_23 rfl ?_
          refine mm_ldc_w (pc := 24) dX12_charge_24 cn_X12_448 ?_
          refine mm_icmp_le (pc := 27) (tgt := 36) dX12_charge_27 (by decide) (fun c27 => ?_) (fun c27 => ?_)
          · obtain ⟨k_, hk_, rfl⟩ := sp_in_of c5 hs (by omega)
            refine mm_aload_n (pc := 36) dX12_charge_36 rfl (by first | trivial | assumption | exact mm_isr_rf _) ?_
            refine mm_iload_n (pc := 37) dX12_charge_37 rfl ?_
            refine mm_iload_n (pc := 38) dX12_charge_38 rfl ?_
            refine mm_i2l (pc := 39) dX12_charge_39 ?_
            refine mm_iload_n (pc := 40) dX12_charge_40 rfl ?_
            refine mm_i2l (pc := 41) dX12_charge_41 ?_
            refine mm_callV (pc := 42) (As := [_, _, _]) (kd := ?kd_42) (fs := ?fs_42) dX12_charge_42 vl_X12_449 (ok_X12_isRoom (a := k_) (by omega) hW) ?hc_42 ?hk_42 rfl rfl (Nat.le_of_ble_eq_true rfl) ?_; (case hc_42 => exact hW.1); (case hk_42 => rfl)
            rintro _ _ ⟨rfl, rfl⟩
            refine mm_if_ne (pc := 45) (tgt := 55) dX12_charge_45 (by decide) (fun c45 => ?_) (fun c45 => ?_)
            · refine mm_aload_n (pc := 55) dX12_charge_55 rfl (by first | trivial | assumption | exact mm_isr_rf _) ?_
              refine mm_iconst (pc := 56) (v := 1) dX12_charge_56 (by decide) ?_
              refine mm_iload_n (pc := 57) dX12_charge_57 rfl ?_
              refine mm_iload_n (pc := 58) dX12_charge_58 rfl ?_
              refine mm_iload_n (pc := 59) dX12_charge_59 rfl ?_
              refine mm_callV (pc := 60) (As := [_, _, _, _]) (kd := ?kd_60) (fs := ?fs_60) dX12_charge_60 vl_X12_453 (ok_X12_remember (a := k_) (b := k_) hs2 hn2 (by omega) (by omega) hW) ?hc_60 ?hk_60 rfl rfl (Nat.le_of_ble_eq_true rfl) ?_; (case hc_60 => exact hW.1); (case hk_60 => rfl)
              rintro _ h60 ⟨hW, e60, rfl⟩
              refine mm_aload_n (pc := 63) dX12_charge_63 rfl (by first | trivial | assumption | exact mm_isr_rf _) ?_
              refine mw_geta (pc := 64) 51 hW dX12_charge_64 fl_X12_115 rfl rfl ?_
              refine mm_iload_n (pc := 67) dX12_charge_67 rfl ?_
              refine mm_dup2 (pc := 68) dX12_charge_68 rfl rfl ?_
              refine mw_iald (pc := 69) 51 k_ hW dX12_charge_69 rfl rfl (by first | with_reducible rfl | assumption | rfl) (by show _ < 20; omega) (by omega) ?_
              refine mm_iload_n (pc := 70) dX12_charge_70 rfl ?_
              refine mm_iadd (pc := 71) dX12_charge_71 ?_
              refine mw_iast (pc := 72) 51 k_ hW dX12_charge_72 rfl rfl (by first | with_reducible rfl | assumption | rfl) (by show _ < 20; omega) (by omega) (fun h72 hW e72 => ?_)
              refine mm_aload_n (pc := 73) dX12_charge_73 rfl (by first | trivial | assumption | exact mm_isr_rf _) ?_
              refine mw_geta (pc := 74) 52 hW dX12_charge_74 fl_X12_118 rfl rfl ?_
              refine mm_iload_n (pc := 77) dX12_charge_77 rfl ?_
              refine mm_dup2 (pc := 78) dX12_charge_78 rfl rfl ?_
              refine mw_iald (pc := 79) 52 k_ hW dX12_charge_79 rfl rfl (by first | with_reducible rfl | assumption | rfl) (by show _ < 20; omega) (by omega) ?_
              refine mm_iload_n (pc := 80) dX12_charge_80 rfl ?_
              refine mm_iadd (pc := 81) dX12_charge_81 ?_
              refine mw_iast (pc := 82) 52 k_ hW dX12_charge_82 rfl rfl (by first | with_reducible rfl | assumption | rfl) (by show _ < 20; omega) (by omega) (fun h82 hW e82 => ?_)
              refine mm_aload_n (pc := 83) dX12_charge_83 rfl (by first | trivial | assumption | exact mm_isr_rf _) ?_
              refine mw_geta (pc := 84) 53 hW dX12_charge_84 fl_X12_121 rfl rfl ?_
              refine mm_iconst (pc := 87) (v := 0) dX12_charge_87 (by decide) ?_
              refine mm_dup2 (pc := 88) dX12_charge_88 rfl rfl ?_
              refine mw_lald (pc := 89) 53 0 hW dX12_charge_89 rfl rfl (by decide) (by show _ < 5; omega) (by omega) ?_
              refine mm_iload_n (pc := 90) dX12_charge_90 rfl ?_
              refine mm_i2l (pc := 91) dX12_charge_91 ?_
              refine mm_ladd (pc := 92) dX12_charge_92 ?_
              refine mw_last (pc := 93) 53 0 hW dX12_charge_93 rfl rfl (by decide) (by show _ < 5; omega) (by omega) (fun h93 hW e93 => ?_)
              refine mm_aload_n (pc := 94) dX12_charge_94 rfl (by first | trivial | assumption | exact mm_isr_rf _) ?_
              refine mw_geta (pc := 95) 53 hW dX12_charge_95 fl_X12_121 rfl rfl ?_
              refine mm_iconst (pc := 98) (v := 3) dX12_charge_98 (by decide) ?_
              refine mm_dup2 (pc := 99) dX12_charge_99 rfl rfl ?_
              refine mw_lald (pc := 100) 53 3 hW dX12_charge_100 rfl rfl (by decide) (by show _ < 5; omega) (by omega) ?_
              refine mm_iload_n (pc := 101) dX12_charge_101 rfl ?_
              refine mm_i2l (pc := 102) dX12_charge_102 ?_
              refine mm_ladd (pc := 103) dX12_charge_103 ?_
              refine mw_last (pc := 104) 53 3 hW dX12_charge_104 rfl rfl (by decide) (by show _ < 5; omega) (by omega) (fun h104 hW e104 => ?_)
              refine mm_aload_n (pc := 105) dX12_charge_105 rfl (by first | trivial | assumption | exact mm_isr_rf _) ?_
              refine mm_dup (pc := 106) dX12_charge_106 rfl ?_
              refine mw_gets (pc := 107) 54 hW dX12_charge_107 fl_X12_440 rfl rfl ?_
              refine mm_iconst (pc := 110) (v := 1) dX12_charge_110 (by decide) ?_
              refine mm_iadd (pc := 111) dX12_charge_111 ?_
              refine mm_topi _ (show M.1 54 + 1 = nI (n + 1) by rw [hs2, nI_1]) ?_
              refine mw_put (pc := 112) 54 hW dX12_charge_112 (pl_X12_440 _) rfl (fun h112 hW e112 => ?_)
              refine mm_aload_n (pc := 115) dX12_charge_115 rfl (by first | trivial | assumption | exact mm_isr_rf _) ?_
              refine mw_geta (pc := 116) 51 hW dX12_charge_116 fl_X12_115 rfl rfl ?_
              refine mm_iload_n (pc := 119) dX12_charge_119 rfl ?_
              refine mw_iald (pc := 120) 51 k_ hW dX12_charge_120 rfl rfl (by first | with_reducible rfl | assumption | rfl) (by show _ < 20; omega) (by omega) ?_
              refine mm_iret (pc := 121) dX12_charge_121 rfl ?_
              unfold sp_charge sp_room
              rw [nI_clamp (by omega)]
              rw [if_neg c5, if_neg c9, if_neg c13, if_neg c20, if_pos c27, if_neg c45]
              exact ⟨hW, by rw [e112, e104, e93, e82, e72, e60], congrArg (fun z => some (Value.int z)) (if_pos ⟨rfl, rfl⟩)⟩
            · refine mm_aload_n (pc := 48) dX12_charge_48 rfl (by first | trivial | assumption | exact mm_isr_rf _) ?_
              refine mm_bipush (pc := 49) (v := (-3)) dX12_charge_49 (by decide) ?_
              refine mm_callV (pc := 51) (As := [_]) (kd := ?kd_51) (fs := ?fs_51) dX12_charge_51 vl_X12_189 (ok_X12_answer (x := -3) (c := 3) (by decide) (by decide) (by decide) hW) ?hc_51 ?hk_51 rfl rfl (Nat.le_of_ble_eq_true rfl) ?_; (case hc_51 => exact hW.1); (case hk_51 => rfl)
              rintro _ h_ ⟨hW, e_, rfl⟩
              refine mm_iret (pc := 54) dX12_charge_54 rfl ?_
              unfold sp_charge sp_room
              rw [nI_clamp (by omega)]
              rw [if_neg c5, if_neg c9, if_neg c13, if_neg c20, if_pos c27, if_pos c45]
              exact ⟨hW, e_, rfl⟩
          · refine mm_aload_n (pc := 30) dX12_charge_30 rfl (by first | trivial | assumption | exact mm_isr_rf _) ?_
            refine mm_iconst (pc := 31) (v := (-1)) dX12_charge_31 (by decide) ?_
            refine mm_callV (pc := 32) (As := [_]) (kd := ?kd_32) (fs := ?fs_32) dX12_charge_32 vl_X12_189 (ok_X12_answer (x := -1) (c := 1) (by decide) (by decide) (by decide) hW) ?hc_32 ?hk_32 rfl rfl (Nat.le_of_ble_eq_true rfl) ?_; (case hc_32 => exact hW.1); (case hk_32 => rfl)
            rintro _ h_ ⟨hW, e_, rfl⟩
            refine mm_iret (pc := 35) dX12_charge_35 rfl ?_
            unfold sp_charge
            rw [if_neg c5, if_neg c9, if_neg c13, if_neg c20, if_neg c27]
            exact ⟨hW, e_, rfl⟩

def rm_make (M : mw_S) (a : Nat) (k s : Int32) : mw_S := mw_setS (mw_setV (mw_setV (mw_setV (mw_setV M 49 a k) 50 a s) 51 a 0) 52 a 0) 48 (nI (a + 1))
def sp_makeR (M : mw_S) (na : Nat) (i s : Int32) : Int32 × mw_S := if M.1 48 = 20 then (-3, rm_ans M 3) else (nI na, rm_make M na i s)
def sp_make (M : mw_S) (na : Nat) (i s : Int32) : Int32 × mw_S := if sp_in i (M.1 3) = 0 then (-1, rm_ans M 1) else if s < 0 then (-1, rm_ans M 1) else if s ≤ 10000 then (if M.2.2.1 7 i.toNatClampNeg < 0 then sp_makeR M na i s else if M.2.2.1 22 (M.2.2.1 7 i.toNatClampNeg).toNatClampNeg = 0 then sp_makeR M na i s else (-4, rm_ans M 4)) else (-1, rm_ans M 1)

theorem ok_X12_make {G : mm_G} {L : Nat × Nat} {d : Nat} {h h0 : mm_H} {m : Nat} {ad : Nat → Nat} {M : mw_S} {i s : Int32} {nk na : Nat} (hs : M.1 3 = nI nk) (hn : nk ≤ 50) (hs2 : M.1 48 = nI na) (hn2 : na ≤ 20) (hp : ∀ k, k < nk → M.2.2.1 7 k < 0 ∨ ∃ p, p < 12 ∧ M.2.2.1 7 k = nI p) (hW : mw_W m ad h0 M h) : mm_Ok G mX12_make L (d + 1) [.ref m, .int i, .int s] h (fun r h1 => mw_W m ad h0 (sp_make M na i s).2 h1 ∧ h1.2 = h.2 ∧ r = some (.int (sp_make M na i s).1)) := by
  refine mm_Ok.of [(0, .ref m), (1, .int i), (2, .int s)] rfl kX12_make.2.2.2.2.2 rfl (fun A => ?_)
  refine mm_aload_n (pc := 0) dX12_make_0 rfl (by first | trivial | assumption | exact mm_isr_rf _) ?_
  refine mm_iload_n (pc := 1) dX12_make_1 rfl ?_
  refine mm_callV (pc := 2) (As := [_]) (kd := ?kd_2) (fs := ?fs_2) dX12_make_2 vl_X12_428 (ok_X12_isKind hW) ?hc_2 ?hk_2 rfl rfl (Nat.le_of_ble_eq_true rfl) ?_; (case hc_2 => exact hW.1); (case hk_2 => rfl)
  rintro _ _ ⟨rfl, rfl⟩
  refine mm_if_eq (pc := 5) (tgt := 19) dX12_make_5 (by decide) (fun c5 => ?_) (fun c5 => ?_)
  · refine mm_aload_n (pc := 19) dX12_make_19 rfl (by first | trivial | assumption | exact mm_isr_rf _) ?_
    refine mm_iconst (pc := 20) (v := (-1)) dX12_make_20 (by decide) ?_
    refine mm_callV (pc := 21) (As := [_]) (kd := ?kd_21) (fs := ?fs_21) dX12_make_21 vl_X12_189 (ok_X12_answer (x := -1) (c := 1) (by decide) (by decide) (by decide) hW) ?hc_21 ?hk_21 rfl rfl (Nat.le_of_ble_eq_true rfl) ?_; (case hc_21 => exact hW.1); (case hk_21 => rfl)
    rintro _ h_ ⟨hW, e_, rfl⟩
    refine mm_iret (pc := 24) dX12_make_24 rfl ?_
    unfold sp_make
    rw [if_pos c5]
    exact ⟨hW, e_, rfl⟩
  · refine mm_iload_n (pc := 8) dX12_make_8 rfl ?_
    refine mm_if_lt (pc := 9) (tgt := 19) dX12_make_9 (by decide) (fun c9 => ?_) (fun c9 => ?_)
    · refine mm_aload_n (pc := 19) dX12_make_19 rfl (by first | trivial | assumption | exact mm_isr_rf _) ?_
      refine mm_iconst (pc := 20) (v := (-1)) dX12_make_20 (by decide) ?_
      refine mm_callV (pc := 21) (As := [_]) (kd := ?kd_21) (fs := ?fs_21) dX12_make_21 vl_X12_189 (ok_X12_answer (x := -1) (c := 1) (by decide) (by decide) (by decide) hW) ?hc_21 ?hk_21 rfl rfl (Nat.le_of_ble_eq_true rfl) ?_; (case hc_21 => exact hW.1); (case hk_21 => rfl)
      rintro _ h_ ⟨hW, e_, rfl⟩
      refine mm_iret (pc := 24) dX12_make_24 rfl ?_
      unfold sp_make
      rw [if_neg c5, if_pos c9]
      exact ⟨hW, e_, rfl⟩
    · refine mm_iload_n (pc := 12) dX12_make_12 rfl ?_
      refine mm_sipush (pc := 13) (v := 10000) dX12_make_13 (by decide) ?_
      refine mm_icmp_le (pc := 16) (tgt := 25) dX12_make_16 (by decide) (fun c16 => ?_) (fun c16 => ?_)
      · obtain ⟨k_, hk_, rfl⟩ := sp_in_of c5 hs (by omega)
        refine mm_aload_n (pc := 25) dX12_make_25 rfl (by first | trivial | assumption | exact mm_isr_rf _) ?_
        refine mw_geta (pc := 26) 7 hW dX12_make_26 fl_X12_29 rfl rfl ?_
        refine mm_iload_n (pc := 29) dX12_make_29 rfl ?_
        refine mw_iald (pc := 30) 7 k_ hW dX12_make_30 rfl rfl (by first | with_reducible rfl | assumption | rfl) (by show _ < 50; omega) (by omega) ?_
        refine mm_if_lt (pc := 31) (tgt := 55) dX12_make_31 (by decide) (fun c31 => ?_) (fun c31 => ?_)
        · refine mm_aload_n (pc := 55) dX12_make_55 rfl (by first | trivial | assumption | exact mm_isr_rf _) ?_
          refine mw_gets (pc := 56) 48 hW dX12_make_56 fl_X12_437 rfl rfl ?_
          refine mm_bipush (pc := 59) (v := 20) dX12_make_59 (by decide) ?_
          refine mm_icmp_ne (pc := 61) (tgt := 71) dX12_make_61 (by decide) (fun c61 => ?_) (fun c61 => ?_)
          · have hna : na < 20 := by
              rcases Nat.lt_or_ge na 20 with q | q
              · exact q
              · exact absurd (by rw [hs2, show na = 20 by omega]; decide) c61
            refine mm_aload_n (pc := 71) dX12_make_71 rfl (by first | trivial | assumption | exact mm_isr_rf _) ?_
            refine mw_geta (pc := 72) 49 hW dX12_make_72 fl_X12_109 rfl rfl ?_
            refine mm_aload_n (pc := 75) dX12_make_75 rfl (by first | trivial | assumption | exact mm_isr_rf _) ?_
            refine mw_gets (pc := 76) 48 hW dX12_make_76 fl_X12_437 rfl rfl ?_
            refine mm_iload_n (pc := 79) dX12_make_79 rfl ?_
            refine mw_iast (pc := 80) 49 _ hW dX12_make_80 rfl rfl (by first | with_reducible rfl | assumption | rfl) (by show _ < 20; omega) (by omega) (fun h80 hW e80 => ?_)
            refine mm_aload_n (pc := 81) dX12_make_81 rfl (by first | trivial | assumption | exact mm_isr_rf _) ?_
            refine mw_geta (pc := 82) 50 hW dX12_make_82 fl_X12_112 rfl rfl ?_
            refine mm_aload_n (pc := 85) dX12_make_85 rfl (by first | trivial | assumption | exact mm_isr_rf _) ?_
            refine mw_gets (pc := 86) 48 hW dX12_make_86 fl_X12_437 rfl rfl ?_
            refine mm_iload_n (pc := 89) dX12_make_89 rfl ?_
            refine mw_iast (pc := 90) 50 _ hW dX12_make_90 rfl rfl (by first | with_reducible rfl | assumption | rfl) (by show _ < 20; omega) (by omega) (fun h90 hW e90 => ?_)
            refine mm_aload_n (pc := 91) dX12_make_91 rfl (by first | trivial | assumption | exact mm_isr_rf _) ?_
            refine mw_geta (pc := 92) 51 hW dX12_make_92 fl_X12_115 rfl rfl ?_
            refine mm_aload_n (pc := 95) dX12_make_95 rfl (by first | trivial | assumption | exact mm_isr_rf _) ?_
            refine mw_gets (pc := 96) 48 hW dX12_make_96 fl_X12_437 rfl rfl ?_
            refine mm_iconst (pc := 99) (v := 0) dX12_make_99 (by decide) ?_
            refine mw_iast (pc := 100) 51 _ hW dX12_make_100 rfl rfl (by first | with_reducible rfl | assumption | rfl) (by show _ < 20; omega) (by omega) (fun h100 hW e100 => ?_)
            refine mm_aload_n (pc := 101) dX12_make_101 rfl (by first | trivial | assumption | exact mm_isr_rf _) ?_
            refine mw_geta (pc := 102) 52 hW dX12_make_102 fl_X12_118 rfl rfl ?_
            refine mm_aload_n (pc := 105) dX12_make_105 rfl (by first | trivial | assumption | exact mm_isr_rf _) ?_
            refine mw_gets (pc := 106) 48 hW dX12_make_106 fl_X12_437 rfl rfl ?_
            refine mm_iconst (pc := 109) (v := 0) dX12_make_109 (by decide) ?_
            refine mw_iast (pc := 110) 52 _ hW dX12_make_110 rfl rfl (by first | with_reducible rfl | assumption | rfl) (by show _ < 20; omega) (by omega) (fun h110 hW e110 => ?_)
            refine mm_aload_n (pc := 111) dX12_make_111 rfl (by first | trivial | assumption | exact mm_isr_rf _) ?_
            refine mm_dup (pc := 112) dX12_make_112 rfl ?_
            refine mw_gets (pc := 113) 48 hW dX12_make_113 fl_X12_437 rfl rfl ?_
            refine mm_iconst (pc := 116) (v := 1) dX12_make_116 (by decide) ?_
            refine mm_iadd (pc := 117) dX12_make_117 ?_
            refine mm_topi _ (show M.1 48 + 1 = nI (na + 1) by rw [hs2, nI_1]) ?_
            refine mw_put (pc := 118) 48 hW dX12_make_118 (pl_X12_437 _) rfl (fun h118 hW e118 => ?_)
            refine mm_aload_n (pc := 121) dX12_make_121 rfl (by first | trivial | assumption | exact mm_isr_rf _) ?_
            refine mw_gets (pc := 122) 48 hW dX12_make_122 fl_X12_437 rfl rfl ?_
            refine mm_iconst (pc := 125) (v := 1) dX12_make_125 (by decide) ?_
            refine mm_isub (pc := 126) dX12_make_126 ?_
            refine mm_topi _ (nI_pred na) ?_
            refine mm_iret (pc := 127) dX12_make_127 rfl ?_
            unfold sp_make sp_makeR
            rw [nI_clamp (by omega)]
            rw [if_neg c5, if_neg c9, if_pos c16, if_pos c31, if_neg c61]
            exact ⟨hW, by rw [e118, e110, e100, e90, e80], rfl⟩
          · refine mm_aload_n (pc := 64) dX12_make_64 rfl (by first | trivial | assumption | exact mm_isr_rf _) ?_
            refine mm_bipush (pc := 65) (v := (-3)) dX12_make_65 (by decide) ?_
            refine mm_callV (pc := 67) (As := [_]) (kd := ?kd_67) (fs := ?fs_67) dX12_make_67 vl_X12_189 (ok_X12_answer (x := -3) (c := 3) (by decide) (by decide) (by decide) hW) ?hc_67 ?hk_67 rfl rfl (Nat.le_of_ble_eq_true rfl) ?_; (case hc_67 => exact hW.1); (case hk_67 => rfl)
            rintro _ h_ ⟨hW, e_, rfl⟩
            refine mm_iret (pc := 70) dX12_make_70 rfl ?_
            unfold sp_make sp_makeR
            rw [nI_clamp (by omega)]
            rw [if_neg c5, if_neg c9, if_pos c16, if_pos c31, if_pos c61]
            exact ⟨hW, e_, rfl⟩
        · obtain ⟨p_, hp_, hq_⟩ := (hp k_ hk_).resolve_left c31
          refine mm_aload_n (pc := 34) dX12_make_34 rfl (by first | trivial | assumption | exact mm_isr_rf _) ?_
          refine mw_geta (pc := 35) 22 hW dX12_make_35 fl_X12_69 rfl rfl ?_
          refine mm_aload_n (pc := 38) dX12_make_38 rfl (by first | trivial | assumption | exact mm_isr_rf _) ?_
          refine mw_geta (pc := 39) 7 hW dX12_make_39 fl_X12_29 rfl rfl ?_
          refine mm_iload_n (pc := 42) dX12_make_42 rfl ?_
          refine mw_iald (pc := 43) 7 k_ hW dX12_make_43 rfl rfl (by first | with_reducible rfl | assumption | rfl) (by show _ < 50; omega) (by omega) ?_
          refine mw_zald (pc := 44) 22 p_ hW dX12_make_44 rfl rfl (hq_) (by show _ < 12; omega) (by omega) ?_
          refine mm_if_eq (pc := 45) (tgt := 55) dX12_make_45 (by decide) (fun c45 => ?_) (fun c45 => ?_)
          · refine mm_aload_n (pc := 55) dX12_make_55 rfl (by first | trivial | assumption | exact mm_isr_rf _) ?_
            refine mw_gets (pc := 56) 48 hW dX12_make_56 fl_X12_437 rfl rfl ?_
            refine mm_bipush (pc := 59) (v := 20) dX12_make_59 (by decide) ?_
            refine mm_icmp_ne (pc := 61) (tgt := 71) dX12_make_61 (by decide) (fun c61 => ?_) (fun c61 => ?_)
            · have hna : na < 20 := by
                rcases Nat.lt_or_ge na 20 with q | q
                · exact q
                · exact absurd (by rw [hs2, show na = 20 by omega]; decide) c61
              refine mm_aload_n (pc := 71) dX12_make_71 rfl (by first | trivial | assumption | exact mm_isr_rf _) ?_
              refine mw_geta (pc := 72) 49 hW dX12_make_72 fl_X12_109 rfl rfl ?_
              refine mm_aload_n (pc := 75) dX12_make_75 rfl (by first | trivial | assumption | exact mm_isr_rf _) ?_
              refine mw_gets (pc := 76) 48 hW dX12_make_76 fl_X12_437 rfl rfl ?_
              refine mm_iload_n (pc := 79) dX12_make_79 rfl ?_
              refine mw_iast (pc := 80) 49 _ hW dX12_make_80 rfl rfl (by first | with_reducible rfl | assumption | rfl) (by show _ < 20; omega) (by omega) (fun h80 hW e80 => ?_)
              refine mm_aload_n (pc := 81) dX12_make_81 rfl (by first | trivial | assumption | exact mm_isr_rf _) ?_
              refine mw_geta (pc := 82) 50 hW dX12_make_82 fl_X12_112 rfl rfl ?_
              refine mm_aload_n (pc := 85) dX12_make_85 rfl (by first | trivial | assumption | exact mm_isr_rf _) ?_
              refine mw_gets (pc := 86) 48 hW dX12_make_86 fl_X12_437 rfl rfl ?_
              refine mm_iload_n (pc := 89) dX12_make_89 rfl ?_
              refine mw_iast (pc := 90) 50 _ hW dX12_make_90 rfl rfl (by first | with_reducible rfl | assumption | rfl) (by show _ < 20; omega) (by omega) (fun h90 hW e90 => ?_)
              refine mm_aload_n (pc := 91) dX12_make_91 rfl (by first | trivial | assumption | exact mm_isr_rf _) ?_
              refine mw_geta (pc := 92) 51 hW dX12_make_92 fl_X12_115 rfl rfl ?_
              refine mm_aload_n (pc := 95) dX12_make_95 rfl (by first | trivial | assumption | exact mm_isr_rf _) ?_
              refine mw_gets (pc := 96) 48 hW dX12_make_96 fl_X12_437 rfl rfl ?_
              refine mm_iconst (pc := 99) (v := 0) dX12_make_99 (by decide) ?_
              refine mw_iast (pc := 100) 51 _ hW dX12_make_100 rfl rfl (by first | with_reducible rfl | assumption | rfl) (by show _ < 20; omega) (by omega) (fun h100 hW e100 => ?_)
              refine mm_aload_n (pc := 101) dX12_make_101 rfl (by first | trivial | assumption | exact mm_isr_rf _) ?_
              refine mw_geta (pc := 102) 52 hW dX12_make_102 fl_X12_118 rfl rfl ?_
              refine mm_aload_n (pc := 105) dX12_make_105 rfl (by first | trivial | assumption | exact mm_isr_rf _) ?_
              refine mw_gets (pc := 106) 48 hW dX12_make_106 fl_X12_437 rfl rfl ?_
              refine mm_iconst (pc := 109) (v := 0) dX12_make_109 (by decide) ?_
              refine mw_iast (pc := 110) 52 _ hW dX12_make_110 rfl rfl (by first | with_reducible rfl | assumption | rfl) (by show _ < 20; omega) (by omega) (fun h110 hW e110 => ?_)
              refine mm_aload_n (pc := 111) dX12_make_111 rfl (by first | trivial | assumption | exact mm_isr_rf _) ?_
              refine mm_dup (pc := 112) dX12_make_112 rfl ?_
              refine mw_gets (pc := 113) 48 hW dX12_make_113 fl_X12_437 rfl rfl ?_
              refine mm_iconst (pc := 116) (v := 1) dX12_make_116 (by decide) ?_
              refine mm_iadd (pc := 117) dX12_make_117 ?_
              refine mm_topi _ (show M.1 48 + 1 = nI (na + 1) by rw [hs2, nI_1]) ?_
              refine mw_put (pc := 118) 48 hW dX12_make_118 (pl_X12_437 _) rfl (fun h118 hW e118 => ?_)
              refine mm_aload_n (pc := 121) dX12_make_121 rfl (by first | trivial | assumption | exact mm_isr_rf _) ?_
              refine mw_gets (pc := 122) 48 hW dX12_make_122 fl_X12_437 rfl rfl ?_
              refine mm_iconst (pc := 125) (v := 1) dX12_make_125 (by decide) ?_
              refine mm_isub (pc := 126) dX12_make_126 ?_
              refine mm_topi _ (nI_pred na) ?_
              refine mm_iret (pc := 127) dX12_make_127 rfl ?_
              unfold sp_make sp_makeR
              rw [nI_clamp (by omega)]
              rw [show (M.2.2.1 7 k_).toNatClampNeg = p_ by rw [hq_, nI_clamp (by omega)]]
              rw [if_neg c5, if_neg c9, if_pos c16, if_neg c31, if_pos c45, if_neg c61]
              exact ⟨hW, by rw [e118, e110, e100, e90, e80], rfl⟩
            · refine mm_aload_n (pc := 64) dX12_make_64 rfl (by first | trivial | assumption | exact mm_isr_rf _) ?_
              refine mm_bipush (pc := 65) (v := (-3)) dX12_make_65 (by decide) ?_
              refine mm_callV (pc := 67) (As := [_]) (kd := ?kd_67) (fs := ?fs_67) dX12_make_67 vl_X12_189 (ok_X12_answer (x := -3) (c := 3) (by decide) (by decide) (by decide) hW) ?hc_67 ?hk_67 rfl rfl (Nat.le_of_ble_eq_true rfl) ?_; (case hc_67 => exact hW.1); (case hk_67 => rfl)
              rintro _ h_ ⟨hW, e_, rfl⟩
              refine mm_iret (pc := 70) dX12_make_70 rfl ?_
              unfold sp_make sp_makeR
              rw [nI_clamp (by omega)]
              rw [show (M.2.2.1 7 k_).toNatClampNeg = p_ by rw [hq_, nI_clamp (by omega)]]
              rw [if_neg c5, if_neg c9, if_pos c16, if_neg c31, if_pos c45, if_pos c61]
              exact ⟨hW, e_, rfl⟩
          · refine mm_aload_n (pc := 48) dX12_make_48 rfl (by first | trivial | assumption | exact mm_isr_rf _) ?_
            refine mm_bipush (pc := 49) (v := (-4)) dX12_make_49 (by decide) ?_
            refine mm_callV (pc := 51) (As := [_]) (kd := ?kd_51) (fs := ?fs_51) dX12_make_51 vl_X12_189 (ok_X12_answer (x := -4) (c := 4) (by decide) (by decide) (by decide) hW) ?hc_51 ?hk_51 rfl rfl (Nat.le_of_ble_eq_true rfl) ?_; (case hc_51 => exact hW.1); (case hk_51 => rfl)
            rintro _ h_ ⟨hW, e_, rfl⟩
            refine mm_iret (pc := 54) dX12_make_54 rfl ?_
            unfold sp_make
            rw [nI_clamp (by omega), show (M.2.2.1 7 k_).toNatClampNeg = p_ by rw [hq_, nI_clamp (by omega)]]
            rw [if_neg c5, if_neg c9, if_pos c16, if_neg c31, if_neg c45]
            exact ⟨hW, e_, rfl⟩
      · refine mm_aload_n (pc := 19) dX12_make_19 rfl (by first | trivial | assumption | exact mm_isr_rf _) ?_
        refine mm_iconst (pc := 20) (v := (-1)) dX12_make_20 (by decide) ?_
        refine mm_callV (pc := 21) (As := [_]) (kd := ?kd_21) (fs := ?fs_21) dX12_make_21 vl_X12_189 (ok_X12_answer (x := -1) (c := 1) (by decide) (by decide) (by decide) hW) ?hc_21 ?hk_21 rfl rfl (Nat.le_of_ble_eq_true rfl) ?_; (case hc_21 => exact hW.1); (case hk_21 => rfl)
        rintro _ h_ ⟨hW, e_, rfl⟩
        refine mm_iret (pc := 24) dX12_make_24 rfl ?_
        unfold sp_make
        rw [if_neg c5, if_neg c9, if_neg c16]
        exact ⟨hW, e_, rfl⟩

def rm_pour (M : mw_S) (n a b : Nat) (x v : Int32) : mw_S :=
  mw_setS (mw_setV (mw_setV (mw_setV (mw_setV (rm_rem M n 2 a x b) 51 a (M.2.2.1 51 a - x)) 52 a (M.2.2.1 52 a - v)) 51 b ((mw_setV (mw_setV (rm_rem M n 2 a x b) 51 a (M.2.2.1 51 a - x)) 52 a (M.2.2.1 52 a - v)).2.2.1 51 b + x)) 52 b ((mw_setV (mw_setV (mw_setV (rm_rem M n 2 a x b) 51 a (M.2.2.1 51 a - x)) 52 a (M.2.2.1 52 a - v)) 51 b ((mw_setV (mw_setV (rm_rem M n 2 a x b) 51 a (M.2.2.1 51 a - x)) 52 a (M.2.2.1 52 a - v)).2.2.1 51 b + x)).2.2.1 52 b + v)) 54 (nI (n + 1))
def sp_part (M : mw_S) (a : Nat) (x : Int32) : Int32 := ((M.2.2.1 52 a).toInt64 * x.toInt64 / (M.2.2.1 51 a).toInt64).toInt32
def sp_pour (M : mw_S) (n : Nat) (i j x : Int32) : Int32 × mw_S := if sp_in i (M.1 48) = 0 then (-1, rm_ans M 1) else if sp_in j (M.1 48) = 0 then (-1, rm_ans M 1) else if i = j then (-1, rm_ans M 1) else if x < 1 then (-1, rm_ans M 1) else if x ≤ M.2.2.1 51 i.toNatClampNeg then (if sp_room M j.toNatClampNeg x.toInt64 (sp_part M i.toNatClampNeg x).toInt64 = 0 then (-3, rm_ans M 3) else (sp_part M i.toNatClampNeg x, rm_pour M n i.toNatClampNeg j.toNatClampNeg x (sp_part M i.toNatClampNeg x))) else (-1, rm_ans M 1)

theorem ok_X12_pour {G : mm_G} {L : Nat × Nat} {d : Nat} {h h0 : mm_H} {m : Nat} {ad : Nat → Nat} {M : mw_S} {i j x : Int32} {na n : Nat} (hs : M.1 48 = nI na) (hn : na ≤ 20) (hs2 : M.1 54 = nI n) (hn2 : n < 600) (hW : mw_W m ad h0 M h) : mm_Ok G mX12_pour L (d + 1) [.ref m, .int i, .int j, .int x] h (fun r h1 => mw_W m ad h0 (sp_pour M n i j x).2 h1 ∧ h1.2 = h.2 ∧ r = some (.int (sp_pour M n i j x).1)) := by
  refine mm_Ok.of [(0, .ref m), (1, .int i), (2, .int j), (3, .int x)] rfl kX12_pour.2.2.2.2.2 rfl (fun A => ?_)
  refine mm_aload_n (pc := 0) dX12_pour_0 rfl (by first | trivial | assumption | exact mm_isr_rf _) ?_
  refine mm_iload_n (pc := 1) dX12_pour_1 rfl ?_
  refine mm_callV (pc := 2) (As := [_]) (kd := ?kd_2) (fs := ?fs_2) dX12_pour_2 vl_X12_445 (ok_X12_isApp hW) ?hc_2 ?hk_2 rfl rfl (Nat.le_of_ble_eq_true rfl) ?_; (case hc_2 => exact hW.1); (case hk_2 => rfl)
  rintro _ _ ⟨rfl, rfl⟩
  refine mm_if_eq (pc := 5) (tgt := 36) dX12_pour_5 (by decide) (fun c5 => ?_) (fun c5 => ?_)
  · refine mm_aload_n (pc := 36) dX12_pour_36 rfl (by first | trivial | assumption | exact mm_isr_rf _) ?_
    refine mm_iconst (pc := 37) (v := (-1)) dX12_pour_37 (by decide) ?_
    refine mm_callV (pc := 38) (As := [_]) (kd := ?kd_38) (fs := ?fs_38) dX12_pour_38 vl_X12_189 (ok_X12_answer (x := -1) (c := 1) (by decide) (by decide) (by decide) hW) ?hc_38 ?hk_38 rfl rfl (Nat.le_of_ble_eq_true rfl) ?_; (case hc_38 => exact hW.1); (case hk_38 => rfl)
    rintro _ h_ ⟨hW, e_, rfl⟩
    refine mm_iret (pc := 41) dX12_pour_41 rfl ?_
    unfold sp_pour
    rw [if_pos c5]
    exact ⟨hW, e_, rfl⟩
  · refine mm_aload_n (pc := 8) dX12_pour_8 rfl (by first | trivial | assumption | exact mm_isr_rf _) ?_
    refine mm_iload_n (pc := 9) dX12_pour_9 rfl ?_
    refine mm_callV (pc := 10) (As := [_]) (kd := ?kd_10) (fs := ?fs_10) dX12_pour_10 vl_X12_445 (ok_X12_isApp hW) ?hc_10 ?hk_10 rfl rfl (Nat.le_of_ble_eq_true rfl) ?_; (case hc_10 => exact hW.1); (case hk_10 => rfl)
    rintro _ _ ⟨rfl, rfl⟩
    refine mm_if_eq (pc := 13) (tgt := 36) dX12_pour_13 (by decide) (fun c13 => ?_) (fun c13 => ?_)
    · refine mm_aload_n (pc := 36) dX12_pour_36 rfl (by first | trivial | assumption | exact mm_isr_rf _) ?_
      refine mm_iconst (pc := 37) (v := (-1)) dX12_pour_37 (by decide) ?_
      refine mm_callV (pc := 38) (As := [_]) (kd := ?kd_38) (fs := ?fs_38) dX12_pour_38 vl_X12_189 (ok_X12_answer (x := -1) (c := 1) (by decide) (by decide) (by decide) hW) ?hc_38 ?hk_38 rfl rfl (Nat.le_of_ble_eq_true rfl) ?_; (case hc_38 => exact hW.1); (case hk_38 => rfl)
      rintro _ h_ ⟨hW, e_, rfl⟩
      refine mm_iret (pc := 41) dX12_pour_41 rfl ?_
      unfold sp_pour
      rw [if_neg c5, if_pos c13]
      exact ⟨hW, e_, rfl⟩
    · refine mm_iload_n (pc := 16) dX12_pour_16 rfl ?_
      refine mm_iload_n (pc := 17) dX12_pour_17 rfl ?_
      refine mm_icmp_eq (pc := 18) (tgt := 36) dX12_pour_18 (by decide) (fun c18 => ?_) (fun c18 => ?_)
      · refine mm_aload_n (pc := 36) dX12_pour_36 rfl (by first | trivial | assumption | exact mm_isr_rf _) ?_
        refine mm_iconst (pc := 37) (v := (-1)) dX12_pour_37 (by decide) ?_
        refine mm_callV (pc := 38) (As := [_]) (kd := ?kd_38) (fs := ?fs_38) dX12_pour_38 vl_X12_189 (ok_X12_answer (x := -1) (c := 1) (by decide) (by decide) (by decide) hW) ?hc_38 ?hk_38 rfl rfl (Nat.le_of_ble_eq_true rfl) ?_; (case hc_38 => exact hW.1); (case hk_38 => rfl)
        rintro _ h_ ⟨hW, e_, rfl⟩
        refine mm_iret (pc := 41) dX12_pour_41 rfl ?_
        unfold sp_pour
        rw [if_neg c5, if_neg c13, if_pos c18]
        exact ⟨hW, e_, rfl⟩
      · refine mm_iload_n (pc := 21) dX12_pour_21 rfl ?_
        refine mm_iconst (pc := 22) (v := 1) dX12_pour_22 (by decide) ?_
        refine mm_icmp_lt (pc := 23) (tgt := 36) dX12_pour_23 (by decide) (fun c23 => ?_) (fun c23 => ?_)
        · refine mm_aload_n (pc := 36) dX12_pour_36 rfl (by first | trivial | assumption | exact mm_isr_rf _) ?_
          refine mm_iconst (pc := 37) (v := (-1)) dX12_pour_37 (by decide) ?_
          refine mm_callV (pc := 38) (As := [_]) (kd := ?kd_38) (fs := ?fs_38) dX12_pour_38 vl_X12_189 (ok_X12_answer (x := -1) (c := 1) (by decide) (by decide) (by decide) hW) ?hc_38 ?hk_38 rfl rfl (Nat.le_of_ble_eq_true rfl) ?_; (case hc_38 => exact hW.1); (case hk_38 => rfl)
          rintro _ h_ ⟨hW, e_, rfl⟩
          refine mm_iret (pc := 41) dX12_pour_41 rfl ?_
          unfold sp_pour
          rw [if_neg c5, if_neg c13, if_neg c18, if_pos c23]
          exact ⟨hW, e_, rfl⟩
        · obtain ⟨a_, ha_, rfl⟩ := sp_in_of c5 hs (by omega)
          obtain ⟨b_, hb_, rfl⟩ := sp_in_of c13 hs (by omega)
          refine mm_iload_n (pc := 26) dX12_pour_26 rfl ?_
          refine mm_aload_n (pc := 27) dX12_pour_27 rfl (by first | trivial | assumption | exact mm_isr_rf _) ?_
          refine mw_geta (pc := 28) 51 hW dX12_pour_28 fl_X12_115 rfl rfl ?_
          refine mm_iload_n (pc := 31) dX12_pour_31 rfl ?_
          refine mw_iald (pc := 32) 51 a_ hW dX12_pour_32 rfl rfl (by first | with_reducible rfl | assumption | rfl) (by show _ < 20; omega) (by omega) ?_
          refine mm_icmp_le (pc := 33) (tgt := 42) dX12_pour_33 (by decide) (fun c33 => ?_) (fun c33 => ?_)
          · have hw0 : ¬ (M.2.2.1 51 a_).toInt64 = 0 := mw_pos64 c23 c33
            refine mm_aload_n (pc := 42) dX12_pour_42 rfl (by first | trivial | assumption | exact mm_isr_rf _) ?_
            refine mw_geta (pc := 43) 52 hW dX12_pour_43 fl_X12_118 rfl rfl ?_
            refine mm_iload_n (pc := 46) dX12_pour_46 rfl ?_
            refine mw_iald (pc := 47) 52 a_ hW dX12_pour_47 rfl rfl (by first | with_reducible rfl | assumption | rfl) (by show _ < 20; omega) (by omega) ?_
            refine mm_i2l (pc := 48) dX12_pour_48 ?_
            refine mm_iload_n (pc := 49) dX12_pour_49 rfl ?_
            refine mm_i2l (pc := 50) dX12_pour_50 ?_
            refine mm_lmul (pc := 51) dX12_pour_51 ?_
            refine mm_aload_n (pc := 52) dX12_pour_52 rfl (by first | trivial | assumption | exact mm_isr_rf _) ?_
            refine mw_geta (pc := 53) 51 hW dX12_pour_53 fl_X12_115 rfl rfl ?_
            refine mm_iload_n (pc := 56) dX12_pour_56 rfl ?_
            refine mw_iald (pc := 57) 51 a_ hW dX12_pour_57 rfl rfl (by first | with_reducible rfl | assumption | rfl) (by show _ < 20; omega) (by omega) ?_
            refine mm_i2l (pc := 58) dX12_pour_58 ?_
            refine mm_ldiv (pc := 59) dX12_pour_59 hw0 ?_
            refine mm_l2i (pc := 60) dX12_pour_60 ?_
            refine mm_istore (pc := 61) dX12_pour_61 rfl (Nat.le_of_ble_eq_true rfl) ?_
            refine mm_aload_n (pc := 63) dX12_pour_63 rfl (by first | trivial | assumption | exact mm_isr_rf _) ?_
            refine mm_iload_n (pc := 64) dX12_pour_64 rfl ?_
            refine mm_iload_n (pc := 65) dX12_pour_65 rfl ?_
            refine mm_i2l (pc := 66) dX12_pour_66 ?_
            refine mm_iload (pc := 67) dX12_pour_67 rfl ?_
            refine mm_i2l (pc := 69) dX12_pour_69 ?_
            refine mm_callV (pc := 70) (As := [_, _, _]) (kd := ?kd_70) (fs := ?fs_70) dX12_pour_70 vl_X12_449 (ok_X12_isRoom (a := b_) (by omega) hW) ?hc_70 ?hk_70 rfl rfl (Nat.le_of_ble_eq_true rfl) ?_; (case hc_70 => exact hW.1); (case hk_70 => rfl)
            rintro _ _ ⟨rfl, rfl⟩
            refine mm_if_ne (pc := 73) (tgt := 83) dX12_pour_73 (by decide) (fun c73 => ?_) (fun c73 => ?_)
            · refine mm_aload_n (pc := 83) dX12_pour_83 rfl (by first | trivial | assumption | exact mm_isr_rf _) ?_
              refine mm_iconst (pc := 84) (v := 2) dX12_pour_84 (by decide) ?_
              refine mm_iload_n (pc := 85) dX12_pour_85 rfl ?_
              refine mm_iload_n (pc := 86) dX12_pour_86 rfl ?_
              refine mm_iload_n (pc := 87) dX12_pour_87 rfl ?_
              refine mm_callV (pc := 88) (As := [_, _, _, _]) (kd := ?kd_88) (fs := ?fs_88) dX12_pour_88 vl_X12_453 (ok_X12_remember (a := a_) (b := b_) hs2 hn2 (by omega) (by omega) hW) ?hc_88 ?hk_88 rfl rfl (Nat.le_of_ble_eq_true rfl) ?_; (case hc_88 => exact hW.1); (case hk_88 => rfl)
              rintro _ h88 ⟨hW, e88, rfl⟩
              refine mm_aload_n (pc := 91) dX12_pour_91 rfl (by first | trivial | assumption | exact mm_isr_rf _) ?_
              refine mw_geta (pc := 92) 51 hW dX12_pour_92 fl_X12_115 rfl rfl ?_
              refine mm_iload_n (pc := 95) dX12_pour_95 rfl ?_
              refine mm_dup2 (pc := 96) dX12_pour_96 rfl rfl ?_
              refine mw_iald (pc := 97) 51 a_ hW dX12_pour_97 rfl rfl (by first | with_reducible rfl | assumption | rfl) (by show _ < 20; omega) (by omega) ?_
              refine mm_iload_n (pc := 98) dX12_pour_98 rfl ?_
              refine mm_isub (pc := 99) dX12_pour_99 ?_
              refine mw_iast (pc := 100) 51 a_ hW dX12_pour_100 rfl rfl (by first | with_reducible rfl | assumption | rfl) (by show _ < 20; omega) (by omega) (fun h100 hW e100 => ?_)
              refine mm_aload_n (pc := 101) dX12_pour_101 rfl (by first | trivial | assumption | exact mm_isr_rf _) ?_
              refine mw_geta (pc := 102) 52 hW dX12_pour_102 fl_X12_118 rfl rfl ?_
              refine mm_iload_n (pc := 105) dX12_pour_105 rfl ?_
              refine mm_dup2 (pc := 106) dX12_pour_106 rfl rfl ?_
              refine mw_iald (pc := 107) 52 a_ hW dX12_pour_107 rfl rfl (by first | with_reducible rfl | assumption | rfl) (by show _ < 20; omega) (by omega) ?_
              refine mm_iload (pc := 108) dX12_pour_108 rfl ?_
              refine mm_isub (pc := 110) dX12_pour_110 ?_
              refine mw_iast (pc := 111) 52 a_ hW dX12_pour_111 rfl rfl (by first | with_reducible rfl | assumption | rfl) (by show _ < 20; omega) (by omega) (fun h111 hW e111 => ?_)
              refine mm_aload_n (pc := 112) dX12_pour_112 rfl (by first | trivial | assumption | exact mm_isr_rf _) ?_
              refine mw_geta (pc := 113) 51 hW dX12_pour_113 fl_X12_115 rfl rfl ?_
              refine mm_iload_n (pc := 116) dX12_pour_116 rfl ?_
              refine mm_dup2 (pc := 117) dX12_pour_117 rfl rfl ?_
              refine mw_iald (pc := 118) 51 b_ hW dX12_pour_118 rfl rfl (by first | with_reducible rfl | assumption | rfl) (by show _ < 20; omega) (by omega) ?_
              refine mm_iload_n (pc := 119) dX12_pour_119 rfl ?_
              refine mm_iadd (pc := 120) dX12_pour_120 ?_
              refine mw_iast (pc := 121) 51 b_ hW dX12_pour_121 rfl rfl (by first | with_reducible rfl | assumption | rfl) (by show _ < 20; omega) (by omega) (fun h121 hW e121 => ?_)
              refine mm_aload_n (pc := 122) dX12_pour_122 rfl (by first | trivial | assumption | exact mm_isr_rf _) ?_
              refine mw_geta (pc := 123) 52 hW dX12_pour_123 fl_X12_118 rfl rfl ?_
              refine mm_iload_n (pc := 126) dX12_pour_126 rfl ?_
              refine mm_dup2 (pc := 127) dX12_pour_127 rfl rfl ?_
              refine mw_iald (pc := 128) 52 b_ hW dX12_pour_128 rfl rfl (by first | with_reducible rfl | assumption | rfl) (by show _ < 20; omega) (by omega) ?_
              refine mm_iload (pc := 129) dX12_pour_129 rfl ?_
              refine mm_iadd (pc := 131) dX12_pour_131 ?_
              refine mw_iast (pc := 132) 52 b_ hW dX12_pour_132 rfl rfl (by first | with_reducible rfl | assumption | rfl) (by show _ < 20; omega) (by omega) (fun h132 hW e132 => ?_)
              refine mm_aload_n (pc := 133) dX12_pour_133 rfl (by first | trivial | assumption | exact mm_isr_rf _) ?_
              refine mm_dup (pc := 134) dX12_pour_134 rfl ?_
              refine mw_gets (pc := 135) 54 hW dX12_pour_135 fl_X12_440 rfl rfl ?_
              refine mm_iconst (pc := 138) (v := 1) dX12_pour_138 (by decide) ?_
              refine mm_iadd (pc := 139) dX12_pour_139 ?_
              refine mm_topi _ (show M.1 54 + 1 = nI (n + 1) by rw [hs2, nI_1]) ?_
              refine mw_put (pc := 140) 54 hW dX12_pour_140 (pl_X12_440 _) rfl (fun h140 hW e140 => ?_)
              refine mm_iload (pc := 143) dX12_pour_143 rfl ?_
              refine mm_iret (pc := 145) dX12_pour_145 rfl ?_
              unfold sp_pour sp_room sp_part
              rw [nI_clamp (show a_ < 2 ^ 31 by omega), nI_clamp (show b_ < 2 ^ 31 by omega)]
              rw [if_neg c5, if_neg c13, if_neg c18, if_neg c23, if_pos c33, if_neg c73]
              exact ⟨hW, by rw [e140, e132, e121, e111, e100, e88], rfl⟩
            · refine mm_aload_n (pc := 76) dX12_pour_76 rfl (by first | trivial | assumption | exact mm_isr_rf _) ?_
              refine mm_bipush (pc := 77) (v := (-3)) dX12_pour_77 (by decide) ?_
              refine mm_callV (pc := 79) (As := [_]) (kd := ?kd_79) (fs := ?fs_79) dX12_pour_79 vl_X12_189 (ok_X12_answer (x := -3) (c := 3) (by decide) (by decide) (by decide) hW) ?hc_79 ?hk_79 rfl rfl (Nat.le_of_ble_eq_true rfl) ?_; (case hc_79 => exact hW.1); (case hk_79 => rfl)
              rintro _ h_ ⟨hW, e_, rfl⟩
              refine mm_iret (pc := 82) dX12_pour_82 rfl ?_
              unfold sp_pour sp_room sp_part
              rw [nI_clamp (show a_ < 2 ^ 31 by omega), nI_clamp (show b_ < 2 ^ 31 by omega)]
              rw [if_neg c5, if_neg c13, if_neg c18, if_neg c23, if_pos c33, if_pos c73]
              exact ⟨hW, e_, rfl⟩
          · refine mm_aload_n (pc := 36) dX12_pour_36 rfl (by first | trivial | assumption | exact mm_isr_rf _) ?_
            refine mm_iconst (pc := 37) (v := (-1)) dX12_pour_37 (by decide) ?_
            refine mm_callV (pc := 38) (As := [_]) (kd := ?kd_38) (fs := ?fs_38) dX12_pour_38 vl_X12_189 (ok_X12_answer (x := -1) (c := 1) (by decide) (by decide) (by decide) hW) ?hc_38 ?hk_38 rfl rfl (Nat.le_of_ble_eq_true rfl) ?_; (case hc_38 => exact hW.1); (case hk_38 => rfl)
            rintro _ h_ ⟨hW, e_, rfl⟩
            refine mm_iret (pc := 41) dX12_pour_41 rfl ?_
            unfold sp_pour
            rw [nI_clamp (show a_ < 2 ^ 31 by omega)]
            rw [if_neg c5, if_neg c13, if_neg c18, if_neg c23, if_neg c33]
            exact ⟨hW, e_, rfl⟩

