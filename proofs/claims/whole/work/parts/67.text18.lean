/-! begin of the reference -/
def bgM (M : mw_S) (nk a : Nat) (x : Int32) : mw_S := mw_setS (mw_setV (mw_setV (mw_setV (mw_setU M 4 nk (some a)) 6 nk x) 7 nk (-7)) 5 nk 0) 3 (nI nk + 1)

theorem ok_begin {G : mm_G} {L : Nat × Nat} {d : Nat} {h h0 : mm_H} {m : Nat} {ad : Nat → Nat} {M : mw_S} {nk a ka_ : Nat} {fa_ : List Value} {x : Int32} (hs : M.1 3 = nI nk) (hn : nk < 50) (ca_ : h.1 a = some (ka_, fa_)) (hka_ : ka_ % 200 = 13) (hW : mw_W m ad h0 M h) : mm_Ok G mX12_begin L d [.ref m, .ref a, .int x] h (fun r h1 => mw_W m ad h0 (bgM M nk a x) h1 ∧ h1.2 = h.2 ∧ r = none) := by
  refine mm_Ok.of [(0, .ref m), (1, .ref a), (2, .int x)] rfl kX12_begin.2.2.2.2.2 rfl (fun A => ?_)
  refine mm_aload_n (pc := 0) dX12_begin_0 rfl (by first | trivial | assumption | exact mm_isr_rf _) ?_
  refine mw_geta (pc := 1) 4 hW dX12_begin_1 fl_X12_19 rfl rfl ?_
  refine mm_aload_n (pc := 4) dX12_begin_4 rfl (by first | trivial | assumption | exact mm_isr_rf _) ?_
  refine mw_gets (pc := 5) 3 hW dX12_begin_5 fl_X12_180 rfl rfl ?_
  refine mm_aload_n (pc := 8) dX12_begin_8 rfl (by first | trivial | assumption | exact mm_isr_rf _) ?_
  refine mw_aast (pc := 9) 4 nk hW dX12_begin_9 rfl rfl (ca_) (hka_) (hs) (by show _ < 50; omega) (by omega) (fun h9 hW e9 => ?_)
  refine mm_aload_n (pc := 10) dX12_begin_10 rfl (by first | trivial | assumption | exact mm_isr_rf _) ?_
  refine mw_geta (pc := 11) 6 hW dX12_begin_11 fl_X12_26 rfl rfl ?_
  refine mm_aload_n (pc := 14) dX12_begin_14 rfl (by first | trivial | assumption | exact mm_isr_rf _) ?_
  refine mw_gets (pc := 15) 3 hW dX12_begin_15 fl_X12_180 rfl rfl ?_
  refine mm_iload_n (pc := 18) dX12_begin_18 rfl ?_
  refine mw_iast (pc := 19) 6 nk hW dX12_begin_19 rfl rfl (hs) (by show _ < 50; omega) (by omega) (fun h19 hW e19 => ?_)
  refine mm_aload_n (pc := 20) dX12_begin_20 rfl (by first | trivial | assumption | exact mm_isr_rf _) ?_
  refine mw_geta (pc := 21) 7 hW dX12_begin_21 fl_X12_29 rfl rfl ?_
  refine mm_aload_n (pc := 24) dX12_begin_24 rfl (by first | trivial | assumption | exact mm_isr_rf _) ?_
  refine mw_gets (pc := 25) 3 hW dX12_begin_25 fl_X12_180 rfl rfl ?_
  refine mm_bipush (pc := 28) (v := (-7)) dX12_begin_28 (by decide) ?_
  refine mw_iast (pc := 30) 7 nk hW dX12_begin_30 rfl rfl (hs) (by show _ < 50; omega) (by omega) (fun h30 hW e30 => ?_)
  refine mm_aload_n (pc := 31) dX12_begin_31 rfl (by first | trivial | assumption | exact mm_isr_rf _) ?_
  refine mw_geta (pc := 32) 5 hW dX12_begin_32 fl_X12_23 rfl rfl ?_
  refine mm_aload_n (pc := 35) dX12_begin_35 rfl (by first | trivial | assumption | exact mm_isr_rf _) ?_
  refine mw_gets (pc := 36) 3 hW dX12_begin_36 fl_X12_180 rfl rfl ?_
  refine mm_iconst (pc := 39) (v := 0) dX12_begin_39 (by decide) ?_
  refine mw_iast (pc := 40) 5 nk hW dX12_begin_40 rfl rfl (hs) (by show _ < 50; omega) (by omega) (fun h40 hW e40 => ?_)
  refine mm_aload_n (pc := 41) dX12_begin_41 rfl (by first | trivial | assumption | exact mm_isr_rf _) ?_
  refine mm_dup (pc := 42) dX12_begin_42 rfl ?_
  refine mw_gets (pc := 43) 3 hW dX12_begin_43 fl_X12_180 rfl rfl ?_
  refine mm_iconst (pc := 46) (v := 1) dX12_begin_46 (by decide) ?_
  refine mm_iadd (pc := 47) dX12_begin_47 ?_
  refine mw_put (pc := 48) 3 hW dX12_begin_48 (pl_X12_180 _) rfl (fun h48 hW e48 => ?_)
  refine mm_vret (pc := 51) dX12_begin_51 rfl ?_
  refine ⟨?_, by rw [e48, e40, e30, e19, e9], rfl⟩
  unfold bgM
  rw [← hs]
  exact hW

