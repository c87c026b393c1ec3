theorem in_kinds {G : mm_G} {L : Nat × Nat} {d : Nat} {h h0 : mm_H} {m : Nat} {ad : Nat → Nat} {M : mw_S} {A : Nat → Prop} {Q : Option Value → mm_H → Prop} {b7 b8 b9 : List Int32} (hs3 : M.1 3 = nI 0) (hs13 : M.1 13 = nI 0) (s7 : sO m ad h0 (G.2.2.2.2.1 7) b7) (s8 : sO m ad h0 (G.2.2.2.2.1 8) b8) (s9 : sO m ad h0 (G.2.2.2.2.1 9) b9) (hW : mw_W m ad h0 M h) (kk : ∀ h1 : mm_H, mw_W m ad h0 (inC (inB (inA M (G.2.2.2.2.1 7)) (G.2.2.2.2.1 8)) (G.2.2.2.2.1 9)) h1 → h1.2 = h.2 → Q none h1) : mm_Run G mX12_init A L (d + 2) 395 [(0, .ref m)] [] h Q := by
  obtain ⟨_, _, _, _, c7, k7, -⟩ := s7.keep hW
  refine mm_aload_n (pc := 395) dX12_init_395 rfl (by first | trivial | assumption | exact mm_isr_rf _) ?_
  refine mm_ldcS (pc := 396) (i := 7) dX12_init_396 rfl ?_
  refine mm_iconst (pc := 398) (v := (-1)) dX12_init_398 (by decide) ?_
  refine mm_callV (pc := 399) (As := [_, _]) (kd := ?kd_399_1) (fs := ?fs_399_1) dX12_init_399 vl_X12_157 (ok_begin (nk := 0) (x := -1) hs3 (by omega) c7 k7 hW) ?hc_399_1 ?hk_399_1 rfl rfl (Nat.le_of_ble_eq_true rfl) ?_; (case hc_399_1 => exact hW.1); (case hk_399_1 => rfl)
  rintro _ h399_ ⟨hW, e399_, rfl⟩
  refine mm_iconst (pc := 402) (v := 0) dX12_init_402 (by decide) ?_
  refine mm_istore_n (pc := 403) dX12_init_403 rfl (Nat.le_of_ble_eq_true rfl) ?_
  refine mm_weakK (?_ : mm_Run G mX12_init A L (d + 2) 404 [(1, .int (nI 0)), (0, .ref m)] [] h399_ Q) (And.intro rfl (And.intro rfl trivial))
  refine it_0 (by first | rfl | (show (bgM M 0 _ _).1 13 = _; exact hs13)) hW (fun g0_ hW f0_ => ?_)
  refine it_1 (by first | rfl | (show (bgM M 0 _ _).1 13 = _; exact hs13)) hW (fun g1_ hW f1_ => ?_)
  refine it_2 (by first | rfl | (show (bgM M 0 _ _).1 13 = _; exact hs13)) hW (fun g2_ hW f2_ => ?_)
  refine it_3 (by first | rfl | (show (bgM M 0 _ _).1 13 = _; exact hs13)) hW (fun g3_ hW f3_ => ?_)
  refine it_4 (by first | rfl | (show (bgM M 0 _ _).1 13 = _; exact hs13)) hW (fun g4_ hW f4_ => ?_)
  refine it_5 (by first | rfl | (show (bgM M 0 _ _).1 13 = _; exact hs13)) hW (fun g5_ hW f5_ => ?_)
  refine mm_iload_n (pc := 404) dX12_init_404 rfl ?_
  refine mm_bipush (pc := 405) (v := 6) dX12_init_405 (by decide) ?_
  refine mm_icmp_ge (pc := 407) (tgt := 452) dX12_init_407 (by decide) (fun c407 => ?_) (fun c407 => absurd (by decide) c407)
  exact in_tail (by rfl) (by rfl) s8 s9 hW (fun h1 hW e => kk h1 hW (by rw [e, f5_, f4_, f3_, f2_, f1_, f0_, e399_]))

