/-- the reference's memory with another row of marks -/
def mw_r25 (M : mw_S) (f : Nat → Int32) : mw_S := (M.1, M.2.1, (fun j i => if j = 25 then f i else M.2.2.1 j i), M.2.2.2)
theorem mw_r25_self (M : mw_S) : mw_r25 M (M.2.2.1 25) = M := by
  unfold mw_r25
  refine Prod.ext rfl (Prod.ext rfl (Prod.ext ?_ rfl))
  funext j i
  show (if j = 25 then M.2.2.1 25 i else M.2.2.1 j i) = M.2.2.1 j i
  by_cases e : j = 25
  · rw [if_pos e, e]
  · rw [if_neg e]
theorem mw_r25_set (M : mw_S) (f : Nat → Int32) (k : Nat) (x : Int32) : mw_setV (mw_r25 M f) 25 k x = mw_r25 M (mw_u f k x) := by
  unfold mw_r25 mw_setV
  refine Prod.ext rfl (Prod.ext rfl (Prod.ext ?_ rfl))
  funext j i
  show mw_u2 (fun j i => if j = 25 then f i else M.2.2.1 j i) 25 k x j i = (if j = 25 then mw_u f k x i else M.2.2.1 j i)
  unfold mw_u2 mw_u
  show (if j = 25 ∧ i = k then x else (if j = 25 then f i else M.2.2.1 j i)) = (if j = 25 then (if i = k then x else f i) else M.2.2.1 j i)
  by_cases e : j = 25
  · by_cases e2 : i = k
    · rw [if_pos ⟨e, e2⟩, if_pos e, if_pos e2]
    · rw [if_neg (fun z => e2 z.2), if_pos e, if_pos e, if_neg e2]
  · rw [if_neg (fun z => e z.1), if_neg e, if_neg e]
theorem mw_r25_r25 (M : mw_S) (f g : Nat → Int32) : mw_r25 (mw_r25 M f) g = mw_r25 M g := by
  unfold mw_r25
  refine Prod.ext rfl (Prod.ext rfl (Prod.ext ?_ rfl))
  funext j i
  show (if j = 25 then g i else if j = 25 then f i else M.2.2.1 j i) = (if j = 25 then g i else M.2.2.1 j i)
  by_cases e : j = 25
  · rw [if_pos e, if_pos e]
  · rw [if_neg e, if_neg e, if_neg e]
def rm_E (M : mw_S) (j : Nat) (x z : Nat) : Bool := rm_has M j z && rm_sees M j x z
theorem oI_up {ab : Nat → Option Nat} {M : mw_S} {n x z : Nat} (hT : rm_T M n ab) (hx : x < n) (h : ab x = some z) : M.2.2.1 6 x = nI z := by rw [hT.2.2 x hx, h]; rfl

theorem ok_X12_isOver {G : mm_G} {L : Nat × Nat} {d : Nat} {h h0 : mm_H} {m : Nat} {ad : Nat → Nat} {M : mw_S} {k q j n : Nat} {ab : Nat → Option Nat} (hT : rm_T M n ab) (hk : k < n) (hq : q < 6) (hj : j < n) (hW : mw_W m ad h0 M h) : mm_Ok G mX12_isOver L (d + 1) [.ref m, .int (nI k), .int (nI q), .int (nI j)] h (fun r h1 => ∃ g, mw_W m ad h0 (mw_r25 M g) h1 ∧ h1.2 = h.2 ∧ r = some (.int (bI (rm_has M q k && ovB ab (rm_E M q) k j)))) := by
  refine mm_Ok.of [(0, .ref m), (1, .int (nI k)), (2, .int (nI q)), (3, .int (nI j))] rfl kX12_isOver.2.2.2.2.2 rfl (fun A => ?_)
  have hT2 := hT
  obtain ⟨hab, hn50, hV⟩ := hT2
  have hno : ∀ b : Bool, b = false → mw_W m ad h0 (mw_r25 M (M.2.2.1 25)) h := fun _ _ => by rw [mw_r25_self]; exact hW
  have hW0 := hW
  have lpA_ : ∀ (T : Nat) (p : Nat → Nat), Pth ab k T p → p 0 = k → p T = j → ∀ (t : Nat), t < T → (∀ (f : Nat → Int32) (h1 : mm_H), mw_W m ad h0 (mw_r25 M f) h1 → h1.2 = h.2 → iv ab (rm_E M q) k T p f (t + 1) → mm_Run G mX12_isOver A L (d + 1) 78 [(4, .int (nI (p (t + 1)))), (0, .ref m), (1, .int (nI k)), (2, .int (nI q)), (3, .int (nI j))] [] h1 (fun r h1 => ∃ g, mw_W m ad h0 (mw_r25 M g) h1 ∧ h1.2 = h.2 ∧ r = some (.int (bI (rm_has M q k && ovB ab (rm_E M q) k j))))) → ∀ (w u : Nat), u + w = T → t ≤ u → ∀ (f : Nat → Int32) (h1 : mm_H), mw_W m ad h0 (mw_r25 M f) h1 → h1.2 = h.2 → (f (p t) = 1 → iw ab (rm_E M q) k T p f t u) → iv ab (rm_E M q) k T p f t → mm_Run G mX12_isOver A L (d + 1) 88 [(5, .int (nI (p u))), (4, .int (nI (p t))), (0, .ref m), (1, .int (nI k)), (2, .int (nI q)), (3, .int (nI j))] [] h1 (fun r h1 => ∃ g, mw_W m ad h0 (mw_r25 M g) h1 ∧ h1.2 = h.2 ∧ r = some (.int (bI (rm_has M q k && ovB ab (rm_E M q) k j)))) := by
    intro T p hp hp0 hpT t ht nx_ w
    induction w with
    | zero =>
      intro u hu htu f h1 hW eh hw hv
      have hu : u = T := by omega
      subst hu
      have hpt := hp.le hab hk (show t ≤ u by omega)
      refine mm_aload_n (pc := 88) dX12_isOver_88 rfl (by first | trivial | assumption) ?_
      refine mw_geta (pc := 89) 25 hW dX12_isOver_89 fl_X12_79 rfl rfl ?_
      refine mm_iload (pc := 92) dX12_isOver_92 rfl ?_
      refine mw_zald (pc := 94) 25 (p t) hW dX12_isOver_94 rfl rfl (by first | with_reducible rfl | assumption | rfl) (by show _ < 50; omega) (by omega) ?_
      refine mm_if_eq (pc := 95) (tgt := 153) dX12_isOver_95 (by decide) (fun c95 => ?_) (fun c95 => ?_)
      · have hup1 := oI_up (M := mw_r25 M f) hT (show p t < n by omega) (hp.up ht)
        refine mm_aload_n (pc := 153) dX12_isOver_153 rfl (by first | trivial | assumption) ?_
        refine mw_geta (pc := 154) 6 hW dX12_isOver_154 fl_X12_26 rfl rfl ?_
        refine mm_iload (pc := 157) dX12_isOver_157 rfl ?_
        refine mw_iald (pc := 159) 6 (p t) hW dX12_isOver_159 rfl rfl (rfl) (by show _ < 50; omega) (by omega) ?_
        refine mm_topi _ hup1 ?_
        refine mm_istore (pc := 160) dX12_isOver_160 rfl (Nat.le_of_ble_eq_true rfl) ?_
        refine mm_goto (pc := 162) (tgt := 78) dX12_isOver_162 (by decide) ?_
        exact mm_weakK (nx_ f h1 hW eh (hv.skip (fun z => by rw [show f (p t) = 0 from c95] at z; exact absurd z (by decide)))) (And.intro rfl (And.intro rfl (And.intro rfl (And.intro rfl (And.intro rfl trivial)))))
      · refine mm_iload (pc := 98) dX12_isOver_98 rfl ?_
        refine mm_iload_n (pc := 100) dX12_isOver_100 rfl ?_
        refine mm_icmp_eq (pc := 101) (tgt := 153) dX12_isOver_101 (by decide) (fun c101 => ?_) (fun c101 => absurd (by rw [hpT]) c101)
        have hup1 := oI_up (M := mw_r25 M f) hT (show p t < n by omega) (hp.up ht)
        refine mm_aload_n (pc := 153) dX12_isOver_153 rfl (by first | trivial | assumption) ?_
        refine mw_geta (pc := 154) 6 hW dX12_isOver_154 fl_X12_26 rfl rfl ?_
        refine mm_iload (pc := 157) dX12_isOver_157 rfl ?_
        refine mw_iald (pc := 159) 6 (p t) hW dX12_isOver_159 rfl rfl (rfl) (by show _ < 50; omega) (by omega) ?_
        refine mm_topi _ hup1 ?_
        refine mm_istore (pc := 160) dX12_isOver_160 rfl (Nat.le_of_ble_eq_true rfl) ?_
        refine mm_goto (pc := 162) (tgt := 78) dX12_isOver_162 (by decide) ?_
        exact mm_weakK (nx_ f h1 hW eh ((hw ((hv.1 t (by omega)).resolve_left c95)).exit)) (And.intro rfl (And.intro rfl (And.intro rfl (And.intro rfl (And.intro rfl trivial)))))
    | succ w ih =>
      intro u hu htu f h1 hW eh hw hv
      have hpt := hp.le hab hk (show t ≤ T by omega)
      have hpu := hp.le hab hk (show u ≤ T by omega)
      have hpu1 := hp.le hab hk (show u + 1 ≤ T by omega)
      have hup := oI_up hT (show p u < n by omega) (hp.up (show u < T by omega))
      have hne : ¬ nI (p u) = nI j := nI_ne (fun e => by have := hp.inj hab hk (show u ≤ T by omega) (Nat.le_refl T) (by rw [e, hpT]); omega) (by omega) (by omega)
      refine mm_aload_n (pc := 88) dX12_isOver_88 rfl (by first | trivial | assumption) ?_
      refine mw_geta (pc := 89) 25 hW dX12_isOver_89 fl_X12_79 rfl rfl ?_
      refine mm_iload (pc := 92) dX12_isOver_92 rfl ?_
      refine mw_zald (pc := 94) 25 (p t) hW dX12_isOver_94 rfl rfl (by first | with_reducible rfl | assumption | rfl) (by show _ < 50; omega) (by omega) ?_
      refine mm_if_eq (pc := 95) (tgt := 153) dX12_isOver_95 (by decide) (fun c95 => ?_) (fun c95 => ?_)
      · have hup1 := oI_up (M := mw_r25 M f) hT (show p t < n by omega) (hp.up ht)
        refine mm_aload_n (pc := 153) dX12_isOver_153 rfl (by first | trivial | assumption) ?_
        refine mw_geta (pc := 154) 6 hW dX12_isOver_154 fl_X12_26 rfl rfl ?_
        refine mm_iload (pc := 157) dX12_isOver_157 rfl ?_
        refine mw_iald (pc := 159) 6 (p t) hW dX12_isOver_159 rfl rfl (rfl) (by show _ < 50; omega) (by omega) ?_
        refine mm_topi _ hup1 ?_
        refine mm_istore (pc := 160) dX12_isOver_160 rfl (Nat.le_of_ble_eq_true rfl) ?_
        refine mm_goto (pc := 162) (tgt := 78) dX12_isOver_162 (by decide) ?_
        exact mm_weakK (nx_ f h1 hW eh (hv.skip (fun z => by rw [show f (p t) = 0 from c95] at z; exact absurd z (by decide)))) (And.intro rfl (And.intro rfl (And.intro rfl (And.intro rfl (And.intro rfl trivial)))))
      · refine mm_iload (pc := 98) dX12_isOver_98 rfl ?_
        refine mm_iload_n (pc := 100) dX12_isOver_100 rfl ?_
        refine mm_icmp_eq (pc := 101) (tgt := 153) dX12_isOver_101 (by decide) (fun c101 => absurd c101 hne) (fun c101 => ?_)
        refine mm_aload_n (pc := 104) dX12_isOver_104 rfl (by first | trivial | assumption) ?_
        refine mw_geta (pc := 105) 6 hW dX12_isOver_105 fl_X12_26 rfl rfl ?_
        refine mm_iload (pc := 108) dX12_isOver_108 rfl ?_
        refine mw_iald (pc := 110) 6 (p u) hW dX12_isOver_110 rfl rfl (by first | with_reducible rfl | assumption | rfl) (by show _ < 50; omega) (by omega) ?_
        refine mm_topi _ hup ?_
        refine mm_istore (pc := 111) dX12_isOver_111 rfl (Nat.le_of_ble_eq_true rfl) ?_
        refine mm_aload_n (pc := 113) dX12_isOver_113 rfl (by first | trivial | assumption) ?_
        refine mw_geta (pc := 114) 25 hW dX12_isOver_114 fl_X12_79 rfl rfl ?_
        refine mm_iload (pc := 117) dX12_isOver_117 rfl ?_
        refine mm_dup2 (pc := 119) dX12_isOver_119 rfl rfl ?_
        refine mw_zald (pc := 120) 25 (p (u + 1)) hW dX12_isOver_120 rfl rfl (by first | with_reducible rfl | assumption | rfl) (by show _ < 50; omega) (by omega) ?_
        refine mm_aload_n (pc := 121) dX12_isOver_121 rfl (by first | trivial | assumption) ?_
        refine mm_iload (pc := 122) dX12_isOver_122 rfl ?_
        refine mm_iload_n (pc := 124) dX12_isOver_124 rfl ?_
        refine mm_callV (pc := 125) (As := [_, _]) (kd := ?kd_125) (fs := ?fs_125) dX12_isOver_125 vl_X12_196 (ok_X12_hasBody (M := mw_r25 M f) (k := p (u + 1)) (j := q) (by omega) hq hW) ?hc_125 ?hk_125 rfl rfl (Nat.le_of_ble_eq_true rfl) ?_; (case hc_125 => exact hW.1); (case hk_125 => rfl)
        rintro _ _ ⟨rfl, rfl⟩
        refine mm_if_eq (pc := 128) (tgt := 147) dX12_isOver_128 (by decide) (fun c128 => ?_) (fun c128 => ?_)
        · refine mm_iconst (pc := 147) (v := 0) dX12_isOver_147 (by decide) ?_
          refine mm_ior (pc := 148) dX12_isOver_148 ?_
          refine mw_zast (pc := 149) 25 (p (u + 1)) hW dX12_isOver_149 rfl rfl (by first | with_reducible rfl | assumption | rfl) (by show _ < 50; omega) (by omega) ((i01 (hv.1 (u + 1) (by omega)) false).1) (fun h149 hW e149 => ?_)
          refine mm_goto (pc := 150) (tgt := 88) dX12_isOver_150 (by decide) ?_
          have hs := iw.step hab hk hp hp0 (show u < T by omega) htu (hw ((hv.1 t (by omega)).resolve_left c95))
          have hE : rm_E M q (p t) (p (u + 1)) = false := by
            unfold rm_E
            rw [show rm_has M q (p (u + 1)) = false from bI_eq0.mp c128]
            rfl
          rw [hE, show bI false = 0 from rfl] at hs
          rw [mw_r25_set, show (mw_r25 M f).2.2.1 25 (p (u + 1)) = f (p (u + 1)) from rfl] at hW
          exact mm_weakK (ih (u + 1) (by omega) (by omega) _ h149 hW (by rw [e149, eh]) (fun _ => hs) hs.1) (And.intro rfl (And.intro rfl (And.intro rfl (And.intro rfl (And.intro rfl (And.intro rfl trivial))))))
        · refine mm_aload_n (pc := 131) dX12_isOver_131 rfl (by first | trivial | assumption) ?_
          refine mm_iload (pc := 132) dX12_isOver_132 rfl ?_
          refine mm_iload_n (pc := 134) dX12_isOver_134 rfl ?_
          refine mm_iload (pc := 135) dX12_isOver_135 rfl ?_
          refine mm_callV (pc := 137) (As := [_, _, _]) (kd := ?kd_137) (fs := ?fs_137) dX12_isOver_137 vl_X12_199 (ok_X12_maySee (M := mw_r25 M f) (k := p t) (j := q) (u := p (u + 1)) (by omega) hq (by omega) hW) ?hc_137 ?hk_137 rfl rfl (Nat.le_of_ble_eq_true rfl) ?_; (case hc_137 => exact hW.1); (case hk_137 => rfl)
          rintro _ _ ⟨rfl, rfl⟩
          refine mm_if_eq (pc := 140) (tgt := 147) dX12_isOver_140 (by decide) (fun c140 => ?_) (fun c140 => ?_)
          · refine mm_iconst (pc := 147) (v := 0) dX12_isOver_147 (by decide) ?_
            refine mm_ior (pc := 148) dX12_isOver_148 ?_
            refine mw_zast (pc := 149) 25 (p (u + 1)) hW dX12_isOver_149 rfl rfl (by first | with_reducible rfl | assumption | rfl) (by show _ < 50; omega) (by omega) ((i01 (hv.1 (u + 1) (by omega)) false).1) (fun h149 hW e149 => ?_)
            refine mm_goto (pc := 150) (tgt := 88) dX12_isOver_150 (by decide) ?_
            have hs := iw.step hab hk hp hp0 (show u < T by omega) htu (hw ((hv.1 t (by omega)).resolve_left c95))
            have hE : rm_E M q (p t) (p (u + 1)) = false := by
              unfold rm_E
              rw [show rm_sees M q (p t) (p (u + 1)) = false from bI_eq0.mp c140, Bool.and_false]
            rw [hE, show bI false = 0 from rfl] at hs
            rw [mw_r25_set, show (mw_r25 M f).2.2.1 25 (p (u + 1)) = f (p (u + 1)) from rfl] at hW
            exact mm_weakK (ih (u + 1) (by omega) (by omega) _ h149 hW (by rw [e149, eh]) (fun _ => hs) hs.1) (And.intro rfl (And.intro rfl (And.intro rfl (And.intro rfl (And.intro rfl (And.intro rfl trivial))))))
          · refine mm_iconst (pc := 143) (v := 1) dX12_isOver_143 (by decide) ?_
            refine mm_goto (pc := 144) (tgt := 148) dX12_isOver_144 (by decide) ?_
            refine mm_ior (pc := 148) dX12_isOver_148 ?_
            refine mw_zast (pc := 149) 25 (p (u + 1)) hW dX12_isOver_149 rfl rfl (by first | with_reducible rfl | assumption | rfl) (by show _ < 50; omega) (by omega) ((i01 (hv.1 (u + 1) (by omega)) true).1) (fun h149 hW e149 => ?_)
            refine mm_goto (pc := 150) (tgt := 88) dX12_isOver_150 (by decide) ?_
            have hs := iw.step hab hk hp hp0 (show u < T by omega) htu (hw ((hv.1 t (by omega)).resolve_left c95))
            have hE : rm_E M q (p t) (p (u + 1)) = true := by
              unfold rm_E
              have z1 : rm_sees M q (p t) (p (u + 1)) = true := by
                cases hz : rm_sees M q (p t) (p (u + 1)) with
                | true => rfl
                | false => exact absurd (bI_eq0.mpr hz) c140
              have z2 : rm_has M q (p (u + 1)) = true := by
                cases hz : rm_has M q (p (u + 1)) with
                | true => rfl
                | false => exact absurd (bI_eq0.mpr hz) c128
              rw [z1, z2]
              rfl
            rw [hE, show bI true = 1 from rfl] at hs
            rw [mw_r25_set, show (mw_r25 M f).2.2.1 25 (p (u + 1)) = f (p (u + 1)) from rfl] at hW
            exact mm_weakK (ih (u + 1) (by omega) (by omega) _ h149 hW (by rw [e149, eh]) (fun _ => hs) hs.1) (And.intro rfl (And.intro rfl (And.intro rfl (And.intro rfl (And.intro rfl (And.intro rfl trivial))))))
  have lpB_ : ∀ (T : Nat) (p : Nat → Nat), Pth ab k T p → p 0 = k → p T = j → 1 ≤ T → rm_has M q k = true → ∀ (w t : Nat), t + w = T → ∀ (f : Nat → Int32) (h1 : mm_H), mw_W m ad h0 (mw_r25 M f) h1 → h1.2 = h.2 → iv ab (rm_E M q) k T p f t → mm_Run G mX12_isOver A L (d + 1) 78 [(4, .int (nI (p t))), (0, .ref m), (1, .int (nI k)), (2, .int (nI q)), (3, .int (nI j))] [] h1 (fun r h1 => ∃ g, mw_W m ad h0 (mw_r25 M g) h1 ∧ h1.2 = h.2 ∧ r = some (.int (bI (rm_has M q k && ovB ab (rm_E M q) k j)))) := by
    intro T p hp hp0 hpT hT1 hhk w
    induction w with
    | zero =>
      intro t ht f h1 hW eh hv
      have ht : t = T := by omega
      subst ht
      refine mm_iload (pc := 78) dX12_isOver_78 rfl ?_
      refine mm_iload_n (pc := 80) dX12_isOver_80 rfl ?_
      refine mm_icmp_eq (pc := 81) (tgt := 165) dX12_isOver_81 (by decide) (fun c81 => ?_) (fun c81 => absurd (by rw [hpT]) c81)
      refine mm_aload_n (pc := 165) dX12_isOver_165 rfl (by first | trivial | assumption) ?_
      refine mw_geta (pc := 166) 25 hW dX12_isOver_166 fl_X12_79 rfl rfl ?_
      refine mm_iload_n (pc := 169) dX12_isOver_169 rfl ?_
      refine mw_zald (pc := 170) 25 j hW dX12_isOver_170 rfl rfl (by first | with_reducible rfl | assumption | rfl) (by show _ < 50; omega) (by omega) ?_
      refine mm_zret (pc := 171) dX12_isOver_171 rfl (mw_z (hW.B.1 25 _ rfl)) ?_
      refine ⟨f, hW, eh, ?_⟩
      rw [hhk, Bool.true_and, ← hpT, ← hv.fin hab hk hp hp0 hT1, hpT]
      rfl
    | succ w ih =>
      intro t ht f h1 hW eh hv
      have hpt := hp.le hab hk (show t ≤ T by omega)
      have hne : ¬ nI (p t) = nI j := nI_ne (fun e => by have := hp.inj hab hk (show t ≤ T by omega) (Nat.le_refl T) (by rw [e, hpT]); omega) (by omega) (by omega)
      refine mm_iload (pc := 78) dX12_isOver_78 rfl ?_
      refine mm_iload_n (pc := 80) dX12_isOver_80 rfl ?_
      refine mm_icmp_eq (pc := 81) (tgt := 165) dX12_isOver_81 (by decide) (fun c81 => absurd c81 hne) (fun c81 => ?_)
      refine mm_iload (pc := 84) dX12_isOver_84 rfl ?_
      refine mm_istore (pc := 86) dX12_isOver_86 rfl (Nat.le_of_ble_eq_true rfl) ?_
      exact mm_weakK (lpA_ T p hp hp0 hpT t (by omega) (fun f2 h2 hW2 eh2 hv2 => mm_weakK (ih (t + 1) (by omega) f2 h2 hW2 eh2 hv2) (And.intro rfl (And.intro rfl (And.intro rfl (And.intro rfl (And.intro rfl trivial)))))) (T - t) t (by omega) (Nat.le_refl t) f h1 hW eh (fun z => hv.enter z) hv) (And.intro rfl (And.intro rfl (And.intro rfl (And.intro rfl (And.intro rfl (And.intro rfl trivial))))))
  have lpC_ : ∀ (T : Nat) (p : Nat → Nat), Pth ab k T p → p 0 = k → p T = j → 1 ≤ T → rm_has M q k = true → ∀ (w t : Nat), t + w = T → ∀ (f : Nat → Int32) (h1 : mm_H), mw_W m ad h0 (mw_r25 M f) h1 → h1.2 = h.2 → (∀ s, s < t → f (p s) = bI (Nat.beq s 0)) → mm_Run G mX12_isOver A L (d + 1) 32 [(4, .int (nI (p t))), (0, .ref m), (1, .int (nI k)), (2, .int (nI q)), (3, .int (nI j))] [] h1 (fun r h1 => ∃ g, mw_W m ad h0 (mw_r25 M g) h1 ∧ h1.2 = h.2 ∧ r = some (.int (bI (rm_has M q k && ovB ab (rm_E M q) k j)))) := by
    intro T p hp hp0 hpT hT1 hhk w
    induction w with
    | zero =>
      intro t ht f h1 hW eh hv
      have ht : t = T := by omega
      subst ht
      refine mm_iload (pc := 32) dX12_isOver_32 rfl ?_
      refine mm_iload_n (pc := 34) dX12_isOver_34 rfl ?_
      refine mm_icmp_eq (pc := 35) (tgt := 68) dX12_isOver_35 (by decide) (fun c35 => ?_) (fun c35 => absurd (by rw [hpT]) c35)
      refine mm_aload_n (pc := 68) dX12_isOver_68 rfl (by first | trivial | assumption) ?_
      refine mw_geta (pc := 69) 25 hW dX12_isOver_69 fl_X12_79 rfl rfl ?_
      refine mm_iload_n (pc := 72) dX12_isOver_72 rfl ?_
      refine mm_iconst (pc := 73) (v := 0) dX12_isOver_73 (by decide) ?_
      refine mw_zast (pc := 74) 25 j hW dX12_isOver_74 rfl rfl (by first | with_reducible rfl | assumption | rfl) (by show _ < 50; omega) (by omega) (by first | exact Or.inl rfl | exact Or.inr rfl | assumption) (fun h74 hW e74 => ?_)
      refine mm_iload_n (pc := 75) dX12_isOver_75 rfl ?_
      refine mm_istore (pc := 76) dX12_isOver_76 rfl (Nat.le_of_ble_eq_true rfl) ?_
      rw [mw_r25_set] at hW
      have hb0 : ∀ s, s ≤ t → mw_u f j 0 (p s) = bI (Nat.beq s 0) := by
        intro s hs
        unfold mw_u
        by_cases e : s = t
        · subst e
          rw [if_pos hpT]
          cases s with
          | zero => omega
          | succ s => rfl
        · rw [if_neg (fun z => e (hp.inj hab hk hs (Nat.le_refl t) (by rw [z, hpT])))]
          exact hv s (by omega)
      refine mm_weakK (lpB_ t p hp hp0 hpT hT1 hhk t 0 (by omega) _ h74 hW (by rw [e74, eh]) ⟨fun s hs => ?_, hb0 0 (by omega), fun s h1 hs hf => ?_, fun r hr => by omega⟩) (And.intro (by rw [hp0]; rfl) (And.intro rfl (And.intro rfl (And.intro rfl (And.intro rfl trivial)))))
      · rw [hb0 s hs]
        cases Nat.beq s 0
        · exact Or.inl rfl
        · exact Or.inr rfl
      · rw [hb0 s hs] at hf
        cases s with
        | zero => omega
        | succ s => exact absurd (show (0 : Int32) = 1 from hf) (by decide)
    | succ w ih =>
      intro t ht f h1 hW eh hv
      have hpt := hp.le hab hk (show t ≤ T by omega)
      have hup := oI_up hT (show p t < n by omega) (hp.up (show t < T by omega))
      have hne : ¬ nI (p t) = nI j := nI_ne (fun e => by have := hp.inj hab hk (show t ≤ T by omega) (Nat.le_refl T) (by rw [e, hpT]); omega) (by omega) (by omega)
      refine mm_iload (pc := 32) dX12_isOver_32 rfl ?_
      refine mm_iload_n (pc := 34) dX12_isOver_34 rfl ?_
      refine mm_icmp_eq (pc := 35) (tgt := 68) dX12_isOver_35 (by decide) (fun c35 => absurd c35 hne) (fun c35 => ?_)
      refine mm_aload_n (pc := 38) dX12_isOver_38 rfl (by first | trivial | assumption) ?_
      refine mw_geta (pc := 39) 25 hW dX12_isOver_39 fl_X12_79 rfl rfl ?_
      refine mm_iload (pc := 42) dX12_isOver_42 rfl ?_
      refine mm_iload (pc := 44) dX12_isOver_44 rfl ?_
      refine mm_iload_n (pc := 46) dX12_isOver_46 rfl ?_
      refine mm_icmp_ne (pc := 47) (tgt := 54) dX12_isOver_47 (by decide) (fun c47 => ?_) (fun c47 => ?_)
      · refine mm_iconst (pc := 54) (v := 0) dX12_isOver_54 (by decide) ?_
        refine mw_zast (pc := 55) 25 (p t) hW dX12_isOver_55 rfl rfl (by first | with_reducible rfl | assumption | rfl) (by show _ < 50; omega) (by omega) (by first | exact Or.inl rfl | exact Or.inr rfl | assumption) (fun h55 hW e55 => ?_)
        rw [mw_r25_set] at hW
        refine mm_aload_n (pc := 56) dX12_isOver_56 rfl (by first | trivial | assumption) ?_
        refine mw_geta (pc := 57) 6 hW dX12_isOver_57 fl_X12_26 rfl rfl ?_
        refine mm_iload (pc := 60) dX12_isOver_60 rfl ?_
        refine mw_iald (pc := 62) 6 (p t) hW dX12_isOver_62 rfl rfl (by first | with_reducible rfl | assumption | rfl) (by show _ < 50; omega) (by omega) ?_
        refine mm_topi _ hup ?_
        refine mm_istore (pc := 63) dX12_isOver_63 rfl (Nat.le_of_ble_eq_true rfl) ?_
        refine mm_goto (pc := 65) (tgt := 32) dX12_isOver_65 (by decide) ?_
        refine mm_weakK (ih (t + 1) (by omega) _ h55 hW (by rw [e55, eh]) (fun s hs => ?_)) (And.intro rfl (And.intro rfl (And.intro rfl (And.intro rfl (And.intro rfl trivial)))))
        unfold mw_u
        by_cases e : s = t
        · subst e
          rw [if_pos rfl]
          have e0 : ¬ s = 0 := fun z => c47 (by rw [z, hp0])
          cases s with
          | zero => exact absurd rfl e0
          | succ s => rfl
        · rw [if_neg (fun z => e (hp.inj hab hk (by omega) (by omega) z))]
          exact hv s (by omega)
      · refine mm_iconst (pc := 50) (v := 1) dX12_isOver_50 (by decide) ?_
        refine mm_goto (pc := 51) (tgt := 55) dX12_isOver_51 (by decide) ?_
        refine mw_zast (pc := 55) 25 (p t) hW dX12_isOver_55 rfl rfl (by first | with_reducible rfl | assumption | rfl) (by show _ < 50; omega) (by omega) (by first | exact Or.inl rfl | exact Or.inr rfl | assumption) (fun h55 hW e55 => ?_)
        rw [mw_r25_set] at hW
        refine mm_aload_n (pc := 56) dX12_isOver_56 rfl (by first | trivial | assumption) ?_
        refine mw_geta (pc := 57) 6 hW dX12_isOver_57 fl_X12_26 rfl rfl ?_
        refine mm_iload (pc := 60) dX12_isOver_60 rfl ?_
        refine mw_iald (pc := 62) 6 (p t) hW dX12_isOver_62 rfl rfl (by first | with_reducible rfl | assumption | rfl) (by show _ < 50; omega) (by omega) ?_
        refine mm_topi _ hup ?_
        refine mm_istore (pc := 63) dX12_isOver_63 rfl (Nat.le_of_ble_eq_true rfl) ?_
        refine mm_goto (pc := 65) (tgt := 32) dX12_isOver_65 (by decide) ?_
        refine mm_weakK (ih (t + 1) (by omega) _ h55 hW (by rw [e55, eh]) (fun s hs => ?_)) (And.intro rfl (And.intro rfl (And.intro rfl (And.intro rfl (And.intro rfl trivial)))))
        unfold mw_u
        by_cases e : s = t
        · subst e
          rw [if_pos rfl]
          have e0 : s = 0 := hp.inj hab hk (by omega) (by omega) (by rw [hp0]; exact (nI_eq (by omega) (by omega)).mp c47)
          subst e0
          rfl
        · rw [if_neg (fun z => e (hp.inj hab hk (by omega) (by omega) z))]
          exact hv s (by omega)
  refine mm_aload_n (pc := 0) dX12_isOver_0 rfl (by first | trivial | assumption) ?_
  refine mm_iload_n (pc := 1) dX12_isOver_1 rfl ?_
  refine mm_iload_n (pc := 2) dX12_isOver_2 rfl ?_
  refine mm_callV (pc := 3) (As := [_, _]) (kd := ?kd_3) (fs := ?fs_3) dX12_isOver_3 vl_X12_192 (ok_X12_isUnder hT hk (j := j) (by omega) hW) ?hc_3 ?hk_3 rfl rfl (Nat.le_of_ble_eq_true rfl) ?_; (case hc_3 => exact hW.1); (case hk_3 => rfl)
  rintro _ _ ⟨rfl, rfl⟩
  refine mm_if_eq (pc := 6) (tgt := 27) dX12_isOver_6 (by decide) (fun c6 => ?_) (fun c6 => ?_)
  · refine mm_iconst (pc := 27) (v := 0) dX12_isOver_27 (by decide) ?_
    refine mm_zret (pc := 28) dX12_isOver_28 rfl (by first | rfl | decide) ?_
    refine ⟨M.2.2.1 25, by rw [mw_r25_self]; exact hW, rfl, ?_⟩
    rw [show ovB ab (rm_E M q) k j = false from by cases hz : ovB ab (rm_E M q) k j with
      | false => rfl
      | true => rw [(kfind_An hab (by omega) j (k + 1) k (by omega) hk).mpr (ovB_iff.mp hz).an] at c6; exact absurd c6 (by decide), Bool.and_false]
    rfl
  · refine mm_aload_n (pc := 9) dX12_isOver_9 rfl (by first | trivial | assumption) ?_
    refine mm_iload_n (pc := 10) dX12_isOver_10 rfl ?_
    refine mm_iload_n (pc := 11) dX12_isOver_11 rfl ?_
    refine mm_callV (pc := 12) (As := [_, _]) (kd := ?kd_12) (fs := ?fs_12) dX12_isOver_12 vl_X12_196 (ok_X12_hasBody (k := k) (j := q) (by omega) hq hW) ?hc_12 ?hk_12 rfl rfl (Nat.le_of_ble_eq_true rfl) ?_; (case hc_12 => exact hW.1); (case hk_12 => rfl)
    rintro _ _ ⟨rfl, rfl⟩
    refine mm_if_eq (pc := 15) (tgt := 27) dX12_isOver_15 (by decide) (fun c15 => ?_) (fun c15 => ?_)
    · refine mm_iconst (pc := 27) (v := 0) dX12_isOver_27 (by decide) ?_
      refine mm_zret (pc := 28) dX12_isOver_28 rfl (by first | rfl | decide) ?_
      refine ⟨M.2.2.1 25, by rw [mw_r25_self]; exact hW, rfl, ?_⟩
      rw [bI_eq0.mp c15]
      rfl
    · refine mm_aload_n (pc := 18) dX12_isOver_18 rfl (by first | trivial | assumption) ?_
      refine mm_iload_n (pc := 19) dX12_isOver_19 rfl ?_
      refine mm_iload_n (pc := 20) dX12_isOver_20 rfl ?_
      refine mm_callV (pc := 21) (As := [_, _]) (kd := ?kd_21) (fs := ?fs_21) dX12_isOver_21 vl_X12_196 (ok_X12_hasBody (k := j) (j := q) (by omega) hq hW) ?hc_21 ?hk_21 rfl rfl (Nat.le_of_ble_eq_true rfl) ?_; (case hc_21 => exact hW.1); (case hk_21 => rfl)
      rintro _ _ ⟨rfl, rfl⟩
      refine mm_if_ne (pc := 24) (tgt := 29) dX12_isOver_24 (by decide) (fun c24 => ?_) (fun c24 => ?_)
      · refine mm_iload_n (pc := 29) dX12_isOver_29 rfl ?_
        refine mm_istore (pc := 30) dX12_isOver_30 rfl (Nat.le_of_ble_eq_true rfl) ?_
        have han : An ab k j := (kfind_An hab (by omega) j (k + 1) k (by omega) hk).mp (by cases hz : (kfind ab (fun x => Nat.beq x j) (ab k)).isSome with
          | true => rfl
          | false => exact absurd (bI_eq0.mpr hz) c6)
        obtain ⟨T, p, hp, hT1, hpT, hp0⟩ := Pth.of han
        have hhk : rm_has M q k = true := by cases hz : rm_has M q k with
          | true => rfl
          | false => exact absurd (bI_eq0.mpr hz) c15
        exact mm_weakK (lpC_ T p hp hp0 hpT hT1 hhk T 0 (by omega) (M.2.2.1 25) _ (by rw [mw_r25_self]; exact hW) rfl (fun s hs => by omega)) (And.intro (by rw [hp0]; rfl) (And.intro rfl (And.intro rfl (And.intro rfl (And.intro rfl trivial)))))
      · refine mm_iconst (pc := 27) (v := 0) dX12_isOver_27 (by decide) ?_
        refine mm_zret (pc := 28) dX12_isOver_28 rfl (by first | rfl | decide) ?_
        refine ⟨M.2.2.1 25, by rw [mw_r25_self]; exact hW, rfl, ?_⟩
        have hz0 : ovB ab (rm_E M q) k j = false := by
          cases hz : ovB ab (rm_E M q) k j with
          | false => rfl
          | true =>
            obtain ⟨x, hx⟩ := (ovB_iff.mp hz).edge
            unfold rm_E at hx
            rw [bI_eq0.mp c24] at hx
            cases hx
        rw [hz0, Bool.and_false]
        rfl
theorem ok_X12_choose {G : mm_G} {L : Nat × Nat} {d : Nat} {h h0 : mm_H} {m : Nat} {ad : Nat → Nat} {M : mw_S} {k q j n : Nat} {ab : Nat → Option Nat} (hT : rm_T M n ab) (hk : k < n) (hq : q < 6) (hkj : k = j ∨ An ab k j) (hW : mw_W m ad h0 M h) : mm_Ok G mX12_choose L (d + 2) [.ref m, .int (nI j), .int (nI q), .int (nI k)] h (fun r h1 => ∃ g, mw_W m ad h0 (mw_r25 M g) h1 ∧ h1.2 = h.2 ∧ r = some (.int (oI (kfind ab (fun x => Nat.beq x j || (rm_has M q x && ovB ab (rm_E M q) x j)) (some k))))) := by
  refine mm_Ok.of [(0, .ref m), (1, .int (nI j)), (2, .int (nI q)), (3, .int (nI k))] rfl kX12_choose.2.2.2.2.2 rfl (fun A => ?_)
  have hT2 := hT
  obtain ⟨hab, hn50, hV⟩ := hT2
  have hjn : j < n := by
    rcases hkj with e | e
    · omega
    · exact Nat.lt_trans (e.lt hab hk) hk
  have lp_ : ∀ (w x : Nat), x < w → x < n → (x = j ∨ An ab x j) → kfind ab (fun x => Nat.beq x j || (rm_has M q x && ovB ab (rm_E M q) x j)) (some x) = kfind ab (fun x => Nat.beq x j || (rm_has M q x && ovB ab (rm_E M q) x j)) (some k) → ∀ (f : Nat → Int32) (h1 : mm_H), mw_W m ad h0 (mw_r25 M f) h1 → h1.2 = h.2 → mm_Run G mX12_choose A L (d + 2) 3 [(4, .int (nI x)), (0, .ref m), (1, .int (nI j)), (2, .int (nI q)), (3, .int (nI k))] [] h1 (fun r h1 => ∃ g, mw_W m ad h0 (mw_r25 M g) h1 ∧ h1.2 = h.2 ∧ r = some (.int (oI (kfind ab (fun x => Nat.beq x j || (rm_has M q x && ovB ab (rm_E M q) x j)) (some k))))) := by
    intro w
    induction w with
    | zero => intro x h1; exact absurd h1 (Nat.not_lt_zero x)
    | succ w ih =>
      intro x h1 h2 hxj he f h1 hW eh
      have hs := kfind_some (P := (fun x => Nat.beq x j || (rm_has M q x && ovB ab (rm_E M q) x j))) hab (by omega) h2
      refine mm_iload (pc := 3) dX12_choose_3 rfl ?_
      refine mm_iload_n (pc := 5) dX12_choose_5 rfl ?_
      refine mm_icmp_eq (pc := 6) (tgt := 42) dX12_choose_6 (by decide) (fun c6 => ?_) (fun c6 => ?_)
      · refine mm_iload (pc := 42) dX12_choose_42 rfl ?_
        refine mm_iret (pc := 44) dX12_choose_44 rfl ?_
        have ej : x = j := (nI_eq (by omega) (by omega)).mp c6
        rw [show Nat.beq x j = true from Nat.beq_eq.mpr ej] at hs
        exact ⟨f, hW, eh, by rw [← he, hs]; rfl⟩
      · refine mm_aload_n (pc := 9) dX12_choose_9 rfl (by first | trivial | assumption) ?_
        refine mm_iload (pc := 10) dX12_choose_10 rfl ?_
        refine mm_iload_n (pc := 12) dX12_choose_12 rfl ?_
        refine mm_callV (pc := 13) (As := [_, _]) (kd := ?kd_13) (fs := ?fs_13) dX12_choose_13 vl_X12_196 (ok_X12_hasBody (M := mw_r25 M f) (k := x) (j := q) (by omega) hq hW) ?hc_13 ?hk_13 rfl rfl (Nat.le_of_ble_eq_true rfl) ?_; (case hc_13 => exact hW.1); (case hk_13 => rfl)
        rintro _ _ ⟨rfl, rfl⟩
        refine mm_if_eq (pc := 16) (tgt := 30) dX12_choose_16 (by decide) (fun c16 => ?_) (fun c16 => ?_)
        · have nb : Nat.beq x j = false := by
            cases hb : Nat.beq x j with
            | true => exact absurd (congrArg nI (Nat.eq_of_beq_eq_true hb)) c6
            | false => rfl
          refine mm_aload_n (pc := 30) dX12_choose_30 rfl (by first | trivial | assumption) ?_
          refine mw_geta (pc := 31) 6 hW dX12_choose_31 fl_X12_26 rfl rfl ?_
          refine mm_iload (pc := 34) dX12_choose_34 rfl ?_
          refine mw_iald (pc := 36) 6 x hW dX12_choose_36 rfl rfl (by first | with_reducible rfl | assumption | rfl) (by show _ < 50; omega) (by omega) ?_
          have hxj : An ab x j := hxj.resolve_left (fun e => c6 (by rw [e]))
          obtain ⟨z, hz, hzj⟩ := hxj.cases
          have hzx := hab x z h2 hz
          refine mm_topi _ (oI_up (M := mw_r25 M f) hT h2 hz) ?_
          refine mm_istore (pc := 37) dX12_choose_37 rfl (Nat.le_of_ble_eq_true rfl) ?_
          refine mm_goto (pc := 39) (tgt := 3) dX12_choose_39 (by decide) ?_
          refine mm_weakK (ih z (by omega) (by omega) hzj ?_ f _ hW eh) (And.intro rfl (And.intro rfl (And.intro rfl (And.intro rfl (And.intro rfl trivial)))))
          rw [← he, hs, hz]
          rw [nb, show rm_has M q x = false from bI_eq0.mp c16]
          rfl
        · refine mm_aload_n (pc := 19) dX12_choose_19 rfl (by first | trivial | assumption) ?_
          refine mm_iload (pc := 20) dX12_choose_20 rfl ?_
          refine mm_iload_n (pc := 22) dX12_choose_22 rfl ?_
          refine mm_iload_n (pc := 23) dX12_choose_23 rfl ?_
          refine mm_callV (pc := 24) (As := [_, _, _]) (kd := ?kd_24) (fs := ?fs_24) dX12_choose_24 vl_X12_203 (ok_X12_isOver (M := mw_r25 M f) (k := x) (q := q) (j := j) hT h2 hq (by omega) hW) ?hc_24 ?hk_24 rfl rfl (Nat.le_of_ble_eq_true rfl) ?_; (case hc_24 => exact hW.1); (case hk_24 => rfl)
          rintro _ h24 ⟨g24, hW, e24, rfl⟩
          rw [mw_r25_r25] at hW
          refine mm_if_ne (pc := 27) (tgt := 42) dX12_choose_27 (by decide) (fun c27 => ?_) (fun c27 => ?_)
          · refine mm_iload (pc := 42) dX12_choose_42 rfl ?_
            refine mm_iret (pc := 44) dX12_choose_44 rfl ?_
            have hh : rm_has M q x = true := by
              cases hq2 : rm_has M q x with
              | true => rfl
              | false => exact absurd (bI_eq0.mpr hq2) c16
            have ho : ovB ab (rm_E M q) x j = true := by
              cases hq2 : ovB ab (rm_E M q) x j with
              | true => rfl
              | false => exact absurd (show bI (rm_has M q x && ovB ab (rm_E M q) x j) = 0 by rw [hq2, Bool.and_false]; rfl) c27
            exact ⟨g24, hW, by rw [e24, eh], by rw [← he, hs, hh, ho, Bool.and_true, Bool.or_true]; rfl⟩
          · have nb : Nat.beq x j = false := by
              cases hb : Nat.beq x j with
              | true => exact absurd (congrArg nI (Nat.eq_of_beq_eq_true hb)) c6
              | false => rfl
            refine mm_aload_n (pc := 30) dX12_choose_30 rfl (by first | trivial | assumption) ?_
            refine mw_geta (pc := 31) 6 hW dX12_choose_31 fl_X12_26 rfl rfl ?_
            refine mm_iload (pc := 34) dX12_choose_34 rfl ?_
            refine mw_iald (pc := 36) 6 x hW dX12_choose_36 rfl rfl (by first | with_reducible rfl | assumption | rfl) (by show _ < 50; omega) (by omega) ?_
            have hxj : An ab x j := hxj.resolve_left (fun e => c6 (by rw [e]))
            obtain ⟨z, hz, hzj⟩ := hxj.cases
            have hzx := hab x z h2 hz
            refine mm_topi _ (oI_up (M := mw_r25 M g24) hT h2 hz) ?_
            refine mm_istore (pc := 37) dX12_choose_37 rfl (Nat.le_of_ble_eq_true rfl) ?_
            refine mm_goto (pc := 39) (tgt := 3) dX12_choose_39 (by decide) ?_
            refine mm_weakK (ih z (by omega) (by omega) hzj ?_ g24 h24 hW (by rw [e24, eh])) (And.intro rfl (And.intro rfl (And.intro rfl (And.intro rfl (And.intro rfl trivial)))))
            rw [← he, hs, hz]
            have ho : (rm_has M q x && ovB ab (rm_E M q) x j) = false := bI_eq0.mp c27
            rw [nb, ho]
            rfl
  refine mm_iload_n (pc := 0) dX12_choose_0 rfl ?_
  refine mm_istore (pc := 1) dX12_choose_1 rfl (Nat.le_of_ble_eq_true rfl) ?_
  exact mm_weakK (lp_ (k + 1) k (by omega) hk hkj rfl (M.2.2.1 25) _ (by rw [mw_r25_self]; exact hW) rfl) (And.intro rfl (And.intro rfl (And.intro rfl (And.intro rfl (And.intro rfl trivial)))))
