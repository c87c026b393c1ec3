/-- cs stands in bs from i on -/
def occ (bs cs : List Int32) (i : Nat) : Prop := ∀ j, j < cs.length → bs[i + j]? = cs[j]?
def ixP (bs cs : List Int32) (r : Option Value) : Prop := (∃ i, i + cs.length ≤ bs.length ∧ occ bs cs i ∧ r = some (.int (nI i))) ∨ (r = some (.int (-1)) ∧ ∀ i, i + cs.length ≤ bs.length → ¬ occ bs cs i)

theorem ok_J1_indexOf5 {G : mm_G} {L : Nat × Nat} {d : Nat} {h : mm_H} {v kv w kw : Nat} {bs cs : List Int32} {f0 : Int32} (hv : h.1 v = some (kv, bv bs)) (hkv : kv % 200 = 101) (hlen : bs.length < 2 ^ 30) (hw : h.1 w = some (kw, bv cs)) (hkw : kw % 200 = 101) (hle : cs.length ≤ bs.length) (hn1 : 1 ≤ cs.length) (hf : cs[0]? = some f0) : mm_Ok G mJ1_indexOf_5af95 L d [.ref v, .int (nI bs.length), .ref w, .int (nI cs.length), .int 0] h (fun r h1 => h1 = h ∧ ixP bs cs r) := by
  refine mm_Ok.of [(0, .ref v), (1, .int (nI bs.length)), (2, .ref w), (3, .int (nI cs.length)), (4, .int 0)] rfl kJ1_indexOf_5af95.2.2.2.2.2 rfl (fun A => ?_)
  obtain ⟨mx, hmx⟩ : ∃ mx, mx + cs.length = bs.length := ⟨bs.length - cs.length, by omega⟩
  have lp_ : ∀ (q i : Nat), i + q = mx + 3 → (i ≤ mx + 2 → (∀ j, j < i → j ≤ mx → ¬ occ bs cs j) → mm_Run G mJ1_indexOf_5af95 A L d 14 [(7, .int (nI i)), (0, .ref v), (1, .int (nI bs.length)), (2, .ref w), (3, .int (nI cs.length)), (5, .int f0), (6, .int (nI mx))] [] h (fun r h1 => h1 = h ∧ ixP bs cs r)) ∧ (i ≤ mx + 1 → (∀ j, j < i → j ≤ mx → ¬ occ bs cs j) → mm_Run G mJ1_indexOf_5af95 A L d 33 [(7, .int (nI i)), (0, .ref v), (1, .int (nI bs.length)), (2, .ref w), (3, .int (nI cs.length)), (5, .int f0), (6, .int (nI mx))] [] h (fun r h1 => h1 = h ∧ ixP bs cs r)) ∧ (i ≤ mx + 1 → (∀ j, j < i → j ≤ mx → ¬ occ bs cs j) → (i ≤ mx → bs[i]? = cs[0]?) → mm_Run G mJ1_indexOf_5af95 A L d 52 [(7, .int (nI i)), (0, .ref v), (1, .int (nI bs.length)), (2, .ref w), (3, .int (nI cs.length)), (5, .int f0), (6, .int (nI mx))] [] h (fun r h1 => h1 = h ∧ ixP bs cs r)) := by
    intro q
    induction q with
    | zero => intro i hi; exact ⟨fun z => by omega, fun z => by omega, fun z => by omega⟩
    | succ q ih =>
      intro i hi
      have l52_ : i ≤ mx + 1 → (∀ j, j < i → j ≤ mx → ¬ occ bs cs j) → (i ≤ mx → bs[i]? = cs[0]?) → mm_Run G mJ1_indexOf_5af95 A L d 52 [(7, .int (nI i)), (0, .ref v), (1, .int (nI bs.length)), (2, .ref w), (3, .int (nI cs.length)), (5, .int f0), (6, .int (nI mx))] [] h (fun r h1 => h1 = h ∧ ixP bs cs r) := by
        intro hle hno hfe
        have nx_ : (∀ j, j < i + 1 → j ≤ mx → ¬ occ bs cs j) → i ≤ mx + 1 → mm_Run G mJ1_indexOf_5af95 A L d 14 [(7, .int (nI (i + 1))), (0, .ref v), (1, .int (nI bs.length)), (2, .ref w), (3, .int (nI cs.length)), (5, .int f0), (6, .int (nI mx))] [] h (fun r h1 => h1 = h ∧ ixP bs cs r) := fun a b => (ih (i + 1) (by omega)).1 (by omega) a
        by_cases him : i ≤ mx
        · have lpK_ : ∀ (u k : Nat), k + u = cs.length → 1 ≤ k → (∀ j, j < k → bs[i + j]? = cs[j]?) → mm_Run G mJ1_indexOf_5af95 A L d 76 [(8, .int (nI (i + k))), (9, .int (nI (i + cs.length))), (10, .int (nI k)), (7, .int (nI i)), (0, .ref v), (1, .int (nI bs.length)), (2, .ref w), (3, .int (nI cs.length)), (5, .int f0), (6, .int (nI mx))] [] h (fun r h1 => h1 = h ∧ ixP bs cs r) := by
            intro u
            induction u with
            | zero =>
              intro k hk hk1 hp
              obtain rfl : k = cs.length := by omega
              refine mm_iload (pc := 76) dJ1_indexOf_5af95_76 rfl ?_
              refine mm_iload (pc := 78) dJ1_indexOf_5af95_78 rfl ?_
              refine mm_icmp_ge (pc := 80) (tgt := 103) dJ1_indexOf_5af95_80 (by decide) (fun c80 => ?_) (fun c80 => absurd (Int32.le_refl _) c80)
              refine mm_iload (pc := 103) dJ1_indexOf_5af95_103 rfl ?_
              refine mm_iload (pc := 105) dJ1_indexOf_5af95_105 rfl ?_
              refine mm_icmp_ne (pc := 107) (tgt := 113) dJ1_indexOf_5af95_107 (by decide) (fun c107 => absurd rfl c107) (fun c107 => ?_)
              refine mm_iload (pc := 110) dJ1_indexOf_5af95_110 rfl ?_
              refine mm_iret (pc := 112) dJ1_indexOf_5af95_112 rfl ?_
              exact ⟨rfl, Or.inl ⟨i, by omega, hp, rfl⟩⟩
            | succ u ihu =>
              intro k hk hk1 hp
              have hb1 : bs[i + k]? = some bs[i + k] := List.getElem?_eq_getElem (by omega)
              have hb2 : cs[k]? = some cs[k] := List.getElem?_eq_getElem (by omega)
              refine mm_iload (pc := 76) dJ1_indexOf_5af95_76 rfl ?_
              refine mm_iload (pc := 78) dJ1_indexOf_5af95_78 rfl ?_
              refine mm_icmp_ge (pc := 80) (tgt := 103) dJ1_indexOf_5af95_80 (by decide) (fun c80 => absurd c80 (nI_ge (by omega) (by omega))) (fun c80 => ?_)
              refine mm_aload_n (pc := 83) dJ1_indexOf_5af95_83 rfl (by first | trivial | assumption | exact mm_isr_rf _) ?_
              refine mm_iload (pc := 84) dJ1_indexOf_5af95_84 rfl ?_
              refine mm_bald (pc := 86) (kd := ?kd_86) (vs := ?vs_86) (v := ?v_86) dJ1_indexOf_5af95_86 ?hc_86 ?hk_86 ?h0_86 ?hv_86 ?_; (case hc_86 => exact hv); (case hk_86 => first | rfl | assumption | exact mm_101 (by assumption)); (case h0_86 => exact nI_pos (by omega)); (case hv_86 => rw [nI_clamp (by omega)]; exact bv_get hb1)
              refine mm_aload_n (pc := 87) dJ1_indexOf_5af95_87 rfl (by first | trivial | assumption | exact mm_isr_rf _) ?_
              refine mm_iload (pc := 88) dJ1_indexOf_5af95_88 rfl ?_
              refine mm_bald (pc := 90) (kd := ?kd_90) (vs := ?vs_90) (v := ?v_90) dJ1_indexOf_5af95_90 ?hc_90 ?hk_90 ?h0_90 ?hv_90 ?_; (case hc_90 => exact hw); (case hk_90 => first | rfl | assumption | exact mm_101 (by assumption)); (case h0_90 => exact nI_pos (by omega)); (case hv_90 => rw [nI_clamp (by omega)]; exact bv_get hb2)
              refine mm_icmp_ne (pc := 91) (tgt := 103) dJ1_indexOf_5af95_91 (by decide) (fun c91 => ?_) (fun c91 => ?_)
              · refine mm_iload (pc := 103) dJ1_indexOf_5af95_103 rfl ?_
                refine mm_iload (pc := 105) dJ1_indexOf_5af95_105 rfl ?_
                refine mm_icmp_ne (pc := 107) (tgt := 113) dJ1_indexOf_5af95_107 (by decide) (fun c107 => ?_) (fun c107 => absurd c107 (nI_ne (by omega) (by omega) (by omega)))
                refine mm_iinc (pc := 113) dJ1_indexOf_5af95_113 rfl rfl rfl (Nat.le_of_ble_eq_true rfl) ?_
                refine mm_goto (pc := 116) (tgt := 14) dJ1_indexOf_5af95_116 (by decide) ?_
                exact mm_weakK (nx_ (fun j hj hjm ho => by
                  by_cases e : j = i
                  · subst e
                    have hz := ho k (by omega)
                    rw [hb1, hb2] at hz
                    exact c91 (by rw [Option.some.inj hz])
                  · exact hno j (by omega) hjm ho) (by omega)) (And.intro (by rw [← nI_1]; rfl) (And.intro rfl (And.intro rfl (And.intro rfl (And.intro rfl (And.intro rfl (And.intro rfl trivial)))))))
              · refine mm_iinc (pc := 94) dJ1_indexOf_5af95_94 rfl rfl rfl (Nat.le_of_ble_eq_true rfl) ?_
                refine mm_iinc (pc := 97) dJ1_indexOf_5af95_97 rfl rfl rfl (Nat.le_of_ble_eq_true rfl) ?_
                refine mm_goto (pc := 100) (tgt := 76) dJ1_indexOf_5af95_100 (by decide) ?_
                exact mm_weakK (ihu (k + 1) (by omega) (by omega) (fun j hj => by
                  by_cases e : j = k
                  · subst e; rw [hb1, hb2, c91]
                  · exact hp j (by omega))) (And.intro (by rw [show i + (k + 1) = i + k + 1 by omega, ← nI_1]; rfl) (And.intro rfl (And.intro (by rw [← nI_1]; rfl) (And.intro rfl (And.intro rfl (And.intro rfl (And.intro rfl (And.intro rfl (And.intro rfl (And.intro rfl trivial))))))))))
          refine mm_iload (pc := 52) dJ1_indexOf_5af95_52 rfl ?_
          refine mm_iload (pc := 54) dJ1_indexOf_5af95_54 rfl ?_
          refine mm_icmp_gt (pc := 56) (tgt := 113) dJ1_indexOf_5af95_56 (by decide) (fun c56 => absurd c56 (nI_nlt (by omega) (by omega))) (fun c56 => ?_)
          refine mm_iload (pc := 59) dJ1_indexOf_5af95_59 rfl ?_
          refine mm_iconst (pc := 61) (v := 1) dJ1_indexOf_5af95_61 (by decide) ?_
          refine mm_iadd (pc := 62) dJ1_indexOf_5af95_62 ?_
          refine mm_topi _ (nI_1 i) ?_
          refine mm_istore (pc := 63) dJ1_indexOf_5af95_63 rfl (Nat.le_of_ble_eq_true rfl) ?_
          refine mm_iload (pc := 65) dJ1_indexOf_5af95_65 rfl ?_
          refine mm_iload_n (pc := 67) dJ1_indexOf_5af95_67 rfl ?_
          refine mm_iadd (pc := 68) dJ1_indexOf_5af95_68 ?_
          refine mm_iconst (pc := 69) (v := 1) dJ1_indexOf_5af95_69 (by decide) ?_
          refine mm_isub (pc := 70) dJ1_indexOf_5af95_70 ?_
          refine mm_topi _ (show nI (i + 1) + nI cs.length - 1 = nI (i + cs.length) by rw [nI_add, show i + 1 + cs.length = i + cs.length + 1 by omega, nI_pred]) ?_
          refine mm_istore (pc := 71) dJ1_indexOf_5af95_71 rfl (Nat.le_of_ble_eq_true rfl) ?_
          refine mm_iconst (pc := 73) (v := 1) dJ1_indexOf_5af95_73 (by decide) ?_
          refine mm_istore (pc := 74) dJ1_indexOf_5af95_74 rfl (Nat.le_of_ble_eq_true rfl) ?_
          exact mm_weakK (lpK_ (cs.length - 1) 1 (by omega) (by omega) (fun j hj => by have e : j = 0 := (by omega); subst e; exact hfe him)) (And.intro rfl (And.intro rfl (And.intro rfl (And.intro rfl (And.intro rfl (And.intro rfl (And.intro rfl (And.intro rfl (And.intro rfl (And.intro rfl trivial))))))))))
        ·
          refine mm_iload (pc := 52) dJ1_indexOf_5af95_52 rfl ?_
          refine mm_iload (pc := 54) dJ1_indexOf_5af95_54 rfl ?_
          refine mm_icmp_gt (pc := 56) (tgt := 113) dJ1_indexOf_5af95_56 (by decide) (fun c56 => ?_) (fun c56 => absurd (nI_lt (by omega) (by omega)) c56)
          refine mm_iinc (pc := 113) dJ1_indexOf_5af95_113 rfl rfl rfl (Nat.le_of_ble_eq_true rfl) ?_
          refine mm_goto (pc := 116) (tgt := 14) dJ1_indexOf_5af95_116 (by decide) ?_
          exact mm_weakK (nx_ (fun j hj hjm => hno j (by omega) hjm) (by omega)) (And.intro (by rw [← nI_1]; rfl) (And.intro rfl (And.intro rfl (And.intro rfl (And.intro rfl (And.intro rfl (And.intro rfl trivial)))))))
      refine ⟨?_, ?_, l52_⟩
      · intro hle hno
        by_cases him : i ≤ mx
        · have hb : bs[i]? = some bs[i] := List.getElem?_eq_getElem (by omega)
          refine mm_iload (pc := 14) dJ1_indexOf_5af95_14 rfl ?_
          refine mm_iload (pc := 16) dJ1_indexOf_5af95_16 rfl ?_
          refine mm_icmp_gt (pc := 18) (tgt := 119) dJ1_indexOf_5af95_18 (by decide) (fun c18 => absurd c18 (nI_nlt (by omega) (by omega))) (fun c18 => ?_)
          refine mm_aload_n (pc := 21) dJ1_indexOf_5af95_21 rfl (by first | trivial | assumption | exact mm_isr_rf _) ?_
          refine mm_iload (pc := 22) dJ1_indexOf_5af95_22 rfl ?_
          refine mm_bald (pc := 24) (kd := ?kd_24) (vs := ?vs_24) (v := ?v_24) dJ1_indexOf_5af95_24 ?hc_24 ?hk_24 ?h0_24 ?hv_24 ?_; (case hc_24 => exact hv); (case hk_24 => first | rfl | assumption | exact mm_101 (by assumption)); (case h0_24 => exact nI_pos (by omega)); (case hv_24 => rw [nI_clamp (by omega)]; exact bv_get hb)
          refine mm_iload (pc := 25) dJ1_indexOf_5af95_25 rfl ?_
          refine mm_icmp_eq (pc := 27) (tgt := 52) dJ1_indexOf_5af95_27 (by decide) (fun c27 => ?_) (fun c27 => ?_)
          · exact mm_weakK (l52_ (by omega) hno (fun _ => by rw [hb, hf, c27])) (And.intro rfl (And.intro rfl (And.intro rfl (And.intro rfl (And.intro rfl (And.intro rfl (And.intro rfl trivial)))))))
          · refine mm_iinc (pc := 30) dJ1_indexOf_5af95_30 rfl rfl rfl (Nat.le_of_ble_eq_true rfl) ?_
            exact mm_weakK ((ih (i + 1) (by omega)).2.1 (by omega) (fun j hj hjm ho => by
              by_cases e : j = i
              · subst e
                have hz := ho 0 (by omega)
                rw [Nat.add_zero, hb, hf] at hz
                exact c27 (by rw [Option.some.inj hz])
              · exact hno j (by omega) hjm ho)) (And.intro (by rw [← nI_1]; rfl) (And.intro rfl (And.intro rfl (And.intro rfl (And.intro rfl (And.intro rfl (And.intro rfl trivial)))))))
        ·
          refine mm_iload (pc := 14) dJ1_indexOf_5af95_14 rfl ?_
          refine mm_iload (pc := 16) dJ1_indexOf_5af95_16 rfl ?_
          refine mm_icmp_gt (pc := 18) (tgt := 119) dJ1_indexOf_5af95_18 (by decide) (fun c18 => ?_) (fun c18 => absurd (nI_lt (by omega) (by omega)) c18)
          refine mm_iconst (pc := 119) (v := (-1)) dJ1_indexOf_5af95_119 (by decide) ?_
          refine mm_iret (pc := 120) dJ1_indexOf_5af95_120 rfl ?_
          exact ⟨rfl, Or.inr ⟨rfl, fun j hj => hno j (by omega) (by omega)⟩⟩
      · intro hle hno
        by_cases him : i ≤ mx
        · have hb : bs[i]? = some bs[i] := List.getElem?_eq_getElem (by omega)
          refine mm_iload (pc := 33) dJ1_indexOf_5af95_33 rfl ?_
          refine mm_iload (pc := 35) dJ1_indexOf_5af95_35 rfl ?_
          refine mm_icmp_gt (pc := 37) (tgt := 52) dJ1_indexOf_5af95_37 (by decide) (fun c37 => absurd c37 (nI_nlt (by omega) (by omega))) (fun c37 => ?_)
          refine mm_aload_n (pc := 40) dJ1_indexOf_5af95_40 rfl (by first | trivial | assumption | exact mm_isr_rf _) ?_
          refine mm_iload (pc := 41) dJ1_indexOf_5af95_41 rfl ?_
          refine mm_bald (pc := 43) (kd := ?kd_43) (vs := ?vs_43) (v := ?v_43) dJ1_indexOf_5af95_43 ?hc_43 ?hk_43 ?h0_43 ?hv_43 ?_; (case hc_43 => exact hv); (case hk_43 => first | rfl | assumption | exact mm_101 (by assumption)); (case h0_43 => exact nI_pos (by omega)); (case hv_43 => rw [nI_clamp (by omega)]; exact bv_get hb)
          refine mm_iload (pc := 44) dJ1_indexOf_5af95_44 rfl ?_
          refine mm_icmp_eq (pc := 46) (tgt := 52) dJ1_indexOf_5af95_46 (by decide) (fun c46 => ?_) (fun c46 => ?_)
          · exact mm_weakK (l52_ (by omega) hno (fun _ => by rw [hb, hf, c46])) (And.intro rfl (And.intro rfl (And.intro rfl (And.intro rfl (And.intro rfl (And.intro rfl (And.intro rfl trivial)))))))
          · refine mm_goto (pc := 49) (tgt := 30) dJ1_indexOf_5af95_49 (by decide) ?_
            refine mm_iinc (pc := 30) dJ1_indexOf_5af95_30 rfl rfl rfl (Nat.le_of_ble_eq_true rfl) ?_
            exact mm_weakK ((ih (i + 1) (by omega)).2.1 (by omega) (fun j hj hjm ho => by
              by_cases e : j = i
              · subst e
                have hz := ho 0 (by omega)
                rw [Nat.add_zero, hb, hf] at hz
                exact c46 (by rw [Option.some.inj hz])
              · exact hno j (by omega) hjm ho)) (And.intro (by rw [← nI_1]; rfl) (And.intro rfl (And.intro rfl (And.intro rfl (And.intro rfl (And.intro rfl (And.intro rfl trivial)))))))
        ·
          refine mm_iload (pc := 33) dJ1_indexOf_5af95_33 rfl ?_
          refine mm_iload (pc := 35) dJ1_indexOf_5af95_35 rfl ?_
          refine mm_icmp_gt (pc := 37) (tgt := 52) dJ1_indexOf_5af95_37 (by decide) (fun c37 => ?_) (fun c37 => absurd (nI_lt (by omega) (by omega)) c37)
          exact mm_weakK (l52_ (by omega) hno (fun z => absurd z him)) (And.intro rfl (And.intro rfl (And.intro rfl (And.intro rfl (And.intro rfl (And.intro rfl (And.intro rfl trivial)))))))
  refine mm_aload_n (pc := 0) dJ1_indexOf_5af95_0 rfl (by first | trivial | assumption | exact mm_isr_rf _) ?_
  refine mm_iconst (pc := 1) (v := 0) dJ1_indexOf_5af95_1 (by decide) ?_
  refine mm_bald (pc := 2) (kd := ?kd_2) (vs := ?vs_2) (v := ?v_2) dJ1_indexOf_5af95_2 ?hc_2 ?hk_2 ?h0_2 ?hv_2 ?_; (case hc_2 => exact hw); (case hk_2 => first | rfl | assumption | exact mm_101 (by assumption)); (case h0_2 => decide); (case hv_2 => exact bv_get hf)
  refine mm_istore (pc := 3) dJ1_indexOf_5af95_3 rfl (Nat.le_of_ble_eq_true rfl) ?_
  refine mm_iload_n (pc := 5) dJ1_indexOf_5af95_5 rfl ?_
  refine mm_iload_n (pc := 6) dJ1_indexOf_5af95_6 rfl ?_
  refine mm_isub (pc := 7) dJ1_indexOf_5af95_7 ?_
  refine mm_topi _ (show nI bs.length - nI cs.length = nI mx by rw [← hmx, ← nI_add, Int32.add_sub_cancel]) ?_
  refine mm_istore (pc := 8) dJ1_indexOf_5af95_8 rfl (Nat.le_of_ble_eq_true rfl) ?_
  refine mm_iload (pc := 10) dJ1_indexOf_5af95_10 rfl ?_
  refine mm_istore (pc := 12) dJ1_indexOf_5af95_12 rfl (Nat.le_of_ble_eq_true rfl) ?_
  exact mm_weakK ((lp_ (mx + 3) 0 (by omega)).1 (by omega) (fun j hj => by omega)) (And.intro rfl (And.intro rfl (And.intro rfl (And.intro rfl (And.intro rfl (And.intro rfl (And.intro rfl trivial)))))))

theorem ok_J1_indexOf2 {G : mm_G} {L : Nat × Nat} {d : Nat} {h : mm_H} {v kv w kw : Nat} {bs cs : List Int32} (hv : h.1 v = some (kv, bv bs)) (hkv : kv % 200 = 101) (hlen : bs.length < 2 ^ 30) (hw : h.1 w = some (kw, bv cs)) (hkw : kw % 200 = 101) (hle : cs.length ≤ bs.length) (hn1 : 1 ≤ cs.length) : mm_Ok G mJ1_indexOf_b82b6 L (d + 1) [.ref v, .ref w] h (fun r h1 => h1 = h ∧ ixP bs cs r) := by
  refine mm_Ok.of [(0, .ref v), (1, .ref w)] rfl kJ1_indexOf_b82b6.2.2.2.2.2 rfl (fun A => ?_)
  have hf : cs[0]? = some cs[0] := List.getElem?_eq_getElem (by omega)
  refine mm_aload_n (pc := 0) dJ1_indexOf_b82b6_0 rfl (by first | trivial | assumption | exact mm_isr_rf _) ?_
  refine mm_alen2 (pc := 1) (kd := ?kd_1) (vs := ?vs_1) dJ1_indexOf_b82b6_1 ?hc_1 ?hk_1 ?ht_1 ?_; (case hc_1 => exact hw); (case hk_1 => first | rfl | assumption | exact mm_101 (by assumption)); (case ht_1 => first | rfl | assumption | exact mm_101c (by assumption))
  refine mm_if_ne (pc := 2) (tgt := 7) dJ1_indexOf_b82b6_2 (by decide) (fun c2 => ?_) (fun c2 => absurd c2 (by rw [bv_len]; exact nI_ne0 (by omega) (by omega)))
  refine mm_aload_n (pc := 7) dJ1_indexOf_b82b6_7 rfl (by first | trivial | assumption | exact mm_isr_rf _) ?_
  refine mm_alen2 (pc := 8) (kd := ?kd_8) (vs := ?vs_8) dJ1_indexOf_b82b6_8 ?hc_8 ?hk_8 ?ht_8 ?_; (case hc_8 => exact hv); (case hk_8 => first | rfl | assumption | exact mm_101 (by assumption)); (case ht_8 => first | rfl | assumption | exact mm_101c (by assumption))
  refine mm_if_ne (pc := 9) (tgt := 14) dJ1_indexOf_b82b6_9 (by decide) (fun c9 => ?_) (fun c9 => absurd c9 (by rw [bv_len]; exact nI_ne0 (by omega) (by omega)))
  refine mm_aload_n (pc := 14) dJ1_indexOf_b82b6_14 rfl (by first | trivial | assumption | exact mm_isr_rf _) ?_
  refine mm_aload_n (pc := 15) dJ1_indexOf_b82b6_15 rfl (by first | trivial | assumption | exact mm_isr_rf _) ?_
  refine mm_alen2 (pc := 16) (kd := ?kd_16) (vs := ?vs_16) dJ1_indexOf_b82b6_16 ?hc_16 ?hk_16 ?ht_16 ?_; (case hc_16 => exact hv); (case hk_16 => first | rfl | assumption | exact mm_101 (by assumption)); (case ht_16 => first | rfl | assumption | exact mm_101c (by assumption))
  refine mm_topi (nI bs.length) (by rw [bv_len]) ?_
  refine mm_aload_n (pc := 17) dJ1_indexOf_b82b6_17 rfl (by first | trivial | assumption | exact mm_isr_rf _) ?_
  refine mm_aload_n (pc := 18) dJ1_indexOf_b82b6_18 rfl (by first | trivial | assumption | exact mm_isr_rf _) ?_
  refine mm_alen2 (pc := 19) (kd := ?kd_19) (vs := ?vs_19) dJ1_indexOf_b82b6_19 ?hc_19 ?hk_19 ?ht_19 ?_; (case hc_19 => exact hw); (case hk_19 => first | rfl | assumption | exact mm_101 (by assumption)); (case ht_19 => first | rfl | assumption | exact mm_101c (by assumption))
  refine mm_topi (nI cs.length) (by rw [bv_len]) ?_
  refine mm_iconst (pc := 20) (v := 0) dJ1_indexOf_b82b6_20 (by decide) ?_
  refine mm_callS (pc := 21) (As := [_, _, _, _, _]) dJ1_indexOf_b82b6_21 sl_J1_99 (ok_J1_indexOf5 hv hkv hlen hw hkw hle hn1 hf) rfl rfl (Nat.le_of_ble_eq_true rfl) ?_
  rintro r1 _ ⟨rfl, hix⟩
  obtain ⟨x_, rfl⟩ : ∃ x, r1 = some (.int x) := by
    rcases hix with ⟨i, -, -, e⟩ | ⟨e, -⟩
    · exact ⟨_, e⟩
    · exact ⟨_, e⟩
  refine mm_iret (pc := 24) dJ1_indexOf_b82b6_24 rfl ?_
  exact ⟨rfl, hix⟩

theorem ok_indexOf {G : mm_G} {L : Nat × Nat} {d : Nat} {h : mm_H} {a b : Nat} {bs cs : List Int32} (hs : sT h a bs) (hs2 : sT h b cs) (hle : cs.length ≤ bs.length) (hn1 : 1 ≤ cs.length) : mm_Ok G mJ0_indexOf_2f485 L (d + 2) [.ref a, .ref b] h (fun r h1 => h1 = h ∧ ixP bs cs r) := by
  refine mm_Ok.of [(0, .ref a), (1, .ref b)] rfl kJ0_indexOf_2f485.2.2.2.2.2 rfl (fun A => ?_)
  obtain ⟨ka, kv, v, rest, hc, hk, hv, hkv, hlen⟩ := hs
  obtain ⟨kb, kw, w, rest2, hc2, hk2, hw, hkw, hlen2⟩ := hs2
  refine mm_aload_n (pc := 0) dJ0_indexOf_2f485_0 rfl (by first | trivial | assumption | exact mm_isr_rf _) ?_
  refine mm_callV (pc := 1) (As := []) (kd := ?kd_1) (fs := ?fs_1) dJ0_indexOf_2f485_1 vl_J0_335 (ok_coder hc hk) ?hc_1 ?hk_1 rfl rfl (Nat.le_of_ble_eq_true rfl) ?_; (case hc_1 => exact hc); (case hk_1 => first | rfl | assumption | exact mm_101 (by assumption))
  rintro _ _ ⟨rfl, rfl⟩
  refine mm_istore_n (pc := 4) dJ0_indexOf_2f485_4 rfl (Nat.le_of_ble_eq_true rfl) ?_
  refine mm_iload_n (pc := 5) dJ0_indexOf_2f485_5 rfl ?_
  refine mm_aload_n (pc := 6) dJ0_indexOf_2f485_6 rfl (by first | trivial | assumption | exact mm_isr_rf _) ?_
  refine mm_callV (pc := 7) (As := []) (kd := ?kd_7) (fs := ?fs_7) dJ0_indexOf_2f485_7 vl_J0_335 (ok_coder hc2 hk2) ?hc_7 ?hk_7 rfl rfl (Nat.le_of_ble_eq_true rfl) ?_; (case hc_7 => exact hc2); (case hk_7 => first | rfl | assumption | exact mm_101 (by assumption))
  rintro _ _ ⟨rfl, rfl⟩
  refine mm_icmp_ne (pc := 10) (tgt := 46) dJ0_indexOf_2f485_10 (by decide) (fun c10 => absurd rfl c10) (fun c10 => ?_)
  refine mm_aload_n (pc := 13) dJ0_indexOf_2f485_13 rfl (by first | trivial | assumption | exact mm_isr_rf _) ?_
  refine mm_callV (pc := 14) (As := []) (kd := ?kd_14) (fs := ?fs_14) dJ0_indexOf_2f485_14 vl_J0_492 (ok_isLatin1 hc hk) ?hc_14 ?hk_14 rfl rfl (Nat.le_of_ble_eq_true rfl) ?_; (case hc_14 => exact hc); (case hk_14 => first | rfl | assumption | exact mm_101 (by assumption))
  rintro _ _ ⟨rfl, rfl⟩
  refine mm_if_eq (pc := 17) (tgt := 34) dJ0_indexOf_2f485_17 (by decide) (fun c17 => absurd c17 (by decide)) (fun c17 => ?_)
  refine mm_aload_n (pc := 20) dJ0_indexOf_2f485_20 rfl (by first | trivial | assumption | exact mm_isr_rf _) ?_
  refine mm_get (pc := 21) (kd := ?kd_21) (fs := ?fs_21) (v := ?v_21) dJ0_indexOf_2f485_21 fl_J0_9 ?hc_21 ?hk_21 ?hv_21 ?_; (case hc_21 => exact hc); (case hk_21 => first | rfl | assumption | exact mm_101 (by assumption)); (case hv_21 => rfl)
  refine mm_aload_n (pc := 24) dJ0_indexOf_2f485_24 rfl (by first | trivial | assumption | exact mm_isr_rf _) ?_
  refine mm_get (pc := 25) (kd := ?kd_25) (fs := ?fs_25) (v := ?v_25) dJ0_indexOf_2f485_25 fl_J0_9 ?hc_25 ?hk_25 ?hv_25 ?_; (case hc_25 => exact hc2); (case hk_25 => first | rfl | assumption | exact mm_101 (by assumption)); (case hv_25 => rfl)
  refine mm_callS (pc := 28) (As := [_, _]) dJ0_indexOf_2f485_28 sl_J0_647 (ok_J1_indexOf2 hv hkv hlen hw hkw hle hn1) rfl rfl (Nat.le_of_ble_eq_true rfl) ?_
  rintro r1 _ ⟨rfl, hix⟩
  obtain ⟨x_, rfl⟩ : ∃ x, r1 = some (.int x) := by
    rcases hix with ⟨i, -, -, e⟩ | ⟨e, -⟩
    · exact ⟨_, e⟩
    · exact ⟨_, e⟩
  refine mm_goto (pc := 31) (tgt := 45) dJ0_indexOf_2f485_31 (by decide) ?_
  refine mm_iret (pc := 45) dJ0_indexOf_2f485_45 rfl ?_
  exact ⟨rfl, hix⟩

