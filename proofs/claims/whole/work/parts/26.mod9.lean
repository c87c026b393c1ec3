/-! act of the reference -/
theorem mw_setS_self {M : mw_S} {j : Nat} {x : Int32} (h : M.1 j = x) : mw_setS M j x = M := by
  unfold mw_setS
  refine Prod.ext ?_ rfl
  funext i
  show mw_u M.1 j x i = M.1 i
  unfold mw_u
  by_cases e : i = j
  · rw [if_pos e, e, h]
  · rw [if_neg e]
def vsame (M M' : mw_S) : Prop := ∀ j i, Nat.ble j 50 = true → M'.2.2.1 j i = M.2.2.1 j i
theorem vsame.has {M M' : mw_S} (h : vsame M M') (q k : Nat) : rm_has M' q k = rm_has M q k := by
  unfold rm_has
  rw [h _ _ rfl]
theorem vsame.sees {M M' : mw_S} (h : vsame M M') (q k u : Nat) : rm_sees M' q k u = rm_sees M q k u := by
  unfold rm_sees
  rw [h _ _ rfl, h _ _ rfl, h _ _ rfl]
theorem vsame.fnd {M M' : mw_S} (h : vsame M M') : rn_fnd M' = rn_fnd M := by
  funext ab k q c
  unfold rn_fnd
  congr 1
  funext x
  rw [h.has, h.sees]
theorem vsame.A {M M' : mw_S} {nk na : Nat} {ab : Nat → Option Nat} {oK oQ : Nat → Nat} (h : vsame M M') (g : rm_A M nk na ab oK oQ) : rm_A M' nk na ab oK oQ := by
  obtain ⟨a1, a2, a3⟩ := g
  refine ⟨a1, fun x hx => ?_, fun k q hk hq hh => ?_⟩
  · rw [h.fnd, h.has, h _ _ rfl, h _ _ rfl, h _ _ rfl, h _ _ rfl, h _ _ rfl]
    exact a2 x hx
  · rw [h _ _ rfl]
    rw [h.has] at hh
    exact a3 k q hk hq hh
theorem vsame.T {M M' : mw_S} {nk : Nat} {ab : Nat → Option Nat} (h : vsame M M') (g : rm_T M nk ab) : rm_T M' nk ab := ⟨g.1, g.2.1, fun i hi => by rw [h _ _ rfl]; exact g.2.2 i hi⟩
theorem rm_rem0_V {M : mw_S} {n a b : Nat} {w x : Int32} {j i : Nat} (hj : j ≤ 54) : (rm_rem0 M n w a x b).2.2.1 j i = M.2.2.1 j i := by
  unfold rm_rem0 mw_setV
  show mw_u2 (mw_u2 (mw_u2 (mw_u2 (mw_u2 (mw_u2 (mw_u2 (mw_u2 M.2.2.1 55 n w) 56 n (nI a)) 57 n x) 58 n (nI b)) 59 (4 * n) (M.2.2.1 51 a)) 59 (4 * n + 1) (M.2.2.1 52 a)) 59 (4 * n + 2) (M.2.2.1 51 b)) 59 (4 * n + 3) (M.2.2.1 52 b) j i = M.2.2.1 j i
  rw [mw_u2_ne _ _ (by omega), mw_u2_ne _ _ (by omega), mw_u2_ne _ _ (by omega), mw_u2_ne _ _ (by omega), mw_u2_ne _ _ (by omega), mw_u2_ne _ _ (by omega), mw_u2_ne _ _ (by omega), mw_u2_ne _ _ (by omega)]
theorem rm_rem_56 {M : mw_S} {n a b : Nat} {w x : Int32} : (rm_rem M n w a x b).2.2.1 56 n = nI a ∧ (rm_rem M n w a x b).2.2.1 58 n = nI b := by
  constructor
  · show mw_u2 (mw_u2 (mw_u2 (mw_u2 (mw_u2 (mw_u2 (mw_u2 (mw_u2 M.2.2.1 55 n w) 56 n (nI a)) 57 n x) 58 n (nI b)) 59 (4 * n) (M.2.2.1 51 a)) 59 (4 * n + 1) (M.2.2.1 52 a)) 59 (4 * n + 2) (M.2.2.1 51 b)) 59 (4 * n + 3) (M.2.2.1 52 b) 56 n = nI a
    rw [mw_u2_ne _ _ (by omega), mw_u2_ne _ _ (by omega), mw_u2_ne _ _ (by omega), mw_u2_ne _ _ (by omega), mw_u2_ne _ _ (by omega), mw_u2_ne _ _ (by omega), mw_u2_eq]
  · show mw_u2 (mw_u2 (mw_u2 (mw_u2 (mw_u2 (mw_u2 (mw_u2 (mw_u2 M.2.2.1 55 n w) 56 n (nI a)) 57 n x) 58 n (nI b)) 59 (4 * n) (M.2.2.1 51 a)) 59 (4 * n + 1) (M.2.2.1 52 a)) 59 (4 * n + 2) (M.2.2.1 51 b)) 59 (4 * n + 3) (M.2.2.1 52 b) 58 n = nI b
    rw [mw_u2_ne _ _ (by omega), mw_u2_ne _ _ (by omega), mw_u2_ne _ _ (by omega), mw_u2_ne _ _ (by omega), mw_u2_eq]
theorem rm_rst_r25 (M : mw_S) (g : Nat → Int32) (n a b : Nat) : rm_rst (mw_r25 M g) n a b = mw_r25 (rm_rst M n a b) g := by
  unfold rm_rst rm_rst0
  rw [r25_setV _ _ _ _ (by decide), r25_setV _ _ _ _ (by decide), r25_setV _ _ _ _ (by decide), r25_setV _ _ _ _ (by decide)]
  rfl
noncomputable section ACT
def rm_act0 (M : mw_S) (i a : Int32) : mw_S := mw_setS (mw_setS (mw_setS (mw_setS (mw_setS (mw_setS (mw_setS M 61 i) 62 a) 65 0) 67 0) 68 0) 72 0) 66 0
def ac0 (M : mw_S) (n app : Nat) (a : Int32) : mw_S := mw_setS (rm_rem (rm_act0 M (nI app) a) n 0 app a app) 63 1
def rnW (ab : Nat → Option Nat) : Nat → Nat → Int32 × mw_S → Int32 × mw_S
  | 0, _, r => r
  | f + 1, q, r => if r.1 = 0 then rnW ab f (q + 1) (rnH ab r.2 q) else r
def rnE (M : mw_S) (n app : Nat) (how told : Int32) : Int32 × mw_S := if how = 0 then (0, mw_setS M 54 (nI (n + 1))) else if how = 3 then (3, mw_setS (rm_rst M n app app) 66 0) else (2, mw_setS (rm_rst M n app app) 66 told)
def sp_actD (n app : Nat) (how told : Int32) (r : Int32 × mw_S) : Int32 × mw_S := rnE r.2 n app (if r.1 = 3 then 3 else if how = 0 then r.1 else how) (if r.1 = 0 then told else if how = 0 then r.2.1 64 else told)
def sp_actC (ab : Nat → Option Nat) (n app : Nat) (r : Int32 × mw_S) : Int32 × mw_S := if r.1 = 3 then rnE r.2 n app 3 (r.2.1 64) else sp_actD n app r.1 (r.2.1 64) (rnH ab (mw_setS r.2 65 0) 5)
def sp_actR (ab : Nat → Option Nat) (n app : Nat) (r : Int32 × mw_S) : Int32 × mw_S := if r.1 = 2 then (1, mw_setS (rm_rst (mw_setS r.2 63 0) n app app) 66 (r.2.1 64)) else sp_actC ab n app (rnW ab 4 1 (r.1, mw_setS r.2 63 0))
def sp_act (M : mw_S) (ab : Nat → Option Nat) (n : Nat) (i a : Int32) : Int32 × mw_S := if sp_in i (M.1 48) = 0 then (-1, rm_ans M 1) else if a < 0 then (-1, rm_ans M 1) else if a ≤ 999 then sp_actR ab n i.toNatClampNeg (rnH ab (ac0 M n i.toNatClampNeg a) 0) else (-1, rm_ans M 1)
end ACT
theorem rnH_r25 (ab : Nat → Option Nat) (M : mw_S) (g : Nat → Int32) (q : Nat) : rnH ab (mw_r25 M g) q = rp (rnH ab M q) g := by
  unfold rnH
  rw [rnU_r25 (rnA_r25 ab 400)]
  rfl
theorem rn_I.more {M : mw_S} {e e' t u : Nat} (h : rn_I M e t u) (he : e ≤ e') (he6 : e' ≤ 6) : rn_I M e' t u := by
  obtain ⟨i1, i2, ⟨r, r1, r2⟩, i4, -, i6, i7⟩ := h
  exact ⟨i1, i2, ⟨r, r1, by omega⟩, i4, he6, i6, i7⟩
theorem rn_I.room {M : mw_S} {e t u : Nat} (h : rn_I M e t u) : ∃ r, M.1 68 = nI r ∧ r + 1 ≤ t + (e + 1) := by
  obtain ⟨i1, i2, ⟨r, r1, r2⟩, -⟩ := h
  exact ⟨r, r1, by omega⟩
theorem rnH_post {M : mw_S} {nk na app K e t u q : Nat} {ab : Nat → Option Nat} {oK oQ : Nat → Nat} (g_ : rn_G M nk na ab oK oQ app K) (hI : rn_I M e t u) (he : e + 1 ≤ 6) (h0K : Ae ab K 0) (hq : q < 6) (h00 : rm_has M q 0 = true) : rn_P M (e + 1) t u (rnH ab M q) := by
  obtain ⟨j_, hj, j1, j2, j3⟩ := rn_root g_ h0K h00
  have hK : rn_K M = K := by
    unfold rn_K rn_app
    rw [g_.2.2.1.1, nI_clamp (by have := g_.2.2.1.2; omega), g_.2.2.2.1.1, nI_clamp (by have := g_.2.2.2.1.2; have := g_.1.2.1; omega)]
  unfold rnH
  rw [hK, hj]
  exact rnB_post (rnA_post 400) g_ (hI.more (by omega) he) hI.room (by omega) j2 hq j3 j1
theorem ac0_V (M : mw_S) (n app : Nat) (a : Int32) {j i : Nat} (hj : j ≤ 54) : (ac0 M n app a).2.2.1 j i = M.2.2.1 j i := by
  have e1 : (ac0 M n app a).2.2.1 = (rm_rem0 (rm_act0 M (nI app) a) n 0 app a app).2.2.1 := rfl
  have e2 : (rm_act0 M (nI app) a).2.2.1 = M.2.2.1 := rfl
  rw [e1, rm_rem0_V hj, e2]
theorem ac0_vs (M : mw_S) (n app : Nat) (a : Int32) : vsame M (ac0 M n app a) := fun j i hj => ac0_V M n app a (by have := Nat.le_of_ble_eq_true hj; omega)
theorem ac0_S (M : mw_S) (n app : Nat) (a : Int32) : (ac0 M n app a).1 = mw_u (mw_u (mw_u (mw_u (mw_u (mw_u (mw_u (mw_u M.1 61 (nI app)) 62 a) 65 0) 67 0) 68 0) 72 0) 66 0) 63 1 := rfl
theorem ac0_56 (M : mw_S) (n app : Nat) (a : Int32) : (ac0 M n app a).2.2.1 56 n = nI app ∧ (ac0 M n app a).2.2.1 58 n = nI app := by
  have e1 : (ac0 M n app a).2.2.1 = (rm_rem (rm_act0 M (nI app) a) n 0 app a app).2.2.1 := rfl
  rw [e1]
  exact rm_rem_56
/-- the house's own six bodies are there -/
def rn_H (M : mw_S) : Prop := ∀ q, q < 6 → rm_has M q 0 = true

/-- each apparatus: its kind, under the house's own; water, heat and size -/
def rm_V (M : mw_S) (nk na : Nat) (ab : Nat → Option Nat) : Prop := ∀ app, app < na → ∃ K, M.2.2.1 49 app = nI K ∧ K < nk ∧ Ae ab K 0 ∧ (∃ w, M.2.2.1 51 app = nI w ∧ nI w ≤ M.2.2.1 50 app ∧ w ≤ 10000) ∧ (∃ w, M.2.2.1 52 app = nI w ∧ w ≤ 100000) ∧ ∃ z, z ≤ 10000 ∧ M.2.2.1 50 app = nI z
theorem ok_X12_act {G : mm_G} {L : Nat × Nat} {h0 h : mm_H} {m : Nat} {ad : Nat → Nat} {M : mw_S} {ab : Nat → Option Nat} {nk na : Nat} {oK oQ : Nat → Nat} {d na_ n : Nat} {i a : Int32} (hT : rm_T M nk ab) (hA : rm_A M nk na ab oK oQ) (hs : M.1 48 = nI na_) (hn : na_ ≤ 20) (hV : rm_V M nk na_ ab) (hH : rn_H M) (hs2 : M.1 54 = nI n) (hn2 : n < 600) (hW : mw_W m ad h0 M h) : mm_Ok G mX12_act L (d + 1204) [.ref m, .int i, .int a] h (fun r h1 => (∃ g, mw_W m ad h0 (mw_r25 (sp_act M ab n i a).2 g) h1) ∧ h1.2 = h.2 ∧ r = some (.int (sp_act M ab n i a).1)) := by
  refine mm_Ok.of [(0, .ref m), (1, .int i), (2, .int a)] rfl kX12_act.2.2.2.2.2 rfl (fun A => ?_)
  have lpE_ : ∀ (app : Nat) (T_ : Int32 × mw_S) (how told : Int32) (M1 : mw_S) (g : Nat → Int32) (h1 : mm_H), app < 20 → M1.1 54 = nI n → M1.2.2.1 56 n = nI app → M1.2.2.1 58 n = nI app → rnE M1 n app how told = T_ → mw_W m ad h0 (mw_r25 M1 g) h1 → h1.2 = h.2 → mm_Run G mX12_act A L (d + 1204) 188 [(3, .int how), (4, .int told), (0, .ref m)] [] h1 (fun r h1 => (∃ g, mw_W m ad h0 (mw_r25 T_.2 g) h1) ∧ h1.2 = h.2 ∧ r = some (.int T_.1)) := by
    intro app T_ how told M1 g h1 happ s54 s56 s58 he hW eh
    refine mm_iload_n (pc := 188) dX12_act_188 rfl ?_
    refine mm_if_ne (pc := 189) (tgt := 204) dX12_act_189 (by decide) (fun c189 => ?_) (fun c189 => ?_)
    · refine mm_aload_n (pc := 204) dX12_act_204 rfl (by first | trivial | assumption | exact mm_isr_rf _) ?_
      refine mm_callV (pc := 205) (As := []) (kd := ?kd_205) (fs := ?fs_205) dX12_act_205 vl_X12_499 (ok_X12_restore (M := mw_r25 M1 g) (n := n) s54 hn2 s56 s58 happ happ hW) ?hc_205 ?hk_205 rfl rfl (Nat.le_of_ble_eq_true rfl) ?_; (case hc_205 => exact hW.1); (case hk_205 => rfl)
      rintro _ h205 ⟨hW, e205, rfl⟩
      rw [rm_rst_r25] at hW
      refine mm_aload_n (pc := 208) dX12_act_208 rfl (by first | trivial | assumption | exact mm_isr_rf _) ?_
      refine mm_iload_n (pc := 209) dX12_act_209 rfl ?_
      refine mm_iconst (pc := 210) (v := 3) dX12_act_210 (by decide) ?_
      refine mm_icmp_ne (pc := 211) (tgt := 218) dX12_act_211 (by decide) (fun c211 => ?_) (fun c211 => ?_)
      · refine mm_iload (pc := 218) dX12_act_218 rfl ?_
        refine mw_put (pc := 220) 66 hW dX12_act_220 (pl_X12_493 _) rfl (fun h220 hW e220 => ?_)
        refine mm_iload_n (pc := 223) dX12_act_223 rfl ?_
        refine mm_iconst (pc := 224) (v := 3) dX12_act_224 (by decide) ?_
        refine mm_icmp_ne (pc := 225) (tgt := 232) dX12_act_225 (by decide) (fun c225 => ?_) (fun c225 => absurd c225 c211)
        refine mm_iconst (pc := 232) (v := 2) dX12_act_232 (by decide) ?_
        refine mm_iret (pc := 233) dX12_act_233 rfl ?_
        unfold rnE at he
        rw [if_neg c189, if_neg c211] at he
        subst he
        exact ⟨⟨g, hW⟩, by rw [e220, e205, eh], rfl⟩
      · refine mm_iconst (pc := 214) (v := 0) dX12_act_214 (by decide) ?_
        refine mm_goto (pc := 215) (tgt := 220) dX12_act_215 (by decide) ?_
        refine mw_put (pc := 220) 66 hW dX12_act_220 (pl_X12_493 _) rfl (fun h220 hW e220 => ?_)
        refine mm_iload_n (pc := 223) dX12_act_223 rfl ?_
        refine mm_iconst (pc := 224) (v := 3) dX12_act_224 (by decide) ?_
        refine mm_icmp_ne (pc := 225) (tgt := 232) dX12_act_225 (by decide) (fun c225 => absurd c211 c225) (fun c225 => ?_)
        refine mm_iconst (pc := 228) (v := 3) dX12_act_228 (by decide) ?_
        refine mm_goto (pc := 229) (tgt := 233) dX12_act_229 (by decide) ?_
        refine mm_iret (pc := 233) dX12_act_233 rfl ?_
        unfold rnE at he
        rw [if_neg c189, if_pos c211] at he
        subst he
        exact ⟨⟨g, hW⟩, by rw [e220, e205, eh], rfl⟩
    · refine mm_aload_n (pc := 192) dX12_act_192 rfl (by first | trivial | assumption | exact mm_isr_rf _) ?_
      refine mm_dup (pc := 193) dX12_act_193 rfl ?_
      refine mw_gets (pc := 194) 54 hW dX12_act_194 fl_X12_440 rfl rfl ?_
      refine mm_iconst (pc := 197) (v := 1) dX12_act_197 (by decide) ?_
      refine mm_iadd (pc := 198) dX12_act_198 ?_
      refine mm_topi _ (show M1.1 54 + 1 = nI (n + 1) by rw [s54, nI_1]) ?_
      refine mw_put (pc := 199) 54 hW dX12_act_199 (pl_X12_440 _) rfl (fun h199 hW e199 => ?_)
      refine mm_iconst (pc := 202) (v := 0) dX12_act_202 (by decide) ?_
      refine mm_iret (pc := 203) dX12_act_203 rfl ?_
      unfold rnE at he
      rw [if_pos c189] at he
      subst he
      exact ⟨⟨g, hW⟩, by rw [e199, eh], rfl⟩
  have lpC_ : ∀ (app : Nat) (T_ : Int32 × mw_S) (how : Int32) (M1 : mw_S) (g : Nat → Int32) (h1 : mm_H) (K e t : Nat), app < 20 → M1.1 54 = nI n → M1.2.2.1 56 n = nI app → M1.2.2.1 58 n = nI app → rn_G M1 nk na ab oK oQ app K → rn_H M1 → Ae ab K 0 → rn_I M1 e t 0 → e + 1 ≤ 6 → sp_actC ab n app (how, M1) = T_ → mw_W m ad h0 (mw_r25 M1 g) h1 → h1.2 = h.2 → mm_Run G mX12_act A L (d + 1204) 129 [(3, .int how), (0, .ref m)] [] h1 (fun r h1 => (∃ g, mw_W m ad h0 (mw_r25 T_.2 g) h1) ∧ h1.2 = h.2 ∧ r = some (.int T_.1)) := by
    intro app T_ how M1 g h1 K e t happ s54 s56 s58 g_ hh h0K hI he6 he hW eh
    refine mm_aload_n (pc := 129) dX12_act_129 rfl (by first | trivial | assumption | exact mm_isr_rf _) ?_
    refine mw_gets (pc := 130) 64 hW dX12_act_130 fl_X12_456 rfl rfl ?_
    refine mm_istore (pc := 133) dX12_act_133 rfl (Nat.le_of_ble_eq_true rfl) ?_
    refine mm_iload_n (pc := 135) dX12_act_135 rfl ?_
    refine mm_iconst (pc := 136) (v := 3) dX12_act_136 (by decide) ?_
    refine mm_icmp_eq (pc := 137) (tgt := 188) dX12_act_137 (by decide) (fun c137 => ?_) (fun c137 => ?_)
    · unfold sp_actC at he
      rw [if_pos c137] at he
      exact mm_weakK (lpE_ app T_ how (M1.1 64) M1 g _ happ s54 s56 s58 (by rw [c137]; exact he) hW eh) (And.intro rfl (And.intro rfl (And.intro rfl trivial)))
    · refine mm_aload_n (pc := 140) dX12_act_140 rfl (by first | trivial | assumption | exact mm_isr_rf _) ?_
      refine mm_iconst (pc := 141) (v := 0) dX12_act_141 (by decide) ?_
      refine mw_put (pc := 142) 65 hW dX12_act_142 (pl_X12_458 _) rfl (fun h142 hW e142 => ?_)
      refine mm_aload_n (pc := 145) dX12_act_145 rfl (by first | trivial | assumption | exact mm_isr_rf _) ?_
      refine mm_iconst (pc := 146) (v := 5) dX12_act_146 (by decide) ?_
      refine mm_topi (nI 5) (by decide) ?_
      rw [show mw_setS (mw_r25 M1 g) 65 0 = mw_r25 M1 g from mw_setS_self (show M1.1 65 = 0 from hI.2.1.1)] at hW
      refine mm_callV (pc := 147) (As := [_]) (kd := ?kd_147) (fs := ?fs_147) dX12_act_147 vl_X12_496 (ok_X12_runHook (M := mw_r25 M1 g) (q := 5) (e := e + 1) (d := d) (rn_G_r25 g g_) (rn_I_r25 g (hI.more (by omega) he6)) hI.room h0K (by decide) (hh 5 (by decide)) hW) ?hc_147 ?hk_147 rfl rfl (Nat.le_of_ble_eq_true rfl) ?_; (case hc_147 => exact hW.1); (case hk_147 => rfl)
      rintro _ h147 ⟨g147, hW, e147, rfl⟩
      rw [rnH_r25] at hW ⊢
      rw [show mw_r25 (rp (rnH ab M1 5) g).2 g147 = mw_r25 (mw_r25 (rnH ab M1 5).2 g) g147 from rfl, mw_r25_r25] at hW
      obtain ⟨p1, ⟨t1, ht1, hI1⟩, pa⟩ := rnH_post g_ hI he6 h0K (show 5 < 6 by decide) (hh 5 (by decide))
      have q54 : (rnH ab M1 5).2.1 54 = nI n := (p1.1 54 (by decide) (by decide) (by decide) (by decide)).trans s54
      have q56 : (rnH ab M1 5).2.2.2.1 56 n = nI app := (p1.2.2.1 56 n (by decide) (by decide) (by decide) (by decide) (Or.inl ⟨by decide, by decide⟩)).trans s56
      have q58 : (rnH ab M1 5).2.2.2.1 58 n = nI app := (p1.2.2.1 58 n (by decide) (by decide) (by decide) (by decide) (Or.inl ⟨by decide, by decide⟩)).trans s58
      unfold sp_actC at he
      rw [if_neg c137, show mw_setS (how, M1).2 65 0 = M1 from mw_setS_self (show M1.1 65 = 0 from hI.2.1.1)] at he
      unfold sp_actD at he
      dsimp only at he
      refine mm_topi (rnH ab M1 5).1 rfl ?_
      refine mm_istore (pc := 150) dX12_act_150 rfl (Nat.le_of_ble_eq_true rfl) ?_
      refine mm_iload (pc := 152) dX12_act_152 rfl ?_
      refine mm_if_eq (pc := 154) (tgt := 167) dX12_act_154 (by decide) (fun c154 => ?_) (fun c154 => ?_)
      · refine mm_iload (pc := 167) dX12_act_167 rfl ?_
        refine mm_iconst (pc := 169) (v := 3) dX12_act_169 (by decide) ?_
        refine mm_icmp_ne (pc := 170) (tgt := 177) dX12_act_170 (by decide) (fun c170 => ?_) (fun c170 => ?_)
        · refine mm_iload_n (pc := 177) dX12_act_177 rfl ?_
          refine mm_if_ne (pc := 178) (tgt := 186) dX12_act_178 (by decide) (fun c178 => ?_) (fun c178 => ?_)
          · refine mm_iload_n (pc := 186) dX12_act_186 rfl ?_
            refine mm_istore_n (pc := 187) dX12_act_187 rfl (Nat.le_of_ble_eq_true rfl) ?_
            rw [if_neg c170, if_neg c178, if_pos c154] at he
            exact mm_weakK (lpE_ app T_ how (M1.1 64) (rnH ab M1 5).2 g147 h147 happ q54 q56 q58 he hW (by rw [e147, e142, eh])) (And.intro rfl (And.intro rfl (And.intro rfl trivial)))
          · refine mm_iload (pc := 181) dX12_act_181 rfl ?_
            refine mm_goto (pc := 183) (tgt := 187) dX12_act_183 (by decide) ?_
            refine mm_istore_n (pc := 187) dX12_act_187 rfl (Nat.le_of_ble_eq_true rfl) ?_
            rw [if_neg c170, if_pos c178, if_pos c154] at he
            exact mm_weakK (lpE_ app T_ (rnH ab M1 5).1 (M1.1 64) (rnH ab M1 5).2 g147 h147 happ q54 q56 q58 he hW (by rw [e147, e142, eh])) (And.intro rfl (And.intro rfl (And.intro rfl trivial)))
        · refine mm_iconst (pc := 173) (v := 3) dX12_act_173 (by decide) ?_
          refine mm_goto (pc := 174) (tgt := 187) dX12_act_174 (by decide) ?_
          refine mm_istore_n (pc := 187) dX12_act_187 rfl (Nat.le_of_ble_eq_true rfl) ?_
          rw [if_pos c170, if_pos c154] at he
          exact mm_weakK (lpE_ app T_ 3 (M1.1 64) (rnH ab M1 5).2 g147 h147 happ q54 q56 q58 he hW (by rw [e147, e142, eh])) (And.intro rfl (And.intro rfl (And.intro rfl trivial)))
      · refine mm_iload_n (pc := 157) dX12_act_157 rfl ?_
        refine mm_if_ne (pc := 158) (tgt := 167) dX12_act_158 (by decide) (fun c158 => ?_) (fun c158 => ?_)
        · refine mm_iload (pc := 167) dX12_act_167 rfl ?_
          refine mm_iconst (pc := 169) (v := 3) dX12_act_169 (by decide) ?_
          refine mm_icmp_ne (pc := 170) (tgt := 177) dX12_act_170 (by decide) (fun c170 => ?_) (fun c170 => ?_)
          · refine mm_iload_n (pc := 177) dX12_act_177 rfl ?_
            refine mm_if_ne (pc := 178) (tgt := 186) dX12_act_178 (by decide) (fun c178 => ?_) (fun c178 => ?_)
            · refine mm_iload_n (pc := 186) dX12_act_186 rfl ?_
              refine mm_istore_n (pc := 187) dX12_act_187 rfl (Nat.le_of_ble_eq_true rfl) ?_
              rw [if_neg c170, if_neg c178, if_neg c154, if_neg c158] at he
              exact mm_weakK (lpE_ app T_ how (M1.1 64) (rnH ab M1 5).2 g147 h147 happ q54 q56 q58 he hW (by rw [e147, e142, eh])) (And.intro rfl (And.intro rfl (And.intro rfl trivial)))
            · refine mm_iload (pc := 181) dX12_act_181 rfl ?_
              refine mm_goto (pc := 183) (tgt := 187) dX12_act_183 (by decide) ?_
              refine mm_istore_n (pc := 187) dX12_act_187 rfl (Nat.le_of_ble_eq_true rfl) ?_
              exact absurd c178 c158
          · refine mm_iconst (pc := 173) (v := 3) dX12_act_173 (by decide) ?_
            refine mm_goto (pc := 174) (tgt := 187) dX12_act_174 (by decide) ?_
            refine mm_istore_n (pc := 187) dX12_act_187 rfl (Nat.le_of_ble_eq_true rfl) ?_
            rw [if_pos c170, if_neg c154, if_neg c158] at he
            exact mm_weakK (lpE_ app T_ 3 (M1.1 64) (rnH ab M1 5).2 g147 h147 happ q54 q56 q58 he hW (by rw [e147, e142, eh])) (And.intro rfl (And.intro rfl (And.intro rfl trivial)))
        · refine mm_aload_n (pc := 161) dX12_act_161 rfl (by first | trivial | assumption | exact mm_isr_rf _) ?_
          refine mw_gets (pc := 162) 64 hW dX12_act_162 fl_X12_456 rfl rfl ?_
          refine mm_istore (pc := 165) dX12_act_165 rfl (Nat.le_of_ble_eq_true rfl) ?_
          refine mm_iload (pc := 167) dX12_act_167 rfl ?_
          refine mm_iconst (pc := 169) (v := 3) dX12_act_169 (by decide) ?_
          refine mm_icmp_ne (pc := 170) (tgt := 177) dX12_act_170 (by decide) (fun c170 => ?_) (fun c170 => ?_)
          · refine mm_iload_n (pc := 177) dX12_act_177 rfl ?_
            refine mm_if_ne (pc := 178) (tgt := 186) dX12_act_178 (by decide) (fun c178 => ?_) (fun c178 => ?_)
            · refine mm_iload_n (pc := 186) dX12_act_186 rfl ?_
              refine mm_istore_n (pc := 187) dX12_act_187 rfl (Nat.le_of_ble_eq_true rfl) ?_
              exact absurd c158 c178
            · refine mm_iload (pc := 181) dX12_act_181 rfl ?_
              refine mm_goto (pc := 183) (tgt := 187) dX12_act_183 (by decide) ?_
              refine mm_istore_n (pc := 187) dX12_act_187 rfl (Nat.le_of_ble_eq_true rfl) ?_
              rw [if_neg c170, if_pos c178, if_neg c154, if_pos c158] at he
              exact mm_weakK (lpE_ app T_ (rnH ab M1 5).1 ((rnH ab M1 5).2.1 64) (rnH ab M1 5).2 g147 h147 happ q54 q56 q58 he hW (by rw [e147, e142, eh])) (And.intro rfl (And.intro rfl (And.intro rfl trivial)))
          · refine mm_iconst (pc := 173) (v := 3) dX12_act_173 (by decide) ?_
            refine mm_goto (pc := 174) (tgt := 187) dX12_act_174 (by decide) ?_
            refine mm_istore_n (pc := 187) dX12_act_187 rfl (Nat.le_of_ble_eq_true rfl) ?_
            rw [if_pos c170, if_neg c154, if_pos c158] at he
            exact mm_weakK (lpE_ app T_ 3 ((rnH ab M1 5).2.1 64) (rnH ab M1 5).2 g147 h147 happ q54 q56 q58 he hW (by rw [e147, e142, eh])) (And.intro rfl (And.intro rfl (And.intro rfl trivial)))
  have lpL_ : ∀ (v q : Nat), q + v = 5 → 1 ≤ q → ∀ (app : Nat) (T_ : Int32 × mw_S) (how : Int32) (M1 : mw_S) (g : Nat → Int32) (h1 : mm_H) (K e t : Nat), app < 20 → M1.1 54 = nI n → M1.2.2.1 56 n = nI app → M1.2.2.1 58 n = nI app → rn_G M1 nk na ab oK oQ app K → rn_H M1 → Ae ab K 0 → rn_I M1 e t 0 → e ≤ q → sp_actC ab n app (rnW ab v q (how, M1)) = T_ → mw_W m ad h0 (mw_r25 M1 g) h1 → h1.2 = h.2 → mm_Run G mX12_act A L (d + 1204) 106 [(4, .int (nI q)), (3, .int how), (0, .ref m)] [] h1 (fun r h1 => (∃ g, mw_W m ad h0 (mw_r25 T_.2 g) h1) ∧ h1.2 = h.2 ∧ r = some (.int T_.1)) := by
    intro v
    induction v with
    | zero =>
      intro q hq hq1 app T_ how M1 g h1 K e t happ s54 s56 s58 g_ hh h0K hI he6 he hW eh
      obtain rfl : q = 5 := by omega
      refine mm_iload (pc := 106) dX12_act_106 rfl ?_
      refine mm_iconst (pc := 108) (v := 5) dX12_act_108 (by decide) ?_
      refine mm_icmp_ge (pc := 109) (tgt := 129) dX12_act_109 (by decide) (fun c109 => ?_) (fun c109 => absurd (by decide) c109)
      exact mm_weakK (lpC_ app T_ how M1 g h1 K e t happ s54 s56 s58 g_ hh h0K hI (by omega) (by rw [← he]; rfl) hW eh) (And.intro rfl (And.intro rfl trivial))
    | succ v ih =>
      intro q hq hq1 app T_ how M1 g h1 K e t happ s54 s56 s58 g_ hh h0K hI he6 he hW eh
      refine mm_iload (pc := 106) dX12_act_106 rfl ?_
      refine mm_iconst (pc := 108) (v := 5) dX12_act_108 (by decide) ?_
      refine mm_icmp_ge (pc := 109) (tgt := 129) dX12_act_109 (by decide) (fun c109 => absurd c109 (nI_ge (b := 5) (by omega) (by decide))) (fun c109 => ?_)
      refine mm_iload_n (pc := 112) dX12_act_112 rfl ?_
      refine mm_if_ne (pc := 113) (tgt := 129) dX12_act_113 (by decide) (fun c113 => ?_) (fun c113 => ?_)
      · exact mm_weakK (lpC_ app T_ how M1 g h1 K e t happ s54 s56 s58 g_ hh h0K hI (by omega) (by rw [← he]; exact congrArg _ (if_neg c113).symm) hW eh) (And.intro rfl (And.intro rfl trivial))
      · refine mm_aload_n (pc := 116) dX12_act_116 rfl (by first | trivial | assumption | exact mm_isr_rf _) ?_
        refine mm_iload (pc := 117) dX12_act_117 rfl ?_
        refine mm_callV (pc := 119) (As := [_]) (kd := ?kd_119) (fs := ?fs_119) dX12_act_119 vl_X12_496 (ok_X12_runHook (M := mw_r25 M1 g) (q := q) (e := e + 1) (d := d) (rn_G_r25 g g_) (rn_I_r25 g (hI.more (by omega) (by omega))) hI.room h0K (by omega) (hh q (by omega)) hW) ?hc_119 ?hk_119 rfl rfl (Nat.le_of_ble_eq_true rfl) ?_; (case hc_119 => exact hW.1); (case hk_119 => rfl)
        rintro _ h119 ⟨g119, hW, e119, rfl⟩
        rw [rnH_r25] at hW ⊢
        rw [show mw_r25 (rp (rnH ab M1 q) g).2 g119 = mw_r25 (mw_r25 (rnH ab M1 q).2 g) g119 from rfl, mw_r25_r25] at hW
        refine mm_topi (rnH ab M1 q).1 rfl ?_
        obtain ⟨p1, ⟨t1, ht1, hI1⟩, pa⟩ := rnH_post g_ hI (by omega) h0K (show q < 6 by omega) (hh q (by omega))
        have q54 : (rnH ab M1 q).2.1 54 = nI n := (p1.1 54 (by decide) (by decide) (by decide) (by decide)).trans s54
        have q56 : (rnH ab M1 q).2.2.2.1 56 n = nI app := (p1.2.2.1 56 n (by decide) (by decide) (by decide) (by decide) (Or.inl ⟨by decide, by decide⟩)).trans s56
        have q58 : (rnH ab M1 q).2.2.2.1 58 n = nI app := (p1.2.2.1 58 n (by decide) (by decide) (by decide) (by decide) (Or.inl ⟨by decide, by decide⟩)).trans s58
        refine mm_istore_n (pc := 122) dX12_act_122 rfl (Nat.le_of_ble_eq_true rfl) ?_
        refine mm_iinc (pc := 123) dX12_act_123 rfl rfl rfl (Nat.le_of_ble_eq_true rfl) ?_
        refine mm_goto (pc := 126) (tgt := 106) dX12_act_126 (by decide) ?_
        exact mm_weakK (ih (q + 1) (by omega) (by omega) app T_ (rnH ab M1 q).1 (rnH ab M1 q).2 g119 h119 K (e + 1) t1 happ q54 q56 q58 (rn_G.same p1 g_) (fun q2 hq2 => by rw [p1.has]; exact hh q2 hq2) h0K hI1 (by omega) (by rw [← he]; exact congrArg _ (if_pos c113).symm) hW (by rw [e119, eh])) (And.intro (by rw [← nI_1]; rfl) (And.intro rfl (And.intro rfl trivial)))
  refine mm_aload_n (pc := 0) dX12_act_0 rfl (by first | trivial | assumption | exact mm_isr_rf _) ?_
  refine mm_iload_n (pc := 1) dX12_act_1 rfl ?_
  refine mm_callV (pc := 2) (As := [_]) (kd := ?kd_2) (fs := ?fs_2) dX12_act_2 vl_X12_445 (ok_X12_isApp hW) ?hc_2 ?hk_2 rfl rfl (Nat.le_of_ble_eq_true rfl) ?_; (case hc_2 => exact hW.1); (case hk_2 => rfl)
  rintro _ _ ⟨rfl, rfl⟩
  refine mm_if_eq (pc := 5) (tgt := 19) dX12_act_5 (by decide) (fun c5 => ?_) (fun c5 => ?_)
  · refine mm_aload_n (pc := 19) dX12_act_19 rfl (by first | trivial | assumption | exact mm_isr_rf _) ?_
    refine mm_iconst (pc := 20) (v := (-1)) dX12_act_20 (by decide) ?_
    refine mm_callV (pc := 21) (As := [_]) (kd := ?kd_21) (fs := ?fs_21) dX12_act_21 vl_X12_189 (ok_X12_answer (x := -1) (c := 1) (by decide) (by decide) (by decide) hW) ?hc_21 ?hk_21 rfl rfl (Nat.le_of_ble_eq_true rfl) ?_; (case hc_21 => exact hW.1); (case hk_21 => rfl)
    rintro _ h_ ⟨hW, e_, rfl⟩
    refine mm_iret (pc := 24) dX12_act_24 rfl ?_
    unfold sp_act
    rw [if_pos c5]
    exact ⟨mw_Wg hW, e_, rfl⟩
  · refine mm_iload_n (pc := 8) dX12_act_8 rfl ?_
    refine mm_if_lt (pc := 9) (tgt := 19) dX12_act_9 (by decide) (fun c9 => ?_) (fun c9 => ?_)
    · refine mm_aload_n (pc := 19) dX12_act_19 rfl (by first | trivial | assumption | exact mm_isr_rf _) ?_
      refine mm_iconst (pc := 20) (v := (-1)) dX12_act_20 (by decide) ?_
      refine mm_callV (pc := 21) (As := [_]) (kd := ?kd_21) (fs := ?fs_21) dX12_act_21 vl_X12_189 (ok_X12_answer (x := -1) (c := 1) (by decide) (by decide) (by decide) hW) ?hc_21 ?hk_21 rfl rfl (Nat.le_of_ble_eq_true rfl) ?_; (case hc_21 => exact hW.1); (case hk_21 => rfl)
      rintro _ h_ ⟨hW, e_, rfl⟩
      refine mm_iret (pc := 24) dX12_act_24 rfl ?_
      unfold sp_act
      rw [if_neg c5, if_pos c9]
      exact ⟨mw_Wg hW, e_, rfl⟩
    · refine mm_iload_n (pc := 12) dX12_act_12 rfl ?_
      refine mm_sipush (pc := 13) (v := 999) dX12_act_13 (by decide) ?_
      refine mm_icmp_le (pc := 16) (tgt := 25) dX12_act_16 (by decide) (fun c16 => ?_) (fun c16 => ?_)
      · obtain ⟨app, ha_, rfl⟩ := sp_in_of c5 hs (by omega)
        have happ : app < 20 := by omega
        obtain ⟨av, hav, rfl⟩ := nI_of2 (n := 999) (by decide) c9 c16
        obtain ⟨K, hv1, hv2, hv3, ⟨w1, hw1, hw2, hw3⟩, ⟨w2, hw4, hw5⟩, z1, hz1, hz2⟩ := hV app ha_
        have vs_ := ac0_vs M n app (nI av)
        have g_ : rn_G (ac0 M n app (nI av)) nk na ab oK oQ app K := ⟨vs_.T hT, vs_.A hA, ⟨rfl, happ⟩, ⟨by rw [vs_ _ _ rfl]; exact hv1, hv2⟩, ⟨av, hav, rfl⟩, ⟨z1, hz1, by rw [vs_ _ _ rfl]; exact hz2⟩⟩
        have hap : rn_app (ac0 M n app (nI av)) = app := nI_clamp (show app < 2 ^ 31 by omega)
        have hI : rn_I (ac0 M n app (nI av)) 1 0 0 := ⟨⟨rfl, by decide⟩, ⟨rfl, by decide⟩, ⟨0, rfl, by decide⟩, ⟨0, rfl, by decide⟩, by decide, ⟨w1, by rw [hap]; exact (ac0_V M n app (nI av) (by decide)).trans hw1, by rw [hap, vs_ _ _ rfl]; exact hw2, hw3⟩, ⟨w2, by rw [hap]; exact (ac0_V M n app (nI av) (by decide)).trans hw4, hw5⟩⟩
        have hh : rn_H (ac0 M n app (nI av)) := fun q hq => by rw [vs_.has]; exact hH q hq
        have h0K := hv3
        obtain ⟨p1, ⟨t1, ht1, hI1⟩, pa⟩ := rnH_post g_ ((show rn_I (ac0 M n app (nI av)) 0 0 0 from ⟨hI.1, hI.2.1, ⟨0, rfl, by decide⟩, hI.2.2.2.1, by decide, hI.2.2.2.2.2⟩)) (by decide) h0K (show 0 < 6 by decide) (hh 0 (by decide))
        have s54 : (ac0 M n app (nI av)).1 54 = nI n := hs2
        have s56 : (ac0 M n app (nI av)).2.2.1 56 n = nI app := (ac0_56 M n app (nI av)).1
        have s58 : (ac0 M n app (nI av)).2.2.1 58 n = nI app := (ac0_56 M n app (nI av)).2
        have q54 : (rnH ab (ac0 M n app (nI av)) 0).2.1 54 = nI n := (p1.1 54 (by decide) (by decide) (by decide) (by decide)).trans s54
        have q56 : (rnH ab (ac0 M n app (nI av)) 0).2.2.2.1 56 n = nI app := (p1.2.2.1 56 n (by decide) (by decide) (by decide) (by decide) (Or.inl ⟨by decide, by decide⟩)).trans s56
        have q58 : (rnH ab (ac0 M n app (nI av)) 0).2.2.2.1 58 n = nI app := (p1.2.2.1 58 n (by decide) (by decide) (by decide) (by decide) (Or.inl ⟨by decide, by decide⟩)).trans s58
        refine mm_aload_n (pc := 25) dX12_act_25 rfl (by first | trivial | assumption | exact mm_isr_rf _) ?_
        refine mm_iload_n (pc := 26) dX12_act_26 rfl ?_
        refine mw_put (pc := 27) 61 hW dX12_act_27 (pl_X12_479 _) rfl (fun h27 hW e27 => ?_)
        refine mm_aload_n (pc := 30) dX12_act_30 rfl (by first | trivial | assumption | exact mm_isr_rf _) ?_
        refine mm_iload_n (pc := 31) dX12_act_31 rfl ?_
        refine mw_put (pc := 32) 62 hW dX12_act_32 (pl_X12_473 _) rfl (fun h32 hW e32 => ?_)
        refine mm_aload_n (pc := 35) dX12_act_35 rfl (by first | trivial | assumption | exact mm_isr_rf _) ?_
        refine mm_iconst (pc := 36) (v := 0) dX12_act_36 (by decide) ?_
        refine mw_put (pc := 37) 65 hW dX12_act_37 (pl_X12_458 _) rfl (fun h37 hW e37 => ?_)
        refine mm_aload_n (pc := 40) dX12_act_40 rfl (by first | trivial | assumption | exact mm_isr_rf _) ?_
        refine mm_iconst (pc := 41) (v := 0) dX12_act_41 (by decide) ?_
        refine mw_put (pc := 42) 67 hW dX12_act_42 (pl_X12_467 _) rfl (fun h42 hW e42 => ?_)
        refine mm_aload_n (pc := 45) dX12_act_45 rfl (by first | trivial | assumption | exact mm_isr_rf _) ?_
        refine mm_iconst (pc := 46) (v := 0) dX12_act_46 (by decide) ?_
        refine mw_put (pc := 47) 68 hW dX12_act_47 (pl_X12_461 _) rfl (fun h47 hW e47 => ?_)
        refine mm_aload_n (pc := 50) dX12_act_50 rfl (by first | trivial | assumption | exact mm_isr_rf _) ?_
        refine mm_iconst (pc := 51) (v := 0) dX12_act_51 (by decide) ?_
        refine mw_put (pc := 52) 72 hW dX12_act_52 (pl_X12_482 _) rfl (fun h52 hW e52 => ?_)
        refine mm_aload_n (pc := 55) dX12_act_55 rfl (by first | trivial | assumption | exact mm_isr_rf _) ?_
        refine mm_iconst (pc := 56) (v := 0) dX12_act_56 (by decide) ?_
        refine mw_put (pc := 57) 66 hW dX12_act_57 (pl_X12_493 _) rfl (fun h57 hW e57 => ?_)
        refine mm_aload_n (pc := 60) dX12_act_60 rfl (by first | trivial | assumption | exact mm_isr_rf _) ?_
        refine mm_iconst (pc := 61) (v := 0) dX12_act_61 (by decide) ?_
        refine mm_iload_n (pc := 62) dX12_act_62 rfl ?_
        refine mm_iload_n (pc := 63) dX12_act_63 rfl ?_
        refine mm_iload_n (pc := 64) dX12_act_64 rfl ?_
        refine mm_callV (pc := 65) (As := [_, _, _, _]) (kd := ?kd_65) (fs := ?fs_65) dX12_act_65 vl_X12_453 (ok_X12_remember (M := rm_act0 M (nI app) (nI av)) (a := app) (b := app) hs2 hn2 happ happ hW) ?hc_65 ?hk_65 rfl rfl (Nat.le_of_ble_eq_true rfl) ?_; (case hc_65 => exact hW.1); (case hk_65 => rfl)
        rintro _ h65 ⟨hW, e65, rfl⟩
        refine mm_aload_n (pc := 68) dX12_act_68 rfl (by first | trivial | assumption | exact mm_isr_rf _) ?_
        refine mm_iconst (pc := 69) (v := 1) dX12_act_69 (by decide) ?_
        refine mw_putZ (pc := 70) 63 hW dX12_act_70 (pl_X12_490 _) rfl (by first | exact Or.inl rfl | exact Or.inr rfl | assumption) (fun h70 hW e70 => ?_)
        refine mm_aload_n (pc := 73) dX12_act_73 rfl (by first | trivial | assumption | exact mm_isr_rf _) ?_
        refine mm_iconst (pc := 74) (v := 0) dX12_act_74 (by decide) ?_
        refine mm_topi (nI 0) (by decide) ?_
        refine mm_callV (pc := 75) (As := [_]) (kd := ?kd_75) (fs := ?fs_75) dX12_act_75 vl_X12_496 (ok_X12_runHook (M := ac0 M n app (nI av)) (q := 0) (e := 1) (d := d) (t := 0) (u := 0) g_ hI ⟨0, rfl, by decide⟩ h0K (by decide) (hh 0 (by decide)) hW) ?hc_75 ?hk_75 rfl rfl (Nat.le_of_ble_eq_true rfl) ?_; (case hc_75 => exact hW.1); (case hk_75 => rfl)
        rintro _ h75 ⟨g75, hW, e75, rfl⟩
        refine mm_istore_n (pc := 78) dX12_act_78 rfl (Nat.le_of_ble_eq_true rfl) ?_
        refine mm_aload_n (pc := 79) dX12_act_79 rfl (by first | trivial | assumption | exact mm_isr_rf _) ?_
        refine mm_iconst (pc := 80) (v := 0) dX12_act_80 (by decide) ?_
        refine mw_putZ (pc := 81) 63 hW dX12_act_81 (pl_X12_490 _) rfl (by first | exact Or.inl rfl | exact Or.inr rfl | assumption) (fun h81 hW e81 => ?_)
        refine mm_iload_n (pc := 84) dX12_act_84 rfl ?_
        refine mm_iconst (pc := 85) (v := 2) dX12_act_85 (by decide) ?_
        refine mm_icmp_ne (pc := 86) (tgt := 103) dX12_act_86 (by decide) (fun c86 => ?_) (fun c86 => ?_)
        · refine mm_iconst (pc := 103) (v := 1) dX12_act_103 (by decide) ?_
          refine mm_istore (pc := 104) dX12_act_104 rfl (Nat.le_of_ble_eq_true rfl) ?_
          refine mm_weakK (lpL_ 4 1 (by decide) (by decide) app (sp_act M ab n (nI app) (nI av)) (rnH ab (ac0 M n app (nI av)) 0).1 (mw_setS (rnH ab (ac0 M n app (nI av)) 0).2 63 0) g75 h81 K 1 t1 happ q54 q56 q58 (show rn_G (rnH ab (ac0 M n app (nI av)) 0).2 nk na ab oK oQ app K from rn_G.same p1 g_) (fun q2 hq2 => by rw [show rm_has (mw_setS (rnH ab (ac0 M n app (nI av)) 0).2 63 0) q2 0 = rm_has (rnH ab (ac0 M n app (nI av)) 0).2 q2 0 from rfl, p1.has]; exact hh q2 hq2) h0K hI1 (by decide) ?_ hW (by rw [e81, e75, e70, e65, e57, e52, e47, e42, e37, e32, e27])) (And.intro rfl (And.intro rfl (And.intro rfl trivial)))
          unfold sp_act
          rw [if_neg c5, if_neg c9, if_pos c16, nI_clamp (show app < 2 ^ 31 by omega)]
          unfold sp_actR
          rw [if_neg c86]
        · refine mm_aload_n (pc := 89) dX12_act_89 rfl (by first | trivial | assumption | exact mm_isr_rf _) ?_
          refine mm_callV (pc := 90) (As := []) (kd := ?kd_90) (fs := ?fs_90) dX12_act_90 vl_X12_499 (ok_X12_restore (M := mw_r25 (mw_setS (rnH ab (ac0 M n app (nI av)) 0).2 63 0) g75) (n := n) q54 hn2 q56 q58 happ happ hW) ?hc_90 ?hk_90 rfl rfl (Nat.le_of_ble_eq_true rfl) ?_; (case hc_90 => exact hW.1); (case hk_90 => rfl)
          rintro _ h90 ⟨hW, e90, rfl⟩
          rw [rm_rst_r25] at hW
          refine mm_aload_n (pc := 93) dX12_act_93 rfl (by first | trivial | assumption | exact mm_isr_rf _) ?_
          refine mm_aload_n (pc := 94) dX12_act_94 rfl (by first | trivial | assumption | exact mm_isr_rf _) ?_
          refine mw_gets (pc := 95) 64 hW dX12_act_95 fl_X12_456 rfl rfl ?_
          refine mw_put (pc := 98) 66 hW dX12_act_98 (pl_X12_493 _) rfl (fun h98 hW e98 => ?_)
          refine mm_iconst (pc := 101) (v := 1) dX12_act_101 (by decide) ?_
          refine mm_iret (pc := 102) dX12_act_102 rfl ?_
          unfold sp_act
          rw [if_neg c5, if_neg c9, if_pos c16, nI_clamp (show app < 2 ^ 31 by omega)]
          unfold sp_actR
          rw [if_pos c86]
          exact ⟨⟨g75, hW⟩, by rw [e98, e90, e81, e75, e70, e65, e57, e52, e47, e42, e37, e32, e27], rfl⟩
      · refine mm_aload_n (pc := 19) dX12_act_19 rfl (by first | trivial | assumption | exact mm_isr_rf _) ?_
        refine mm_iconst (pc := 20) (v := (-1)) dX12_act_20 (by decide) ?_
        refine mm_callV (pc := 21) (As := [_]) (kd := ?kd_21) (fs := ?fs_21) dX12_act_21 vl_X12_189 (ok_X12_answer (x := -1) (c := 1) (by decide) (by decide) (by decide) hW) ?hc_21 ?hk_21 rfl rfl (Nat.le_of_ble_eq_true rfl) ?_; (case hc_21 => exact hW.1); (case hk_21 => rfl)
        rintro _ h_ ⟨hW, e_, rfl⟩
        refine mm_iret (pc := 24) dX12_act_24 rfl ?_
        unfold sp_act
        rw [if_neg c5, if_neg c9, if_neg c16]
        exact ⟨mw_Wg hW, e_, rfl⟩

