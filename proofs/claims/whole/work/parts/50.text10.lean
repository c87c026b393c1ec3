/-! a kind of the reference -/
section UNB
variable {tb : Nat → Nat} {n : Nat} {u : Nat → Nat → Option Nat} {x : Option Nat} {k : Nat}
theorem pBd4_U (q g : Nat) (r l : Int32) (s : Bool) (z : pr_T) : pBd4 k q g r l s (prU u x z) = prU u x (pBd4 k q g r l s z) := by
  unfold pBd4
  rw [prU_if]
  refine if_c rfl ?_
  cases s <;> rfl
theorem pBd3_U (q : Nat) (r l : Int32) (M : mw_S) (t : Nat) : pBd3 tb n k q r l (mUN u x M) t = prU u x (pBd3 tb n k q r l M t) := by
  unfold pBd3
  rw [← pBd4_U, ← pB_U (pL_U k q n)]
  have e : (if rm_has (mUN u x M) q k = true then rm_faulty (mUN u x M) 3 ((mUN u x M).1 27) else mUN u x M) = mUN u x (if rm_has M q k = true then rm_faulty M 3 (M.1 27) else M) := by
    rw [mUN_if, ← rm_faulty_U]
    rfl
  rw [e]
  generalize (if rm_has M q k = true then rm_faulty M 3 (M.1 27) else M) = M1
  have e3 : ∀ (b g p a : Nat) (s : Bool), mw_setS (pw tb n (rm_bgh (rm_bnew (mUN u x M1) b k q) g k q p a s) t) 47 0 = mUN u x (mw_setS (pw tb n (rm_bgh (rm_bnew M1 b k q) g k q p a s) t) 47 0) := fun _ _ _ _ _ => rfl
  rw [e3]
  rfl
theorem pBody_U (M : mw_S) (t : Nat) : pBody tb n k (mUN u x M) t = prU u x (pBody tb n k M t) := by
  have e2 : ∀ (r l : Int32) (M : mw_S) (t : Nat), pBd2 tb n k r l (mUN u x M) t = prU u x (pBd2 tb n k r l M t) := by
    intro r l M t
    unfold pBd2
    rw [prU_if, pBd3_U]
    rfl
  have e1 : ∀ (r : Int32) (M : mw_S) (t : Nat), pBd1 tb n k r (mUN u x M) t = prU u x (pBd1 tb n k r M t) := by
    intro r M t
    unfold pBd1
    rw [prU_if, e2]
    exact if_c (e2 r 1 (pw tb n M t) (t + 1)) rfl
  unfold pBody
  rw [prU_if, prU_if, e1]
  exact if_c (e1 0 (pw tb n M t) (t + 1)) (if_c (e1 1 (pw tb n M t) (t + 1)) rfl)
end UNB
theorem pI.U {tb : Nat → Nat} {n a0 t : Nat} {M : mw_S} {u : Nat → Nat → Option Nat} {x : Option Nat} (h : pI tb n a0 M t) : pI tb n a0 (mUN u x M) t := h.same rfl rfl
theorem rm_clr_0 (M : mw_S) (k : Nat) : rm_clr M k 0 = M := by
  refine Prod.ext rfl (Prod.ext rfl (Prod.ext (funext fun j => funext fun l => ?_) rfl))
  show (if j = 8 ∧ 6 * k ≤ l ∧ l < 6 * k + 0 then 0 else M.2.2.1 j l) = _
  rw [if_neg (by omega)]
theorem rm_clr_s (M : mw_S) (k i : Nat) : mw_setV (rm_clr M k i) 8 (6 * k + i) 0 = rm_clr M k (i + 1) := by
  refine Prod.ext rfl (Prod.ext rfl (Prod.ext (funext fun j => funext fun l => ?_) rfl))
  show (if j = 8 ∧ l = 6 * k + i then 0 else (if j = 8 ∧ 6 * k ≤ l ∧ l < 6 * k + i then 0 else M.2.2.1 j l)) = (if j = 8 ∧ 6 * k ≤ l ∧ l < 6 * k + (i + 1) then 0 else M.2.2.1 j l)
  by_cases c : j = 8 ∧ 6 * k ≤ l ∧ l < 6 * k + (i + 1)
  · rw [if_pos c]
    by_cases c2 : j = 8 ∧ l = 6 * k + i
    · rw [if_pos c2]
    · rw [if_neg c2, if_pos (by omega)]
  · rw [if_neg c, if_neg (by omega), if_neg (by omega)]
theorem oI_lt {r : Option Nat} (h : ∀ y, r = some y → y < 2 ^ 31) : oI r < 0 ↔ r = none := by
  cases r with
  | none => exact ⟨fun _ => rfl, fun _ => by decide⟩
  | some y => exact ⟨fun z => absurd z (nI_pos (h y rfl)), fun z => by cases z⟩
theorem kfi_lt {f : Nat → Int64} {w : Int64} {n : Nat} (hn : n < 2 ^ 31) : ∀ y, kfi f w n = some y → y < 2 ^ 31 := fun y h => by have := (kfA_s n 0 y h).2.1; omega

theorem rk_bods {G : mm_G} {L : Nat × Nat} {d : Nat} {hb : mm_H} {m : Nat} {ad : Nat → Nat} {tb : Nat → Nat} {n a0 k : Nat} {u : Nat → Nat → Option Nat} {x : Option Nat} {A : Nat → Prop} (hL : LT G m ad hb) (hk : k < 50) : ∀ (f : Nat) (M : mw_S) (t : Nat) (h : mm_H), pI tb n a0 M t → n - qs tb n t < f → mw_W m ad hb (mUN u x M) h → ∀ Q : Option Value → mm_H → Prop, (∀ r h2, (mw_W m ad hb (mUN u x (pBs tb n k f M t).2.1) h2 ∧ h2.2 = h.2 ∧ r = some (.int (pBs tb n k f M t).1)) → Q r h2) → mm_Run G mX12_readKind A L (d + 30) 226 [(1, .int (nI k)), (0, .ref m)] [] h Q := by
  intro f
  induction f with
  | zero => intro M t h _ hf; omega
  | succ f ih =>
    intro M t h hI hf hW Q hQ
    refine mm_aload_n (pc := 226) dX12_readKind_226 rfl (by first | trivial | assumption | exact mm_isr_rf _) ?_
    refine mm_ldcSw (pc := 227) (i := 18) dX12_readKind_227 rfl ?_
    refine mm_callV (pc := 230) (As := [_]) (kd := ?kd_230_1) (fs := ?fs_230_1) dX12_readKind_230 vl_X12_263 (ok_isC (M := mUN u x M) hI.U.1 hL 18 5 (w := [125]) (by decide +kernel) (by decide +kernel) hW) ?hc_230_1 ?hk_230_1 rfl rfl (Nat.le_of_ble_eq_true rfl) ?_; (case hc_230_1 => exact hW.1); (case hk_230_1 => rfl)
    rintro _ _ ⟨rfl, rfl⟩
    refine mm_if_ne (pc := 233) (tgt := 246) dX12_readKind_233 (by decide) (fun c233 => ?_) (fun c233 => ?_)
    · have y233 := bI_n c233
      refine mm_aload_n (pc := 246) dX12_readKind_246 rfl (by first | trivial | assumption | exact mm_isr_rf _) ?_
      refine mm_callV (pc := 247) (As := []) (kd := ?kd_247_2) (fs := ?fs_247_2) dX12_readKind_247 vl_X12_284 (ok_wordC (M := mUN u x M) hI.U.1 hW) ?hc_247_2 ?hk_247_2 rfl rfl (Nat.le_of_ble_eq_true rfl) ?_; (case hc_247_2 => exact hW.1); (case hk_247_2 => rfl)
      rintro _ h247 ⟨hW, e247, rfl⟩
      refine mm_iconst (pc := 250) (v := 1) dX12_readKind_250 (by decide) ?_
      refine mm_zret (pc := 251) dX12_readKind_251 rfl (by first | rfl | decide) ?_
      refine hQ _ _ ?_
      have ee : pBs tb n k (f + 1) M t = (if cd tb n t = 5 then (1, mw_setV (pw tb n M t) 106 k (M.1 111), t + 1) else if (pBody tb n k M t).1 = 0 then pBody tb n k M t else pBs tb n k f (pBody tb n k M t).2.1 (pBody tb n k M t).2.2) := rfl
      rw [ee, if_pos y233]
      exact ⟨hW.gh (j := 106) (i := k) (x := M.1 111) rfl, e247, rfl⟩
    · have n233 := bI_d.mp c233
      refine mm_aload_n (pc := 236) dX12_readKind_236 rfl (by first | trivial | assumption | exact mm_isr_rf _) ?_
      refine mm_iload_n (pc := 237) dX12_readKind_237 rfl ?_
      refine mm_callV (pc := 238) (As := [_]) (kd := ?kd_238_3) (fs := ?fs_238_3) dX12_readKind_238 vl_X12_348 (ok_readBody (d := d) (M := mUN u x M) (k := k) hI.U hk hL hW) ?hc_238_3 ?hk_238_3 rfl rfl (Nat.le_of_ble_eq_true rfl) ?_; (case hc_238_3 => exact hW.1); (case hk_238_3 => rfl)
      rintro _ h238 ⟨hW, e238, rfl⟩
      rw [pBody_U] at hW ⊢
      refine mm_if_ne (pc := 241) (tgt := 226) dX12_readKind_241 (by decide) (fun c241 => ?_) (fun c241 => ?_)
      · have c241 : ¬ (pBody tb n k M t).1 = 0 := c241
        obtain ⟨-, ⟨g1, g2⟩, g3⟩ := (pBody_post (k := k) hI).resolve_left c241
        have q1 := (qs_lt g3).2.1
        have q2 := qs_le_of (tb := tb) (n := n) g2
        have q3 := qs_le (tb := tb) (n := n) (pBody tb n k M t).2.2
        refine mm_weakK (ih (pBody tb n k M t).2.1 (pBody tb n k M t).2.2 h238 g1 (by omega) hW Q ?_) (And.intro rfl (And.intro rfl trivial))
        rintro r h2 ⟨w1, w2, w3⟩
        refine hQ _ _ ?_
        have ee : pBs tb n k (f + 1) M t = (if cd tb n t = 5 then (1, mw_setV (pw tb n M t) 106 k (M.1 111), t + 1) else if (pBody tb n k M t).1 = 0 then pBody tb n k M t else pBs tb n k f (pBody tb n k M t).2.1 (pBody tb n k M t).2.2) := rfl
        rw [ee, if_neg n233, if_neg c241]
        exact ⟨w1, by rw [w2, e238], w3⟩
      · have c241 : (pBody tb n k M t).1 = 0 := c241
        refine mm_iconst (pc := 244) (v := 0) dX12_readKind_244 (by decide) ?_
        refine mm_zret (pc := 245) dX12_readKind_245 rfl (by first | rfl | decide) ?_
        refine hQ _ _ ?_
        have ee : pBs tb n k (f + 1) M t = (if cd tb n t = 5 then (1, mw_setV (pw tb n M t) 106 k (M.1 111), t + 1) else if (pBody tb n k M t).1 = 0 then pBody tb n k M t else pBs tb n k f (pBody tb n k M t).2.1 (pBody tb n k M t).2.2) := rfl
        rw [ee, if_neg n233, if_pos c241]
        exact ⟨hW, e238, by rw [c241]⟩

theorem rk_154 {G : mm_G} {L : Nat × Nat} {d : Nat} {hb h : mm_H} {m : Nat} {ad : Nat → Nat} {tb : Nat → Nat} {n a0 k : Nat} {u : Nat → Nat → Option Nat} {x : Option Nat} {A : Nat → Prop} {M : mw_S} {t p : Nat} {ab : Option Nat} {w : Int64} (hL : LT G m ad hb) (hk : k < 50) (hI : pI tb n a0 M t) (hW : mw_W m ad hb (mUN u x (if ab = none then rm_faulty (mw_setV M 6 k (oI ab)) 2 (M.1 27) else mw_setV M 6 k (oI ab))) h) (Q : Option Value → mm_H → Prop) (hQ : (∀ r h2, (mw_W m ad hb (mUN u x (pK5 tb n k (pT tb n (pw tb n (rm_kin M k ab w p) t) (t + 1) 4)).2.1) h2 ∧ h2.2 = h.2 ∧ r = some (.int (pK5 tb n k (pT tb n (pw tb n (rm_kin M k ab w p) t) (t + 1) 4)).1)) → Q r h2)) : mm_Run G mX12_readKind A L (d + 30) 154 [(1, .int (nI k)), (0, .ref m)] [] h Q := by
  obtain ⟨K1, hK1⟩ : ∃ K1, (if ab = none then rm_faulty (mw_setV M 6 k (oI ab)) 2 (M.1 27) else mw_setV M 6 k (oI ab)) = K1 := ⟨_, rfl⟩
  have hKs : ∀ j, ¬ j = 31 → ¬ j = 32 → K1.1 j = M.1 j := by
    intro j h1 h2
    rw [← hK1]
    by_cases c : ab = none
    · rw [if_pos c, rm_faulty_1 _ _ _ h1 h2]; rfl
    · rw [if_neg c]; rfl
  have hK35 : K1.1 35 = M.1 35 := hKs 35 (by decide) (by decide)
  rw [hK1] at hW
  have lp_ : ∀ (v i : Nat), i + v = 6 → ∀ (h1 : mm_H), mw_W m ad hb (mUN u x (rm_clr (mw_setV (mw_setV (mw_setV (mw_setV (mw_setV (mw_setW K1 103 k w) 91 k (nI p)) 105 k (M.1 111)) 116 k (M.1 13)) 5 k (M.1 34)) 7 k (M.1 19)) k i)) h1 → h1.2 = h.2 → mm_Run G mX12_readKind A L (d + 30) 176 [(2, .int (nI i)), (1, .int (nI k)), (0, .ref m)] [] h1 Q := by
    intro v
    induction v with
    | zero =>
      intro i hi h1 hW eh
      refine mm_iload_n (pc := 176) dX12_readKind_176 rfl ?_
      refine mm_bipush (pc := 177) (v := 6) dX12_readKind_177 (by decide) ?_
      refine mm_icmp_ge (pc := 179) (tgt := 200) dX12_readKind_179 (by decide) (fun c179 => ?_) (fun c179 => absurd (by rw [show i = 6 by omega]; exact Int32.le_refl _) c179)
      refine mm_aload_n (pc := 200) dX12_readKind_200 rfl (by first | trivial | assumption | exact mm_isr_rf _) ?_
      refine mm_dup (pc := 201) dX12_readKind_201 rfl ?_
      refine mw_gets (pc := 202) 35 hW dX12_readKind_202 fl_X12_339 rfl rfl ?_
      refine mm_iconst (pc := 205) (v := 1) dX12_readKind_205 (by decide) ?_
      refine mm_iadd (pc := 206) dX12_readKind_206 ?_
      refine mw_put (pc := 207) 35 hW dX12_readKind_207 (pl_X12_339 _) rfl (fun h207 hW e207 => ?_)
      obtain rfl : i = 6 := by omega
      have hW : mw_W m ad hb (mUN u x (rm_kin M k ab w p)) h207 := by
        unfold rm_kin
        rw [hK1]
        have e35 : (mUN u x (rm_clr (mw_setV (mw_setV (mw_setV (mw_setV (mw_setV (mw_setW K1 103 k w) 91 k (nI p)) 105 k (M.1 111)) 116 k (M.1 13)) 5 k (M.1 34)) 7 k (M.1 19)) k 6)).1 35 = M.1 35 := by show K1.1 35 = _; exact hK35
        rw [e35] at hW
        exact hW
      have hI4 : pI tb n a0 (rm_kin M k ab w p) t := hI.kin
      have hI5 := hI4.w
      refine mm_aload_n (pc := 210) dX12_readKind_210 rfl (by first | trivial | assumption | exact mm_isr_rf _) ?_
      refine mm_callV (pc := 211) (As := []) (kd := ?kd_211_4) (fs := ?fs_211_4) dX12_readKind_211 vl_X12_284 (ok_wordC (M := mUN u x (rm_kin M k ab w p)) hI4.U.1 hW) ?hc_211_4 ?hk_211_4 rfl rfl (Nat.le_of_ble_eq_true rfl) ?_; (case hc_211_4 => exact hW.1); (case hk_211_4 => rfl)
      rintro _ h211 ⟨hW, e211, rfl⟩
      refine mm_aload_n (pc := 214) dX12_readKind_214 rfl (by first | trivial | assumption | exact mm_isr_rf _) ?_
      refine mm_ldcSw (pc := 215) (i := 15) dX12_readKind_215 rfl ?_
      refine mm_callV (pc := 218) (As := [_]) (kd := ?kd_218_5) (fs := ?fs_218_5) dX12_readKind_218 vl_X12_302 (ok_takeC (M := mUN u x (pw tb n (rm_kin M k ab w p) t)) (t := t + 1) hI5.U.1 hI5.2.1 hL 15 4 (w := [123]) (by decide +kernel) (by decide +kernel) hW) ?hc_218_5 ?hk_218_5 rfl rfl (Nat.le_of_ble_eq_true rfl) ?_; (case hc_218_5 => exact hW.1); (case hk_218_5 => rfl)
      rintro _ h218 ⟨hW, e218, rfl⟩
      rw [pT_U] at hW ⊢
      refine mm_if_ne (pc := 221) (tgt := 226) dX12_readKind_221 (by decide) (fun c221 => ?_) (fun c221 => ?_)
      · have c221 : ¬ (pT tb n (pw tb n (rm_kin M k ab w p) t) (t + 1) 4).1 = 0 := c221
        obtain ⟨-, y4, g1, g2⟩ := (pT_post hI5 4).resolve_left (fun z => c221 z.1)
        have q1 := qs_le (tb := tb) (n := n) (pT tb n (pw tb n (rm_kin M k ab w p) t) (t + 1) 4).2.2
        refine mm_weakK (rk_bods hL hk (n + 1) (pT tb n (pw tb n (rm_kin M k ab w p) t) (t + 1) 4).2.1 (pT tb n (pw tb n (rm_kin M k ab w p) t) (t + 1) 4).2.2 h218 g1 (by omega) hW Q ?_) (And.intro rfl (And.intro rfl trivial))
        rintro r h2 ⟨w1, w2, w3⟩
        refine hQ _ _ ?_
        unfold pK5
        rw [if_neg c221]
        exact ⟨w1, by rw [w2, e218, e211, e207, eh], w3⟩
      · have c221 : (pT tb n (pw tb n (rm_kin M k ab w p) t) (t + 1) 4).1 = 0 := c221
        refine mm_iconst (pc := 224) (v := 0) dX12_readKind_224 (by decide) ?_
        refine mm_zret (pc := 225) dX12_readKind_225 rfl (by first | rfl | decide) ?_
        refine hQ _ _ ?_
        unfold pK5
        rw [if_pos c221]
        exact ⟨hW, by rw [e218, e211, e207, eh], by rw [c221]⟩
    | succ v ih =>
      intro i hi h1 hW eh
      refine mm_iload_n (pc := 176) dX12_readKind_176 rfl ?_
      refine mm_bipush (pc := 177) (v := 6) dX12_readKind_177 (by decide) ?_
      refine mm_icmp_ge (pc := 179) (tgt := 200) dX12_readKind_179 (by decide) (fun c179 => absurd c179 (nI_ge (b := 6) (by omega) (by decide))) (fun c179 => ?_)
      refine mm_aload_n (pc := 182) dX12_readKind_182 rfl (by first | trivial | assumption | exact mm_isr_rf _) ?_
      refine mw_geta (pc := 183) 8 hW dX12_readKind_183 fl_X12_32 rfl rfl ?_
      refine mm_bipush (pc := 186) (v := 6) dX12_readKind_186 (by decide) ?_
      refine mm_iload_n (pc := 188) dX12_readKind_188 rfl ?_
      refine mm_imul (pc := 189) dX12_readKind_189 ?_
      refine mm_iload_n (pc := 190) dX12_readKind_190 rfl ?_
      refine mm_iadd (pc := 191) dX12_readKind_191 ?_
      refine mm_iconst (pc := 192) (v := 0) dX12_readKind_192 (by decide) ?_
      refine mw_zast (pc := 193) 8 (6 * k + i) hW dX12_readKind_193 rfl rfl (mw_ix k i) (by show _ < 300; omega) (by omega) (by first | exact Or.inl rfl | exact Or.inr rfl | assumption) (fun h193 hW e193 => ?_)
      refine mm_iinc (pc := 194) dX12_readKind_194 rfl rfl rfl (Nat.le_of_ble_eq_true rfl) ?_
      refine mm_goto (pc := 197) (tgt := 176) dX12_readKind_197 (by decide) ?_
      have hW : mw_W m ad hb (mUN u x (rm_clr (mw_setV (mw_setV (mw_setV (mw_setV (mw_setV (mw_setW K1 103 k w) 91 k (nI p)) 105 k (M.1 111)) 116 k (M.1 13)) 5 k (M.1 34)) 7 k (M.1 19)) k (i + 1))) h193 := by rw [← rm_clr_s]; exact hW
      exact mm_weakK (ih (i + 1) (by omega) h193 hW (by rw [e193, eh])) (And.intro (by rw [← nI_1]; rfl) (And.intro rfl (And.intro rfl trivial)))
  have hW := (((hW.gW (j := 103) (i := k) (x := w) rfl).gh (j := 91) (i := k) (x := nI p) rfl).gh (j := 105) (i := k) (x := M.1 111) rfl).gh (j := 116) (i := k) (x := M.1 13) rfl
  refine mm_aload_n (pc := 154) dX12_readKind_154 rfl (by first | trivial | assumption | exact mm_isr_rf _) ?_
  refine mw_geta (pc := 155) 5 hW dX12_readKind_155 fl_X12_23 rfl rfl ?_
  refine mm_iload_n (pc := 158) dX12_readKind_158 rfl ?_
  refine mm_aload_n (pc := 159) dX12_readKind_159 rfl (by first | trivial | assumption | exact mm_isr_rf _) ?_
  refine mw_gets (pc := 160) 34 hW dX12_readKind_160 fl_X12_313 rfl rfl ?_
  refine mw_iast (pc := 163) 5 k hW dX12_readKind_163 rfl rfl (by first | with_reducible rfl | assumption | rfl) (by show _ < 50; omega) (by omega) (fun h163 hW e163 => ?_)
  refine mm_aload_n (pc := 164) dX12_readKind_164 rfl (by first | trivial | assumption | exact mm_isr_rf _) ?_
  refine mw_geta (pc := 165) 7 hW dX12_readKind_165 fl_X12_29 rfl rfl ?_
  refine mm_iload_n (pc := 168) dX12_readKind_168 rfl ?_
  refine mm_aload_n (pc := 169) dX12_readKind_169 rfl (by first | trivial | assumption | exact mm_isr_rf _) ?_
  refine mw_gets (pc := 170) 19 hW dX12_readKind_170 fl_X12_330 rfl rfl ?_
  refine mw_iast (pc := 173) 7 k hW dX12_readKind_173 rfl rfl (by first | with_reducible rfl | assumption | rfl) (by show _ < 50; omega) (by omega) (fun h173 hW e173 => ?_)
  refine mm_iconst (pc := 174) (v := 0) dX12_readKind_174 (by decide) ?_
  refine mm_istore_n (pc := 175) dX12_readKind_175 rfl (Nat.le_of_ble_eq_true rfl) ?_
  have hW : mw_W m ad hb (mUN u x (rm_clr (mw_setV (mw_setV (mw_setV (mw_setV (mw_setV (mw_setW K1 103 k w) 91 k (nI p)) 105 k (M.1 111)) 116 k (M.1 13)) 5 k (M.1 34)) 7 k (M.1 19)) k 0)) h173 := by
    rw [rm_clr_0]
    have e34 : K1.1 34 = M.1 34 := hKs 34 (by decide) (by decide)
    have e19 : K1.1 19 = M.1 19 := hKs 19 (by decide) (by decide)
    rw [← e34, ← e19]
    exact hW
  exact mm_weakK (lp_ 6 0 (by omega) h173 hW (by rw [e173, e163])) (And.intro rfl (And.intro rfl (And.intro rfl trivial)))

