/-! what holds at the head of the law's loop, behind k calls -/
def INV (G : mm_G) (m : Nat) (am : Nat → Nat) (b : Nat) (scr : List Value) (xa : Nat) (B : Nat × Nat) (k : Nat) (h : mm_H) : Prop := ∃ M ab nk np, MID G m am b scr xa M nk np M ab nk np h ∧ PX M ab nk np k ∧ ∃ n, M.1 1 = nI n ∧ n ≤ 800 ∧ h.2.1 + 2 * n ≤ B.1 + 330 * k ∧ h.2.2 + 14 * n ≤ B.2 + 2460 * k
/-- what a method's value is by its type -/
def rtV : Option FieldType → Value → Prop
  | some .long, v => ∃ x, v = .long x
  | _, v => ∃ x, v = .int x
/-- both calls of a case -/
def TWO (G : mm_G) (m : Nat) (am : Nat → Nat) (b : Nat) (scr : List Value) (xa : Nat) (B : Nat × Nat) (k : Nat) (L : Nat × Nat) (yC yR : mm_M) (args : List Value) (h : mm_H) : Prop := mm_Ok G yC L 1210 (.ref xa :: args) h (fun r h1 => ∃ v, r = some v ∧ rtV yC.2.2.2 v ∧ (h1.1 b = some (300, scr) ∧ ∃ fs, h1.1 m = some (12, fs)) ∧ mm_Ok G yR L 1210 (.ref m :: args) h1 (fun r' h2 => r' = some v ∧ INV G m am b scr xa B (k + 1) h2))
section TW
variable {G : mm_G} {yC yR : mm_M} {L B : Nat × Nat} {args : List Value} {m b xa nk np k n : Nat} {am : Nat → Nat} {scr : List Value} {ad ad1 : Nat → Nat → Nat} {C C1 : cw_C} {M M' M'' : mw_S} {ab ab' : Nat → Option Nat} {h h0 h1 h2 hb : mm_H} {v : Value} {na ne nb nt : Nat} {H : hS}
theorem aft.le {n1 n2 n1' n2' : Nat} {r : Option Value} (z : aft ad h n1 n2 ab nk np v M r h1) (l1 : n1 ≤ n1') (l2 : n2 ≤ n2') : aft ad h n1' n2' ab nk np v M r h1 := by
  obtain ⟨a, hb, ad1, C1, na, ne, nb, nt, H, c, d, e, f, g⟩ := z
  exact ⟨a, hb, ad1, C1, na, ne, nb, nt, H, c, d, e, by omega, by omega⟩
theorem RV.next (hRV : RV G m am b scr M nk np h) (hW : mw_W m am h M' h1) (hU : M'.2.2.2.2 = M.2.2.2.2) (hw : ∀ j, 100 ≤ j → M'.2.2.2.1 j = M.2.2.2.1 j) : RV G m am b scr M' nk np h1 := by
  obtain ⟨-, n4, n20, hL, hb, ho⟩ := hRV
  refine ⟨hW.re, (n4.keep hW).same (fun i _ => by rw [hU]) (fun i _ => by rw [hw 100 (by decide)]), (n20.keep hW).same (fun i _ => by rw [hU]) (fun i _ => by rw [hw 101 (by decide)]), hL.re hW, ?_, ho.1, ho.2.1, ?_⟩
  · rw [← hb]; exact hW.2.2.2.2.1 b ho.1 ho.2.1 ho.2.2
  · have := hW.2.2.2.2.2.1; have := ho.2.2; omega
theorem hdr_in {S : Nat → Bool} {a : Nat} {c : mm_C} (z : (hdr S h).1 a = some c) : h.1 a = some c := by
  have z : (bif S a then none else h.1 a) = some c := z
  cases e : S a with
  | true => rw [e] at z; cases z
  | false => rw [e] at z; exact z
theorem MID.sc {nk' np' : Nat} (hM : MID G m am b scr xa M nk np M' ab' nk' np' h) : h.1 b = some (300, scr) ∧ ∃ fs, h.1 m = some (12, fs) := by
  obtain ⟨ad1, C1, na1, ne1, nb1, nt1, H1, hC1, hx1, hRs1, hRV1⟩ := hM
  exact ⟨hdr_in hRV1.2.2.2.2.1, _, hdr_in hRV1.1.1⟩
theorem INV.sc (I : INV G m am b scr xa B k h) : h.1 b = some (300, scr) ∧ (∃ fs, h.1 xa = some (11, fs)) := by
  obtain ⟨M, ab, nk, np, hM, -⟩ := I
  refine ⟨hM.sc.1, ?_⟩
  obtain ⟨ad1, C1, na1, ne1, nb1, nt1, H1, hC1, hx1, hRs1, hRV1⟩ := hM
  exact ⟨_, by rw [← hx1]; exact cw_cell (f := 11) hC1 rfl rfl hRs1.o.1.1⟩
theorem two_s (hM : MID G m am b scr xa M nk np M ab nk np h) (hn : M.1 1 = nI n) (hb1 : h.2.1 + 2 * n ≤ B.1 + 330 * k) (hb2 : h.2.2 + 14 * n ≤ B.2 + 2460 * k) (hL1 : B.1 + 330 * k + 400 ≤ L.1) (hL2 : B.2 + 2460 * k + 3000 ≤ L.2)
    (hc : ∀ ad C na ne nb nt H h', rsR ad C M ab nk np na ne nb nt H → cw ad h' C h' → h'.2.1 + 1 ≤ L.1 → h'.2.2 + 7 ≤ L.2 → mm_Ok G yC L 1210 (.ref (ad 11 0) :: args) h' (aft ad h' 1 7 ab nk np v M'))
    (hr : ∀ h', mw_W m am h' M h' → mm_Ok G yR L 1210 (.ref m :: args) h' (fun r h1 => (∃ g, mw_W m am h' (mw_r25 M' g) h1) ∧ h1.2 = h'.2 ∧ r = some v))
    (hP : PX M' ab nk np (k + 1)) (hU : M'.2.2.2.2 = M.2.2.2.2) (hw : ∀ j, 100 ≤ j → M'.2.2.2.1 j = M.2.2.2.1 j) {n' : Nat} (hn' : M'.1 1 = nI n') (hn8 : n' ≤ n + 8) (hn800 : n' ≤ 800) (hv : rtV yC.2.2.2 v := by first | (show ∃ x, _ = Value.int x; exact ⟨_, rfl⟩) | (show ∃ x, _ = Value.long x; exact ⟨_, rfl⟩)) : TWO G m am b scr xa B k L yC yR args h := by
  obtain ⟨ad, C, na, ne, nb, nt, H, hC, rfl, hRs, hRV⟩ := hM
  refine step_c (n1 := 1) (n2 := 7) hC rfl hRV (mm_Ok.post (hc ad C na ne nb nt H _ hRs (cw_view hC) (by show h.2.1 + 1 ≤ L.1; omega) (by show h.2.2 + 7 ≤ L.2; omega)) (fun r h1 z => ⟨v, M', ab, nk, np, z, fun hh _ hM b1 b2 => ⟨v, rfl, hv, hM.sc, ?_⟩⟩))
  obtain ⟨ad1, C1, na1, ne1, nb1, nt1, H1, hC1, hx1, hRs1, hRV1⟩ := hM
  refine step_r hC1 hRV1 (mm_Ok.post (hr _ hRV1.1) (fun r h2 z => ?_))
  obtain ⟨⟨g, hW⟩, e2, rfl⟩ := z
  refine ⟨_, hW, fun h3 eh hC3 hd => ⟨rfl, mw_r25 M' g, ab, nk, np, ⟨ad1, C1, na1, ne1, nb1, nt1, H1, hC3, hx1, ?_, ?_⟩, hP.r25, n', hn', hn800, ?_, ?_⟩⟩
  · exact (rsR_U (u := M'.2.2.2.2) (y := M'.2.1) (g := g)).mp hRs1
  · rw [hd]; exact hRV1.next hW hU hw
  · rw [eh, e2]; show hh.2.1 + _ ≤ _; omega
  · rw [eh, e2]; show hh.2.2 + _ ≤ _; omega
end TW
