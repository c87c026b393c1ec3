/-! the world at the law's entry -/
def litW (own : String) (k : Nat) (byt : List Int32) : List Cond := [Cond.exactly (.string own k) "java/lang/String", Cond.eq (.field (.string own k) "java/lang/String" "coder" "B") (.int 0), Cond.arrayOf (.field (.string own k) "java/lang/String" "value" "[B") .byte, Cond.eq (.length (.field (.string own k) "java/lang/String" "value" "[B")) (.int (Int32.ofNat byt.length))] ++ (List.range byt.length).map (fun j => Cond.eq (.elem (.field (.string own k) "java/lang/String" "value" "[B") (.int (Int32.ofNat j))) (.int (byt.getD j 0)))
def lPos : List Nat := [33, 42, 49, 59, 111, 195, 279, 288, 298, 306, 317, 325, 465, 470, 478, 488, 493, 501, 510, 515, 523, 534, 542, 551, 561, 569, 578, 586, 595, 601, 609, 616, 623, 631, 639, 647, 657, 665, 672, 677, 685, 695]
def lAt (i : Nat) : String × Nat × String := mm_lit.getD i ("", 0, "")
def lBy (i : Nat) : List Int32 := mm_litb.getD i []
set_option maxRecDepth 100000 in
theorem lit_all : ∀ i, i < 42 → ((flatC (Jvm.Cond.and given_1 narrow_1)).drop (lPos.getD i 0)).take (4 + (lBy i).length) = litW (lAt i).1 (lAt i).2.1 (lBy i) ∧ (lBy i).length < 2 ^ 31 ∧ mm_lit[i]? = some (lAt i) ∧ mm_litb[i]? = some (lBy i) := by decide +kernel
theorem lit_n : mm_lit.length = 42 ∧ mm_litb.length = 42 := by decide +kernel
section W0
variable {s : State} {args : Array Value} {l : Launch} {A : Nat → Prop}
theorem lit_in (hgv : (Jvm.Cond.and given_1 narrow_1).before args s = true) {i : Nat} (hi : i < 42) : ∀ w ∈ litW (lAt i).1 (lAt i).2.1 (lBy i), w.before args s = true := fun w hw => by
  rw [← (lit_all i hi).1] at hw
  exact flat_of_before _ hgv w (List.mem_of_mem_drop (List.mem_of_mem_take hw))
theorem lit_of {own : String} {k : Nat} {byt : List Int32} (hs : ∀ w ∈ litW own k byt, w.before args s = true) (hn : byt.length < 2 ^ 31) (hA : ∀ a : Nat, a < s.heap.size → ¬ A a) : ∃ a v : Nat, (Term.string own k).eval args s none [] s = some (.ref a) ∧ va_O "java/lang/String" a A s s.heap ∧ va_OF "java/lang/String" "coder" "B" (.int 0) a A s s.heap ∧ va_OF "java/lang/String" "value" "[B" (.ref v) a A s s.heap ∧ va_T .byte v byt.length (fun j => .int (byt.getD j 0)) A s s.heap := by
  have z0 : ∀ {i : Nat}, i < 1 → i = 0 := fun h => by omega
  obtain ⟨adK, adV, h1, h2⟩ := vk_Sof (args := args) (s := s) (N := 1) (tm := fun _ => .string own k) (len := [byt.length]) (byt := [byt]) (A := A) (fun i hi => by rw [z0 hi]; exact hn) (fun i hi => hs _ (by unfold litW; simp)) (fun i hi => hs _ (by unfold litW; simp)) (fun i hi => hs _ (by unfold litW; simp)) (fun i hi => by rw [z0 hi]; exact hs _ (by unfold litW; simp)) (fun i hi j hj => by
    rw [z0 hi] at hj ⊢
    have hj : j < byt.length := hj
    refine hs _ ?_
    unfold litW
    refine List.mem_append_right _ (List.mem_map.mpr ⟨j, List.mem_range.mpr hj, rfl⟩)) (fun i j hi hj hne => absurd ((z0 hi).trans (z0 hj).symm) hne) hA
  obtain ⟨q1, q2, q3, q4⟩ := h1.1 0 (by decide)
  exact ⟨adK 0, adV 0, h2 0 (by decide), q1, q2, q3, q4⟩

theorem k0_cls (hts : ∀ w ∈ lw_tbl, w.before args s = true) : ∃ (dC : Nat → ClassId) (dI : Nat → Nat → Nat), ∀ (c : Nat) (q : vw_C), mm_cls[c]? = some q → u_Kn s q.1 q.2.1 q.2.2 (dC c) (dI c) := by
  have htm : ∀ w ∈ mm_tbl, w.before args s = true := fun w hw => hts w (List.mem_filter.mp hw).1
  obtain ⟨c0, i0, k0⟩ := u_known (C := RX0) (T := TX0) (N := 6) (n := 6) htm mm_iX0 (hts (.instantiable RX0 6) (by decide +kernel))
  obtain ⟨c1, i1, k1⟩ := u_known (C := RX1) (T := TX1) (N := 9) (n := 9) htm mm_iX1 (hts (.instantiable RX1 9) (by decide +kernel))
  obtain ⟨c2, i2, k2⟩ := u_known (C := RX2) (T := TX2) (N := 4) (n := 4) htm mm_iX2 (hts (.instantiable RX2 4) (by decide +kernel))
  obtain ⟨c3, i3, k3⟩ := u_known (C := RX3) (T := TX3) (N := 7) (n := 7) htm mm_iX3 (hts (.instantiable RX3 7) (by decide +kernel))
  obtain ⟨c4, i4, k4⟩ := u_known (C := RX4) (T := TX4) (N := 12) (n := 12) htm mm_iX4 (hts (.instantiable RX4 12) (by decide +kernel))
  obtain ⟨c5, i5, k5⟩ := u_known (C := RX5) (T := TX5) (N := 8) (n := 8) htm mm_iX5 (hts (.instantiable RX5 8) (by decide +kernel))
  obtain ⟨c6, i6, k6⟩ := u_known (C := RX6) (T := TX6) (N := 2) (n := 2) htm mm_iX6 (hts (.instantiable RX6 2) (by decide +kernel))
  obtain ⟨c7, i7, k7⟩ := u_known (C := RX7) (T := TX7) (N := 5) (n := 5) htm mm_iX7 (hts (.instantiable RX7 5) (by decide +kernel))
  obtain ⟨c8, i8, k8⟩ := u_known (C := RX8) (T := TX8) (N := 14) (n := 14) htm mm_iX8 (hts (.instantiable RX8 14) (by decide +kernel))
  obtain ⟨c9, i9, k9⟩ := u_known (C := RX9) (T := TX9) (N := 5) (n := 5) htm mm_iX9 (hts (.instantiable RX9 5) (by decide +kernel))
  obtain ⟨c10, i10, k10⟩ := u_known (C := RX10) (T := TX10) (N := 5) (n := 5) htm mm_iX10 (hts (.instantiable RX10 5) (by decide +kernel))
  obtain ⟨c11, i11, k11⟩ := u_known (C := RX11) (T := TX11) (N := 10) (n := 10) htm mm_iX11 (hts (.instantiable RX11 10) (by decide +kernel))
  obtain ⟨c12, i12, k12⟩ := u_known (C := RX12) (T := TX12) (N := 74) (n := 74) htm mm_iX12 (hts (.instantiable RX12 74) (by decide +kernel))
  obtain ⟨c13, i13, k13⟩ := u_known (C := RJ0) (T := TJ0) (N := 4) (n := 4) htm mm_iJ0 (hts (.instantiable RJ0 4) (by decide +kernel))
  obtain ⟨c14, i14, k14⟩ := u_known (C := RJ4) (T := TJ4) (N := 4) (n := 4) htm mm_iJ4 (hts (.instantiable RJ4 4) (by decide +kernel))
  refine ⟨fun k => [c0, c1, c2, c3, c4, c5, c6, c7, c8, c9, c10, c11, c12, c13, c14].getD k c0, fun k => [i0, i1, i2, i3, i4, i5, i6, i7, i8, i9, i10, i11, i12, i13, i14].getD k i0, ?_⟩
  intro c q hq
  match c, hq with
  | 0, hq => cases hq; exact k0
  | 1, hq => cases hq; exact k1
  | 2, hq => cases hq; exact k2
  | 3, hq => cases hq; exact k3
  | 4, hq => cases hq; exact k4
  | 5, hq => cases hq; exact k5
  | 6, hq => cases hq; exact k6
  | 7, hq => cases hq; exact k7
  | 8, hq => cases hq; exact k8
  | 9, hq => cases hq; exact k9
  | 10, hq => cases hq; exact k10
  | 11, hq => cases hq; exact k11
  | 12, hq => cases hq; exact k12
  | 13, hq => cases hq; exact k13
  | 14, hq => cases hq; exact k14
  | n + 15, hq => cases hq

theorem k0_arr (hts : ∀ w ∈ lw_tbl, w.before args s = true) : ∃ dA : Nat → ClassId, ∀ (t : Nat) (ty : FieldType), mm_arr[t]? = some ty → ArrOfT s (dA t) ty ∧ va_RA s (dA t) ty := by
  have h0 : ∃ c : ClassId, ArrOfT s c (.int) ∧ va_RA s c (.int) := by
    obtain ⟨cA, kA, comp, g1, g2, g3⟩ := Cond.arrayClass_spec (hts (.arrayClass .int) (by decide +kernel))
    exact ⟨cA, fun n z => ⟨(fun k h => by cases h), kA, g2, comp, g3⟩, g1⟩
  have h1 : ∃ c : ClassId, ArrOfT s c (.byte) ∧ va_RA s c (.byte) := by
    obtain ⟨cA, kA, comp, g1, g2, g3⟩ := Cond.arrayClass_spec (hts (.arrayClass .byte) (by decide +kernel))
    exact ⟨cA, fun n z => ⟨(fun k h => by cases h), kA, g2, comp, g3⟩, g1⟩
  have h2 : ∃ c : ClassId, ArrOfT s c (.boolean) ∧ va_RA s c (.boolean) := by
    obtain ⟨cA, kA, comp, g1, g2, g3⟩ := Cond.arrayClass_spec (hts (.arrayClass .boolean) (by decide +kernel))
    exact ⟨cA, fun n z => ⟨(fun k h => by cases h), kA, g2, comp, g3⟩, g1⟩
  have h3 : ∃ c : ClassId, ArrOfT s c (.long) ∧ va_RA s c (.long) := by
    obtain ⟨cA, kA, comp, g1, g2, g3⟩ := Cond.arrayClass_spec (hts (.arrayClass .long) (by decide +kernel))
    exact ⟨cA, fun n z => ⟨(fun k h => by cases h), kA, g2, comp, g3⟩, g1⟩
  have h4 : ∃ c : ClassId, ArrOfT s c (.object "StillHouse$Kind") ∧ va_RA s c (.object "StillHouse$Kind") := by
    obtain ⟨comp, cA, kA, g1, g2, g3, g4, g5⟩ := Cond.arrayOver_spec (hts (.arrayOver (.object "StillHouse$Kind")) (by decide +kernel))
    exact ⟨cA, fun n z => ⟨(fun k h => by cases h), kA, g3, comp, g4⟩, kA, comp, g3, g4, g1, g5⟩
  have h5 : ∃ c : ClassId, ArrOfT s c (.object "StillHouse$Pack") ∧ va_RA s c (.object "StillHouse$Pack") := by
    obtain ⟨comp, cA, kA, g1, g2, g3, g4, g5⟩ := Cond.arrayOver_spec (hts (.arrayOver (.object "StillHouse$Pack")) (by decide +kernel))
    exact ⟨cA, fun n z => ⟨(fun k h => by cases h), kA, g3, comp, g4⟩, kA, comp, g3, g4, g1, g5⟩
  have h6 : ∃ c : ClassId, ArrOfT s c (.object "StillHouse$Body") ∧ va_RA s c (.object "StillHouse$Body") := by
    obtain ⟨comp, cA, kA, g1, g2, g3, g4, g5⟩ := Cond.arrayOver_spec (hts (.arrayOver (.object "StillHouse$Body")) (by decide +kernel))
    exact ⟨cA, fun n z => ⟨(fun k h => by cases h), kA, g3, comp, g4⟩, kA, comp, g3, g4, g1, g5⟩
  have h7 : ∃ c : ClassId, ArrOfT s c (.object "StillHouse$Vessel") ∧ va_RA s c (.object "StillHouse$Vessel") := by
    obtain ⟨comp, cA, kA, g1, g2, g3, g4, g5⟩ := Cond.arrayOver_spec (hts (.arrayOver (.object "StillHouse$Vessel")) (by decide +kernel))
    exact ⟨cA, fun n z => ⟨(fun k h => by cases h), kA, g3, comp, g4⟩, kA, comp, g3, g4, g1, g5⟩
  have h8 : ∃ c : ClassId, ArrOfT s c (.object "StillHouse$Entry") ∧ va_RA s c (.object "StillHouse$Entry") := by
    obtain ⟨comp, cA, kA, g1, g2, g3, g4, g5⟩ := Cond.arrayOver_spec (hts (.arrayOver (.object "StillHouse$Entry")) (by decide +kernel))
    exact ⟨cA, fun n z => ⟨(fun k h => by cases h), kA, g3, comp, g4⟩, kA, comp, g3, g4, g1, g5⟩
  have h9 : ∃ c : ClassId, ArrOfT s c (.object "java/lang/String") ∧ va_RA s c (.object "java/lang/String") := by
    obtain ⟨comp, cA, kA, g1, g2, g3, g4, g5⟩ := Cond.arrayOver_spec (hts (.arrayOver (.object "java/lang/String")) (by decide +kernel))
    exact ⟨cA, fun n z => ⟨(fun k h => by cases h), kA, g3, comp, g4⟩, kA, comp, g3, g4, g1, g5⟩
  obtain ⟨a0, b0⟩ := h0
  obtain ⟨a1, b1⟩ := h1
  obtain ⟨a2, b2⟩ := h2
  obtain ⟨a3, b3⟩ := h3
  obtain ⟨a4, b4⟩ := h4
  obtain ⟨a5, b5⟩ := h5
  obtain ⟨a6, b6⟩ := h6
  obtain ⟨a7, b7⟩ := h7
  obtain ⟨a8, b8⟩ := h8
  obtain ⟨a9, b9⟩ := h9
  refine ⟨fun k => [a0, a1, a2, a3, a4, a5, a6, a7, a8, a9].getD k a0, ?_⟩
  intro c q hq
  match c, hq with
  | 0, hq => cases hq; exact b0
  | 1, hq => cases hq; exact b1
  | 2, hq => cases hq; exact b2
  | 3, hq => cases hq; exact b3
  | 4, hq => cases hq; exact b4
  | 5, hq => cases hq; exact b5
  | 6, hq => cases hq; exact b6
  | 7, hq => cases hq; exact b7
  | 8, hq => cases hq; exact b8
  | 9, hq => cases hq; exact b9
  | n + 10, hq => cases hq
end W0

