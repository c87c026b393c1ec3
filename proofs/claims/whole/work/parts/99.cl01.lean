/-! a record more: entries and history -/
/-- what the reference's memory is behind a record -/
def enM (M M' : mw_S) (na ne a b : Nat) (what n wi wo hi : Int32) : Prop := M'.1 54 = nI (ne + 1) ∧ (M'.2.2.1 55 ne = what ∧ M'.2.2.1 56 ne = nI a ∧ M'.2.2.1 57 ne = n ∧ M'.2.2.1 58 ne = nI b) ∧ (∀ e, e < ne → M'.2.2.1 55 e = M.2.2.1 55 e ∧ M'.2.2.1 56 e = M.2.2.1 56 e ∧ M'.2.2.1 57 e = M.2.2.1 57 e ∧ M'.2.2.1 58 e = M.2.2.1 58 e) ∧ (M'.2.2.1 59 (4 * ne) = M.2.2.1 51 a ∧ M'.2.2.1 59 (4 * ne + 1) = M.2.2.1 52 a ∧ M'.2.2.1 59 (4 * ne + 2) = M.2.2.1 51 b ∧ M'.2.2.1 59 (4 * ne + 3) = M.2.2.1 52 b) ∧ (∀ i, i < 4 * ne → M'.2.2.1 59 i = M.2.2.1 59 i) ∧ (∀ c, c < 5 → M'.2.2.2.1 60 (5 * ne + c) = M.2.2.2.1 53 c ∧ M'.2.2.2.1 53 c = M.2.2.2.1 53 c + ctr what wi wo hi c) ∧ (∀ i, i < 5 * ne → M'.2.2.2.1 60 i = M.2.2.2.1 60 i) ∧ (M'.2.2.1 51 a = M.2.2.1 51 a + (wi - wo) ∧ M'.2.2.1 52 a = M.2.2.1 52 a + hi) ∧ (¬ a = b → M'.2.2.1 51 b = M.2.2.1 51 b - (wi - wo) ∧ M'.2.2.1 52 b = M.2.2.1 52 b - hi) ∧ ∀ i, i < na → ¬ i = a → ¬ i = b → M'.2.2.1 51 i = M.2.2.1 51 i ∧ M'.2.2.1 52 i = M.2.2.1 52 i
def etH (M' : mw_S) (H : hS) (ne : Nat) : hS := (fun e i => if e = ne + 1 then M'.2.2.1 51 i else H.1 e i, fun e i => if e = ne + 1 then M'.2.2.1 52 i else H.2.1 e i, fun e c => if e = ne + 1 then M'.2.2.2.1 53 c else H.2.2 e c)
section ET
variable {ad : Nat → Nat → Nat} {C : cw_C} {M M' : mw_S} {x i j na ne a b : Nat} {I : Nat → Int32} {Rr : Nat → Option Nat} {H : hS}
theorem et_3 : etC ad C ne I Rr x 3 = cw_row (cw_new C 3) 3 ne I (fun _ => 0) Rr 3 := (cw_sI_o (by decide)).trans (cw_sR_o (by decide))
theorem et_N (h : ¬ i = 3) : cN (etC ad C ne I Rr x) i = cN C i := by
  unfold etC
  rw [cw_sI_N, cw_sR_N, cw_row_N]
  exact cN_ext_o h
theorem et_N3 : cN (etC ad C ne I Rr x) 3 = cN C 3 + 1 := by
  unfold etC
  rw [cw_sI_N, cw_sR_N, cw_row_N]
  exact cN_ext
theorem et_In : cI (etC ad C ne I Rr x) 3 ne j = I j := by
  rw [cI_o et_3]; unfold cI; rw [cw_row_f]; exact congrFun cu_eq j
theorem et_Rn : cR (etC ad C ne I Rr x) 3 ne j = Rr j := by
  rw [cR_o et_3]; unfold cR; rw [cw_row_f]; exact congrFun cu_eq j
theorem et_Ii (h3 : cN C 3 = ne) (h : i < ne) : cI (etC ad C ne I Rr x) 3 i j = cI C 3 i j := by
  rw [cI_o et_3]
  have e : cI (cw_new C 3) 3 i j = cI C 3 i j := cI_ext_o (by omega)
  rw [← e]
  unfold cI; rw [cw_row_f]; exact congrFun (cu_ne (by omega)) j
theorem et_Ri (h3 : cN C 3 = ne) (h : i < ne) : cR (etC ad C ne I Rr x) 3 i j = cR C 3 i j := by
  rw [cR_o et_3]
  have e : cR (cw_new C 3) 3 i j = cR C 3 i j := cR_ext_o (by omega)
  rw [← e]
  unfold cR; rw [cw_row_f]; exact congrFun (cu_ne (by omega)) j
theorem et_17 : cR (etC ad C ne I Rr x) 17 0 ne = some (cw_ad ad C 3 x 3 ne) := by
  unfold etC
  rw [cR_o (cw_sI_o (by decide)), cR_sR_e]
theorem et_17i (h : ¬ i = ne) : cR (etC ad C ne I Rr x) 17 0 i = cR C 17 0 i := by
  unfold etC
  rw [cR_o (cw_sI_o (by decide)), cR_sR_n (fun z => h z.2.2), cR_o (cw_row_o (by decide))]
  exact cR_o (cw_ext_o (by decide))
theorem et_11R : cR (etC ad C ne I Rr x) 11 0 j = cR C 11 0 j := by
  unfold etC
  have e : cR (cw_sR (cw_row (cw_new C 3) 3 ne I (fun _ => 0) Rr) 17 0 ne (some (cw_ad ad C 3 x 3 ne))) 11 0 j = cR C 11 0 j := (cR_o (cw_sR_o (by decide))).trans ((cR_o (cw_row_o (by decide))).trans (cR_o (cw_ext_o (by decide))))
  rw [← e]
  unfold cR
  rw [cw_sI_f]
theorem et_e (he : enR ad C M na ne) (h3 : cN C 3 = ne) (hn : ne < 512) (ha : a < na) {b : Nat} {wi wo hi : Int32} (hM : enM M M' na ne a b (I 0) (I 3) wi wo hi) (hr : Rr 1 = some (ad 9 a)) : enR (cw_ad ad C 3 x) (etC ad C ne I Rr x) M' na (ne + 1) := by
  obtain ⟨⟨n17, n3⟩, hn512, z7, z8, s54, hN⟩ := he
  obtain ⟨m54, ⟨m55, m56, m57, m58⟩, mo, -⟩ := hM
  have ao : ∀ f, ¬ f = 3 → ∀ i, cw_ad ad C 3 x f i = ad f i := fun f hf i => cu2_ne (fun z => hf z.1)
  refine ⟨⟨by rw [et_N (by decide)]; exact n17, by rw [et_N3]; omega⟩, by omega, by rw [et_11R, ao 17 (by decide)]; exact z7, by unfold etC; exact cI_sI_e, m54, fun i hi => ?_⟩
  by_cases e : i = ne
  · subst e
    exact ⟨et_17, by rw [et_In, m55], ⟨a, ha, m56, by rw [et_Rn, ao 9 (by decide)]; exact hr⟩, by rw [et_In, m57]⟩
  · have hi : i < ne := by omega
    obtain ⟨p0, p1, ⟨v, hv, p2, p3⟩, p4⟩ := hN i hi
    obtain ⟨q1, q2, q3, -⟩ := mo i hi
    rw [et_17i e, et_Ii h3 hi, et_Ii h3 hi, et_Ri h3 hi, q1, q2, q3, show cw_ad ad C 3 x 3 i = ad 3 i from cw_ad_o (by omega)]
    exact ⟨p0, p1, ⟨v, hv, p2, by rw [ao 9 (by decide)]; exact p3⟩, p4⟩
theorem et_d (hd : enD ad C M na ne H.1 H.2.1 H.2.2) (h3 : cN C 3 = ne) (ha : a < na) (hb : b < na) (hM : enM M M' na ne a b (I 0) (I 3) (I 4) (I 5) (I 6)) (hr : Rr 2 = if a = b then none else some (ad 9 b)) : enD (cw_ad ad C 3 x) (etC ad C ne I Rr x) M' na (ne + 1) (etH M' H ne).1 (etH M' H ne).2.1 (etH M' H ne).2.2 := by
  obtain ⟨d1, d2, d3⟩ := hd
  obtain ⟨m54, ⟨m55, m56, m57, m58⟩, mo, ⟨k0, k1, k2, k3⟩, ko, ks, kp, ma, mb, mi⟩ := hM
  have ao : ∀ f, ¬ f = 3 → ∀ i, cw_ad ad C 3 x f i = ad f i := fun f hf i => cu2_ne (fun z => hf z.1)
  have w1 : ∀ i, (etH M' H ne).1 (ne + 1) i = M'.2.2.1 51 i := fun i => if_pos rfl
  have t1 : ∀ i, (etH M' H ne).2.1 (ne + 1) i = M'.2.2.1 52 i := fun i => if_pos rfl
  have u1 : ∀ i, (etH M' H ne).2.2 (ne + 1) i = M'.2.2.2.1 53 i := fun i => if_pos rfl
  have w0 : ∀ e i, e ≤ ne → (etH M' H ne).1 e i = H.1 e i := fun e i he => if_neg (by omega)
  have t0 : ∀ e i, e ≤ ne → (etH M' H ne).2.1 e i = H.2.1 e i := fun e i he => if_neg (by omega)
  have u0 : ∀ e i, e ≤ ne → (etH M' H ne).2.2 e i = H.2.2 e i := fun e i he => if_neg (by omega)
  refine ⟨fun i hi => ⟨w1 i, t1 i⟩, fun c hc => ⟨by rw [u0 0 c (Nat.zero_le _)]; exact (d2 c hc).1, u1 c⟩, fun e he => ?_⟩
  by_cases y : e = ne
  · subst y
    refine ⟨a, b, ha, hb, m56, m58, ?_, ?_, ?_, ?_, ?_, ?_⟩
    · rw [w0 _ _ (Nat.le_refl _), w0 _ _ (Nat.le_refl _), t0 _ _ (Nat.le_refl _), t0 _ _ (Nat.le_refl _), (d1 a ha).1, (d1 a ha).2, (d1 b hb).1, (d1 b hb).2]
      exact ⟨k0, k1, k2, k3⟩
    · rw [et_Rn, ao 9 (by decide)]; exact hr
    · rw [w1, t1, w0 _ _ (Nat.le_refl _), t0 _ _ (Nat.le_refl _), (d1 a ha).1, (d1 a ha).2, et_In, et_In, et_In]
      exact ma
    · rw [w1, t1, w0 _ _ (Nat.le_refl _), t0 _ _ (Nat.le_refl _), (d1 b hb).1, (d1 b hb).2, et_In, et_In, et_In]
      exact mb
    · intro i hi ia ib
      rw [w1, t1, w0 _ _ (Nat.le_refl _), t0 _ _ (Nat.le_refl _), (d1 i hi).1, (d1 i hi).2]
      exact mi i hi ia ib
    · intro c hc
      rw [u1, u0 _ _ (Nat.le_refl _), (d2 c hc).2, et_In, et_In, et_In, et_In]
      exact ks c hc
  · have he : e < ne := by omega
    obtain ⟨a', b', ha', hb', e1, e2, ⟨e3, e4, e5, e6⟩, e7, e8, e9, e10, e11⟩ := d3 e he
    obtain ⟨q1, q2, q3, q4⟩ := mo e he
    refine ⟨a', b', ha', hb', q2.trans e1, q4.trans e2, ?_, ?_, ?_, ?_, ?_, ?_⟩
    · rw [ko _ (by omega), ko _ (by omega), ko _ (by omega), ko _ (by omega), w0 _ _ (by omega), w0 _ _ (by omega), t0 _ _ (by omega), t0 _ _ (by omega)]
      exact ⟨e3, e4, e5, e6⟩
    · rw [et_Ri h3 he, ao 9 (by decide)]; exact e7
    · rw [w0 _ _ (by omega), w0 _ _ (by omega), t0 _ _ (by omega), t0 _ _ (by omega), et_Ii h3 he, et_Ii h3 he, et_Ii h3 he]
      exact e8
    · rw [w0 _ _ (by omega), w0 _ _ (by omega), t0 _ _ (by omega), t0 _ _ (by omega), et_Ii h3 he, et_Ii h3 he, et_Ii h3 he]
      exact e9
    · intro i hi ia ib
      rw [w0 _ _ (by omega), w0 _ _ (by omega), t0 _ _ (by omega), t0 _ _ (by omega)]
      exact e10 i hi ia ib
    · intro c hc
      rw [kp _ (by omega), u0 _ _ (by omega), u0 _ _ (by omega), et_Ii h3 he, et_Ii h3 he, et_Ii h3 he, et_Ii h3 he]
      exact e11 c hc
end ET
