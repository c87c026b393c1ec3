/-! an act does not look at the row of marks -/
theorem if_c {α : Type} {c : Prop} [Decidable c] {a b a' b' : α} (h1 : a = a') (h2 : b = b') : (if c then a else b) = if c then a' else b' := by rw [h1, h2]
theorem r25_setV (M : mw_S) (g : Nat → Int32) {j : Nat} (k : Nat) (x : Int32) (hj : ¬ j = 25) : mw_setV (mw_r25 M g) j k x = mw_r25 (mw_setV M j k x) g := by
  unfold mw_r25 mw_setV
  refine Prod.ext rfl (Prod.ext rfl (Prod.ext ?_ rfl))
  funext i l
  show mw_u2 (fun j i => if j = 25 then g i else M.2.2.1 j i) j k x i l = (if i = 25 then g l else mw_u2 M.2.2.1 j k x i l)
  unfold mw_u2
  by_cases e : i = 25
  · subst e
    rw [if_neg (fun z => hj z.1.symm), if_pos rfl]
    rfl
  · rw [if_neg e]
    show (if i = j ∧ l = k then x else (if i = 25 then g l else M.2.2.1 i l)) = _
    rw [if_neg e]
theorem r25_setS (M : mw_S) (g : Nat → Int32) (j : Nat) (x : Int32) : mw_setS (mw_r25 M g) j x = mw_r25 (mw_setS M j x) g := rfl
theorem r25_setW (M : mw_S) (g : Nat → Int32) (j k : Nat) (x : Int64) : mw_setW (mw_r25 M g) j k x = mw_r25 (mw_setW M j k x) g := rfl
def rp (r : Int32 × mw_S) (g : Nat → Int32) : Int32 × mw_S := (r.1, mw_r25 r.2 g)
def rn_C (F : rn_F) : Prop := ∀ (M : mw_S) (g : Nat → Int32) (x : Int32) (k q : Nat), F (mw_r25 M g) x k q = rp (F M x k q) g
theorem rp_if (c : Prop) [Decidable c] (a b : Int32 × mw_S) (g : Nat → Int32) : rp (if c then a else b) g = if c then rp a g else rp b g := by split <;> rfl
theorem rm_ent_r25 (M : mw_S) (g : Nat → Int32) (k q : Nat) : rm_ent (mw_r25 M g) k q = mw_r25 (rm_ent M k q) g := by
  unfold rm_ent
  rw [show (mw_r25 M g).1 = M.1 from rfl, r25_setV _ _ _ _ (by decide), r25_setV _ _ _ _ (by decide), r25_setV _ _ _ _ (by decide), r25_setS, r25_setS]
theorem rnB_r25 {F : rn_F} (hF : rn_C F) (M : mw_S) (g : Nat → Int32) (k q : Nat) : rnB F (mw_r25 M g) k q = rp (rnB F M k q) g := by
  unfold rnB
  rw [rp_if, rm_ent_r25, hF, show (mw_r25 M g).2.2.1 11 (6 * k + q) = M.2.2.1 11 (6 * k + q) from rfl]
  rfl
theorem rnU_r25 {F : rn_F} (hF : rn_C F) (M : mw_S) (g : Nat → Int32) (o : Option Nat) (q : Nat) : rnU F (mw_r25 M g) o q = rp (rnU F M o q) g := by
  cases o with
  | none => rfl
  | some j => exact rnB_r25 hF M g j q
theorem rnM_r25 (M : mw_S) (g : Nat → Int32) (w x : Int32) : rnM (mw_r25 M g) w x = rp (rnM M w x) g := by
  unfold rnM
  rw [rp_if, rp_if, rp_if, rp_if, rp_if, show rn_app (mw_r25 M g) = rn_app M from rfl, r25_setV _ _ _ _ (by decide), r25_setV _ _ _ _ (by decide), r25_setV _ _ _ _ (by decide)]
  rfl
theorem rnS_r25 {ab : Nat → Option Nat} {F : rn_F} (hF : rn_C F) (M : mw_S) (g : Nat → Int32) (x k q : Nat) : rnS ab F (mw_r25 M g) x k q = rp (rnS ab F M x k q) g := by
  unfold rnS rnT
  rw [rp_if, rp_if, rp_if, rp_if, rp_if, rp_if, rp_if, rp_if, rp_if, rp_if, rp_if, rnU_r25 hF, rnU_r25 hF, rnM_r25, rnM_r25, rnM_r25, hF, hF, r25_setV _ _ _ _ (by decide)]
  refine if_c rfl (if_c rfl (if_c rfl (if_c rfl (if_c rfl (if_c rfl (if_c rfl (if_c rfl (if_c rfl ?_))))))))
  refine if_c ?_ rfl
  exact hF _ g _ k q
theorem rnN_r25 {F : rn_F} (hF : rn_C F) (r : Int32 × mw_S) (g : Nat → Int32) (x k q : Nat) : rnN F (rp r g) x k q = rp (rnN F r x k q) g := by
  unfold rnN
  rw [rp_if]
  refine if_c ?_ rfl
  exact hF _ g _ k q
theorem rnA_r25 (ab : Nat → Option Nat) : ∀ n, rn_C (rnA ab n) := by
  intro n
  induction n with
  | zero =>
    intro M g x k q
    show (if x < 0 then ((0 : Int32), mw_r25 M g) else (3, mw_r25 M g)) = rp (if x < 0 then (0, M) else (3, M)) g
    rw [rp_if]
    rfl
  | succ n ih =>
    intro M g x k q
    show (if x < 0 then ((0 : Int32), mw_r25 M g) else if M.1 67 = 400 then (3, mw_r25 M g) else rnN (rnA ab n) (rnS ab (rnA ab n) (mw_setS (mw_r25 M g) 67 (M.1 67 + 1)) x.toNatClampNeg k q) x.toNatClampNeg k q) = rp (if x < 0 then (0, M) else if M.1 67 = 400 then (3, M) else rnN (rnA ab n) (rnS ab (rnA ab n) (mw_setS M 67 (M.1 67 + 1)) x.toNatClampNeg k q) x.toNatClampNeg k q) g
    rw [rp_if, rp_if, r25_setS, rnS_r25 ih, rnN_r25 ih]
    rfl
