/-! the reference's constructor -/
theorem ip_rep {α : Type} (n : Nat) (x : α) : (List.range n).map (fun _ => x) = List.replicate n x := by
  rw [List.map_const', List.length_range]
theorem ip_at {m b J : Nat} {h0 h : mm_H} (g : ip_W m b h0 J h) {x s_ : Nat} (hx : ip_n J = x) (hs : ip_s J = s_) : h.2.1 = b + x ∧ h.2.2 = h0.2.2 + s_ := by
  rw [← hx, ← hs]
  exact ⟨g.2.2.2.1, g.2.2.2.2.1⟩
theorem ip_put {G : mm_G} {y : mm_M} {A : Nat → Prop} {L : Nat × Nat} {d pc : Nat} {lv : List (Nat × Value)} {st : List Value} {Q : Option Value → mm_H → Prop} {h h0 : mm_H} {m b J idx : Nat} {c : mm_C} {ty : FieldType} (g : ip_W m b h0 J h) (hd : decode y.2.1 pc = .ok (.putfield idx, 3)) (hl0 : mm_pl y.1.cls y.1.name idx 12 J ty) (hk : Nat.ble 100 (mw_k J) = true) (hl : (mw_c ip_M J).length = mw_n J) (hv : .ref (b + ip_n J) = mw_f (fun i => b + ip_n i) ip_M J) (hc : c = (mw_k J, mw_c ip_M J)) (hn : ∀ a, narrow ty (.ref a) = .ref a) (hf : ∀ a, fits ty (.ref a) = true)
    (kk : ∀ h', ip_W m b h0 (J + 1) h' → mm_Run G y A L d (pc + 3) lv st h' Q) : mm_Run G y A L d pc lv (.ref h.2.1 :: .ref m :: st) (mm_push h c) Q := by
  subst hc
  refine mm_put hd hl0 (kd := 12) (fs := (List.range 74).map (ip_f b J)) ?_ rfl (hn _) (hf _) (kk _ (ip_arr g hk hl hv))
  refine Eq.trans (if_neg ?_) g.1
  have := g.2.2.2.1
  have := g.2.2.2.2.2.1
  omega
theorem ip_putS {G : mm_G} {y : mm_M} {A : Nat → Prop} {L : Nat × Nat} {d pc : Nat} {lv : List (Nat × Value)} {st : List Value} {Q : Option Value → mm_H → Prop} {h h0 : mm_H} {m b J idx : Nat} {v : Value} {ty : FieldType} (g : ip_W m b h0 J h) (hd : decode y.2.1 pc = .ok (.putfield idx, 3)) (hl0 : mm_pl y.1.cls y.1.name idx 12 J ty) (hk : Nat.ble 100 (mw_k J) = false) (hv : v = mw_f (fun i => b + ip_n i) ip_M J) (hn : narrow ty v = v) (hf : fits ty v = true)
    (kk : ∀ h', ip_W m b h0 (J + 1) h' → mm_Run G y A L d (pc + 3) lv st h' Q) : mm_Run G y A L d pc lv (v :: .ref m :: st) h Q :=
  mm_put hd hl0 g.1 rfl hn hf (kk _ (ip_sc g hk hv))

theorem in_arrays {G : mm_G} {A : Nat → Prop} {L : Nat × Nat} {d : Nat} {Q : Option Value → mm_H → Prop} {h h0 : mm_H} {m b : Nat} (g_ : ip_W m b h0 0 h) (hL1 : b + 44 ≤ L.1) (hL2 : h0.2.2 + 38086 ≤ L.2) (kk : ∀ h1 : mm_H, ip_W m b h0 74 h1 → mm_Run G mX12_init A L d 395 [(0, .ref m)] [] h1 Q) : mm_Run G mX12_init A L d 4 [(0, .ref m)] [] h Q := by
  refine mm_aload_n (pc := 4) dX12_init_4 rfl trivial ?_
  refine mm_sipush (pc := 5) (v := 800) dX12_init_5 (by decide) ?_
  refine mm_newa_byte (pc := 8) (N := 800) dX12_init_8 mm_ac_byte (by decide) (by decide) (by decide) (by have := (ip_at g_ (x := 0) (s_ := 0) (by decide +kernel) (by decide +kernel)); omega) (by have := (ip_at g_ (x := 0) (s_ := 0) (by decide +kernel) (by decide +kernel)); omega) ?_
  refine ip_put (J := 0) (pc := 10) g_ dX12_init_10 (pl_X12_9) rfl (by show (List.map _ (List.range _)).length = _; rw [List.length_map, List.length_range]) rfl (by rw [← ip_rep]; rfl) (fun _ => rfl) (fun _ => rfl) (fun h10 g_ => ?_)
  have g_ := ip_skip g_ rfl rfl
  refine mm_aload_n (pc := 13) dX12_init_13 rfl trivial ?_
  refine mm_iconst (pc := 14) (v := 5) dX12_init_14 (by decide) ?_
  refine mm_newa_int (pc := 15) (N := 5) dX12_init_15 mm_ac_int (by decide) (by decide) (by decide) (by have := (ip_at g_ (x := 1) (s_ := 800) (by decide +kernel) (by decide +kernel)); omega) (by have := (ip_at g_ (x := 1) (s_ := 800) (by decide +kernel) (by decide +kernel)); omega) ?_
  refine ip_put (J := 2) (pc := 17) g_ dX12_init_17 (pl_X12_13) rfl (by show (List.map _ (List.range _)).length = _; rw [List.length_map, List.length_range]) rfl (by rw [← ip_rep]; rfl) (fun _ => rfl) (fun _ => rfl) (fun h17 g_ => ?_)
  have g_ := ip_skip g_ rfl rfl
  refine mm_aload_n (pc := 20) dX12_init_20 rfl trivial ?_
  refine mm_bipush (pc := 21) (v := 50) dX12_init_21 (by decide) ?_
  refine mm_anew (pc := 23) (N := 50) (t := 9) (i := 5) dX12_init_23 al_X12_17 rfl rfl (by decide) (by decide) (by decide) (by have := (ip_at g_ (x := 2) (s_ := 805) (by decide +kernel) (by decide +kernel)); omega) (by have := (ip_at g_ (x := 2) (s_ := 805) (by decide +kernel) (by decide +kernel)); omega) ?_
  refine ip_put (J := 4) (pc := 26) g_ dX12_init_26 (pl_X12_19) rfl (by show (List.map _ (List.range _)).length = _; rw [List.length_map, List.length_range]) rfl (by rw [← ip_rep]; rfl) (fun _ => rfl) (fun _ => rfl) (fun h26 g_ => ?_)
  refine mm_aload_n (pc := 29) dX12_init_29 rfl trivial ?_
  refine mm_bipush (pc := 30) (v := 50) dX12_init_30 (by decide) ?_
  refine mm_newa_int (pc := 32) (N := 50) dX12_init_32 mm_ac_int (by decide) (by decide) (by decide) (by have := (ip_at g_ (x := 3) (s_ := 855) (by decide +kernel) (by decide +kernel)); omega) (by have := (ip_at g_ (x := 3) (s_ := 855) (by decide +kernel) (by decide +kernel)); omega) ?_
  refine ip_put (J := 5) (pc := 34) g_ dX12_init_34 (pl_X12_23) rfl (by show (List.map _ (List.range _)).length = _; rw [List.length_map, List.length_range]) rfl (by rw [← ip_rep]; rfl) (fun _ => rfl) (fun _ => rfl) (fun h34 g_ => ?_)
  refine mm_aload_n (pc := 37) dX12_init_37 rfl trivial ?_
  refine mm_bipush (pc := 38) (v := 50) dX12_init_38 (by decide) ?_
  refine mm_newa_int (pc := 40) (N := 50) dX12_init_40 mm_ac_int (by decide) (by decide) (by decide) (by have := (ip_at g_ (x := 4) (s_ := 905) (by decide +kernel) (by decide +kernel)); omega) (by have := (ip_at g_ (x := 4) (s_ := 905) (by decide +kernel) (by decide +kernel)); omega) ?_
  refine ip_put (J := 6) (pc := 42) g_ dX12_init_42 (pl_X12_26) rfl (by show (List.map _ (List.range _)).length = _; rw [List.length_map, List.length_range]) rfl (by rw [← ip_rep]; rfl) (fun _ => rfl) (fun _ => rfl) (fun h42 g_ => ?_)
  refine mm_aload_n (pc := 45) dX12_init_45 rfl trivial ?_
  refine mm_bipush (pc := 46) (v := 50) dX12_init_46 (by decide) ?_
  refine mm_newa_int (pc := 48) (N := 50) dX12_init_48 mm_ac_int (by decide) (by decide) (by decide) (by have := (ip_at g_ (x := 5) (s_ := 955) (by decide +kernel) (by decide +kernel)); omega) (by have := (ip_at g_ (x := 5) (s_ := 955) (by decide +kernel) (by decide +kernel)); omega) ?_
  refine ip_put (J := 7) (pc := 50) g_ dX12_init_50 (pl_X12_29) rfl (by show (List.map _ (List.range _)).length = _; rw [List.length_map, List.length_range]) rfl (by rw [← ip_rep]; rfl) (fun _ => rfl) (fun _ => rfl) (fun h50 g_ => ?_)
  refine mm_aload_n (pc := 53) dX12_init_53 rfl trivial ?_
  refine mm_sipush (pc := 54) (v := 300) dX12_init_54 (by decide) ?_
  refine mm_newa_boolean (pc := 57) (N := 300) dX12_init_57 mm_ac_boolean (by decide) (by decide) (by decide) (by have := (ip_at g_ (x := 6) (s_ := 1005) (by decide +kernel) (by decide +kernel)); omega) (by have := (ip_at g_ (x := 6) (s_ := 1005) (by decide +kernel) (by decide +kernel)); omega) ?_
  refine ip_put (J := 8) (pc := 59) g_ dX12_init_59 (pl_X12_32) rfl (by show (List.map _ (List.range _)).length = _; rw [List.length_map, List.length_range]) rfl (by rw [← ip_rep]; rfl) (fun _ => rfl) (fun _ => rfl) (fun h59 g_ => ?_)
  refine mm_aload_n (pc := 62) dX12_init_62 rfl trivial ?_
  refine mm_sipush (pc := 63) (v := 300) dX12_init_63 (by decide) ?_
  refine mm_newa_int (pc := 66) (N := 300) dX12_init_66 mm_ac_int (by decide) (by decide) (by decide) (by have := (ip_at g_ (x := 7) (s_ := 1305) (by decide +kernel) (by decide +kernel)); omega) (by have := (ip_at g_ (x := 7) (s_ := 1305) (by decide +kernel) (by decide +kernel)); omega) ?_
  refine ip_put (J := 9) (pc := 68) g_ dX12_init_68 (pl_X12_36) rfl (by show (List.map _ (List.range _)).length = _; rw [List.length_map, List.length_range]) rfl (by rw [← ip_rep]; rfl) (fun _ => rfl) (fun _ => rfl) (fun h68 g_ => ?_)
  refine mm_aload_n (pc := 71) dX12_init_71 rfl trivial ?_
  refine mm_sipush (pc := 72) (v := 300) dX12_init_72 (by decide) ?_
  refine mm_newa_boolean (pc := 75) (N := 300) dX12_init_75 mm_ac_boolean (by decide) (by decide) (by decide) (by have := (ip_at g_ (x := 8) (s_ := 1605) (by decide +kernel) (by decide +kernel)); omega) (by have := (ip_at g_ (x := 8) (s_ := 1605) (by decide +kernel) (by decide +kernel)); omega) ?_
  refine ip_put (J := 10) (pc := 77) g_ dX12_init_77 (pl_X12_39) rfl (by show (List.map _ (List.range _)).length = _; rw [List.length_map, List.length_range]) rfl (by rw [← ip_rep]; rfl) (fun _ => rfl) (fun _ => rfl) (fun h77 g_ => ?_)
  refine mm_aload_n (pc := 80) dX12_init_80 rfl trivial ?_
  refine mm_sipush (pc := 81) (v := 300) dX12_init_81 (by decide) ?_
  refine mm_newa_int (pc := 84) (N := 300) dX12_init_84 mm_ac_int (by decide) (by decide) (by decide) (by have := (ip_at g_ (x := 9) (s_ := 1905) (by decide +kernel) (by decide +kernel)); omega) (by have := (ip_at g_ (x := 9) (s_ := 1905) (by decide +kernel) (by decide +kernel)); omega) ?_
  refine ip_put (J := 11) (pc := 86) g_ dX12_init_86 (pl_X12_42) rfl (by show (List.map _ (List.range _)).length = _; rw [List.length_map, List.length_range]) rfl (by rw [← ip_rep]; rfl) (fun _ => rfl) (fun _ => rfl) (fun h86 g_ => ?_)
  refine mm_aload_n (pc := 89) dX12_init_89 rfl trivial ?_
  refine mm_sipush (pc := 90) (v := 300) dX12_init_90 (by decide) ?_
  refine mm_newa_int (pc := 93) (N := 300) dX12_init_93 mm_ac_int (by decide) (by decide) (by decide) (by have := (ip_at g_ (x := 10) (s_ := 2205) (by decide +kernel) (by decide +kernel)); omega) (by have := (ip_at g_ (x := 10) (s_ := 2205) (by decide +kernel) (by decide +kernel)); omega) ?_
  refine ip_put (J := 12) (pc := 95) g_ dX12_init_95 (pl_X12_45) rfl (by show (List.map _ (List.range _)).length = _; rw [List.length_map, List.length_range]) rfl (by rw [← ip_rep]; rfl) (fun _ => rfl) (fun _ => rfl) (fun h95 g_ => ?_)
  have g_ := ip_skip g_ rfl rfl
  refine mm_aload_n (pc := 98) dX12_init_98 rfl trivial ?_
  refine mm_sipush (pc := 99) (v := 4000) dX12_init_99 (by decide) ?_
  refine mm_newa_int (pc := 102) (N := 4000) dX12_init_102 mm_ac_int (by decide) (by decide) (by decide) (by have := (ip_at g_ (x := 11) (s_ := 2505) (by decide +kernel) (by decide +kernel)); omega) (by have := (ip_at g_ (x := 11) (s_ := 2505) (by decide +kernel) (by decide +kernel)); omega) ?_
  refine ip_put (J := 14) (pc := 104) g_ dX12_init_104 (pl_X12_48) rfl (by show (List.map _ (List.range _)).length = _; rw [List.length_map, List.length_range]) rfl (by rw [← ip_rep]; rfl) (fun _ => rfl) (fun _ => rfl) (fun h104 g_ => ?_)
  refine mm_aload_n (pc := 107) dX12_init_107 rfl trivial ?_
  refine mm_sipush (pc := 108) (v := 4000) dX12_init_108 (by decide) ?_
  refine mm_newa_int (pc := 111) (N := 4000) dX12_init_111 mm_ac_int (by decide) (by decide) (by decide) (by have := (ip_at g_ (x := 12) (s_ := 6505) (by decide +kernel) (by decide +kernel)); omega) (by have := (ip_at g_ (x := 12) (s_ := 6505) (by decide +kernel) (by decide +kernel)); omega) ?_
  refine ip_put (J := 15) (pc := 113) g_ dX12_init_113 (pl_X12_51) rfl (by show (List.map _ (List.range _)).length = _; rw [List.length_map, List.length_range]) rfl (by rw [← ip_rep]; rfl) (fun _ => rfl) (fun _ => rfl) (fun h113 g_ => ?_)
  refine mm_aload_n (pc := 116) dX12_init_116 rfl trivial ?_
  refine mm_sipush (pc := 117) (v := 4000) dX12_init_117 (by decide) ?_
  refine mm_newa_int (pc := 120) (N := 4000) dX12_init_120 mm_ac_int (by decide) (by decide) (by decide) (by have := (ip_at g_ (x := 13) (s_ := 10505) (by decide +kernel) (by decide +kernel)); omega) (by have := (ip_at g_ (x := 13) (s_ := 10505) (by decide +kernel) (by decide +kernel)); omega) ?_
  refine ip_put (J := 16) (pc := 122) g_ dX12_init_122 (pl_X12_54) rfl (by show (List.map _ (List.range _)).length = _; rw [List.length_map, List.length_range]) rfl (by rw [← ip_rep]; rfl) (fun _ => rfl) (fun _ => rfl) (fun h122 g_ => ?_)
  refine mm_aload_n (pc := 125) dX12_init_125 rfl trivial ?_
  refine mm_sipush (pc := 126) (v := 4000) dX12_init_126 (by decide) ?_
  refine mm_newa_int (pc := 129) (N := 4000) dX12_init_129 mm_ac_int (by decide) (by decide) (by decide) (by have := (ip_at g_ (x := 14) (s_ := 14505) (by decide +kernel) (by decide +kernel)); omega) (by have := (ip_at g_ (x := 14) (s_ := 14505) (by decide +kernel) (by decide +kernel)); omega) ?_
  refine ip_put (J := 17) (pc := 131) g_ dX12_init_131 (pl_X12_57) rfl (by show (List.map _ (List.range _)).length = _; rw [List.length_map, List.length_range]) rfl (by rw [← ip_rep]; rfl) (fun _ => rfl) (fun _ => rfl) (fun h131 g_ => ?_)
  refine mm_aload_n (pc := 134) dX12_init_134 rfl trivial ?_
  refine mm_sipush (pc := 135) (v := 4000) dX12_init_135 (by decide) ?_
  refine mm_newa_int (pc := 138) (N := 4000) dX12_init_138 mm_ac_int (by decide) (by decide) (by decide) (by have := (ip_at g_ (x := 15) (s_ := 18505) (by decide +kernel) (by decide +kernel)); omega) (by have := (ip_at g_ (x := 15) (s_ := 18505) (by decide +kernel) (by decide +kernel)); omega) ?_
  refine ip_put (J := 18) (pc := 140) g_ dX12_init_140 (pl_X12_60) rfl (by show (List.map _ (List.range _)).length = _; rw [List.length_map, List.length_range]) rfl (by rw [← ip_rep]; rfl) (fun _ => rfl) (fun _ => rfl) (fun h140 g_ => ?_)
  have g_ := ip_skip g_ rfl rfl
  refine mm_aload_n (pc := 143) dX12_init_143 rfl trivial ?_
  refine mm_bipush (pc := 144) (v := 12) dX12_init_144 (by decide) ?_
  refine mm_anew (pc := 146) (N := 12) (t := 9) (i := 5) dX12_init_146 al_X12_17 rfl rfl (by decide) (by decide) (by decide) (by have := (ip_at g_ (x := 16) (s_ := 22505) (by decide +kernel) (by decide +kernel)); omega) (by have := (ip_at g_ (x := 16) (s_ := 22505) (by decide +kernel) (by decide +kernel)); omega) ?_
  refine ip_put (J := 20) (pc := 149) g_ dX12_init_149 (pl_X12_63) rfl (by show (List.map _ (List.range _)).length = _; rw [List.length_map, List.length_range]) rfl (by rw [← ip_rep]; rfl) (fun _ => rfl) (fun _ => rfl) (fun h149 g_ => ?_)
  refine mm_aload_n (pc := 152) dX12_init_152 rfl trivial ?_
  refine mm_bipush (pc := 153) (v := 12) dX12_init_153 (by decide) ?_
  refine mm_newa_int (pc := 155) (N := 12) dX12_init_155 mm_ac_int (by decide) (by decide) (by decide) (by have := (ip_at g_ (x := 17) (s_ := 22517) (by decide +kernel) (by decide +kernel)); omega) (by have := (ip_at g_ (x := 17) (s_ := 22517) (by decide +kernel) (by decide +kernel)); omega) ?_
  refine ip_put (J := 21) (pc := 157) g_ dX12_init_157 (pl_X12_66) rfl (by show (List.map _ (List.range _)).length = _; rw [List.length_map, List.length_range]) rfl (by rw [← ip_rep]; rfl) (fun _ => rfl) (fun _ => rfl) (fun h157 g_ => ?_)
  refine mm_aload_n (pc := 160) dX12_init_160 rfl trivial ?_
  refine mm_bipush (pc := 161) (v := 12) dX12_init_161 (by decide) ?_
  refine mm_newa_boolean (pc := 163) (N := 12) dX12_init_163 mm_ac_boolean (by decide) (by decide) (by decide) (by have := (ip_at g_ (x := 18) (s_ := 22529) (by decide +kernel) (by decide +kernel)); omega) (by have := (ip_at g_ (x := 18) (s_ := 22529) (by decide +kernel) (by decide +kernel)); omega) ?_
  refine ip_put (J := 22) (pc := 165) g_ dX12_init_165 (pl_X12_69) rfl (by show (List.map _ (List.range _)).length = _; rw [List.length_map, List.length_range]) rfl (by rw [← ip_rep]; rfl) (fun _ => rfl) (fun _ => rfl) (fun h165 g_ => ?_)
  refine mm_aload_n (pc := 168) dX12_init_168 rfl trivial ?_
  refine mm_iconst (pc := 169) (v := 1) dX12_init_169 (by decide) ?_
  refine ip_putS (J := 23) (pc := 170) g_ dX12_init_170 (pl_X12_72 _) rfl rfl rfl rfl (fun h170 g_ => ?_)
  refine mm_aload_n (pc := 173) dX12_init_173 rfl trivial ?_
  refine mm_iconst (pc := 174) (v := (-1)) dX12_init_174 (by decide) ?_
  refine ip_putS (J := 24) (pc := 175) g_ dX12_init_175 (pl_X12_76 _) rfl rfl rfl rfl (fun h175 g_ => ?_)
  refine mm_aload_n (pc := 178) dX12_init_178 rfl trivial ?_
  refine mm_bipush (pc := 179) (v := 50) dX12_init_179 (by decide) ?_
  refine mm_newa_boolean (pc := 181) (N := 50) dX12_init_181 mm_ac_boolean (by decide) (by decide) (by decide) (by have := (ip_at g_ (x := 19) (s_ := 22541) (by decide +kernel) (by decide +kernel)); omega) (by have := (ip_at g_ (x := 19) (s_ := 22541) (by decide +kernel) (by decide +kernel)); omega) ?_
  refine ip_put (J := 25) (pc := 183) g_ dX12_init_183 (pl_X12_79) rfl (by show (List.map _ (List.range _)).length = _; rw [List.length_map, List.length_range]) rfl (by rw [← ip_rep]; rfl) (fun _ => rfl) (fun _ => rfl) (fun h183 g_ => ?_)
  have g_ := ip_skip g_ rfl rfl
  have g_ := ip_skip g_ rfl rfl
  have g_ := ip_skip g_ rfl rfl
  have g_ := ip_skip g_ rfl rfl
  have g_ := ip_skip g_ rfl rfl
  have g_ := ip_skip g_ rfl rfl
  have g_ := ip_skip g_ rfl rfl
  have g_ := ip_skip g_ rfl rfl
  have g_ := ip_skip g_ rfl rfl
  have g_ := ip_skip g_ rfl rfl
  refine mm_aload_n (pc := 186) dX12_init_186 rfl trivial ?_
  refine mm_bipush (pc := 187) (v := 10) dX12_init_187 (by decide) ?_
  refine mm_newa_int (pc := 189) (N := 10) dX12_init_189 mm_ac_int (by decide) (by decide) (by decide) (by have := (ip_at g_ (x := 20) (s_ := 22591) (by decide +kernel) (by decide +kernel)); omega) (by have := (ip_at g_ (x := 20) (s_ := 22591) (by decide +kernel) (by decide +kernel)); omega) ?_
  refine ip_put (J := 36) (pc := 191) g_ dX12_init_191 (pl_X12_82) rfl (by show (List.map _ (List.range _)).length = _; rw [List.length_map, List.length_range]) rfl (by rw [← ip_rep]; rfl) (fun _ => rfl) (fun _ => rfl) (fun h191 g_ => ?_)
  have g_ := ip_skip g_ rfl rfl
  refine mm_aload_n (pc := 194) dX12_init_194 rfl trivial ?_
  refine mm_sipush (pc := 195) (v := 700) dX12_init_195 (by decide) ?_
  refine mm_newa_int (pc := 198) (N := 700) dX12_init_198 mm_ac_int (by decide) (by decide) (by decide) (by have := (ip_at g_ (x := 21) (s_ := 22601) (by decide +kernel) (by decide +kernel)); omega) (by have := (ip_at g_ (x := 21) (s_ := 22601) (by decide +kernel) (by decide +kernel)); omega) ?_
  refine ip_put (J := 38) (pc := 200) g_ dX12_init_200 (pl_X12_85) rfl (by show (List.map _ (List.range _)).length = _; rw [List.length_map, List.length_range]) rfl (by rw [← ip_rep]; rfl) (fun _ => rfl) (fun _ => rfl) (fun h200 g_ => ?_)
  refine mm_aload_n (pc := 203) dX12_init_203 rfl trivial ?_
  refine mm_sipush (pc := 204) (v := 700) dX12_init_204 (by decide) ?_
  refine mm_newa_int (pc := 207) (N := 700) dX12_init_207 mm_ac_int (by decide) (by decide) (by decide) (by have := (ip_at g_ (x := 22) (s_ := 23301) (by decide +kernel) (by decide +kernel)); omega) (by have := (ip_at g_ (x := 22) (s_ := 23301) (by decide +kernel) (by decide +kernel)); omega) ?_
  refine ip_put (J := 39) (pc := 209) g_ dX12_init_209 (pl_X12_88) rfl (by show (List.map _ (List.range _)).length = _; rw [List.length_map, List.length_range]) rfl (by rw [← ip_rep]; rfl) (fun _ => rfl) (fun _ => rfl) (fun h209 g_ => ?_)
  refine mm_aload_n (pc := 212) dX12_init_212 rfl trivial ?_
  refine mm_sipush (pc := 213) (v := 700) dX12_init_213 (by decide) ?_
  refine mm_newa_int (pc := 216) (N := 700) dX12_init_216 mm_ac_int (by decide) (by decide) (by decide) (by have := (ip_at g_ (x := 23) (s_ := 24001) (by decide +kernel) (by decide +kernel)); omega) (by have := (ip_at g_ (x := 23) (s_ := 24001) (by decide +kernel) (by decide +kernel)); omega) ?_
  refine ip_put (J := 40) (pc := 218) g_ dX12_init_218 (pl_X12_91) rfl (by show (List.map _ (List.range _)).length = _; rw [List.length_map, List.length_range]) rfl (by rw [← ip_rep]; rfl) (fun _ => rfl) (fun _ => rfl) (fun h218 g_ => ?_)
  have g_ := ip_skip g_ rfl rfl
  refine mm_aload_n (pc := 221) dX12_init_221 rfl trivial ?_
  refine mm_sipush (pc := 222) (v := 700) dX12_init_222 (by decide) ?_
  refine mm_newa_int (pc := 225) (N := 700) dX12_init_225 mm_ac_int (by decide) (by decide) (by decide) (by have := (ip_at g_ (x := 24) (s_ := 24701) (by decide +kernel) (by decide +kernel)); omega) (by have := (ip_at g_ (x := 24) (s_ := 24701) (by decide +kernel) (by decide +kernel)); omega) ?_
  refine ip_put (J := 42) (pc := 227) g_ dX12_init_227 (pl_X12_94) rfl (by show (List.map _ (List.range _)).length = _; rw [List.length_map, List.length_range]) rfl (by rw [← ip_rep]; rfl) (fun _ => rfl) (fun _ => rfl) (fun h227 g_ => ?_)
  refine mm_aload_n (pc := 230) dX12_init_230 rfl trivial ?_
  refine mm_sipush (pc := 231) (v := 700) dX12_init_231 (by decide) ?_
  refine mm_newa_int (pc := 234) (N := 700) dX12_init_234 mm_ac_int (by decide) (by decide) (by decide) (by have := (ip_at g_ (x := 25) (s_ := 25401) (by decide +kernel) (by decide +kernel)); omega) (by have := (ip_at g_ (x := 25) (s_ := 25401) (by decide +kernel) (by decide +kernel)); omega) ?_
  refine ip_put (J := 43) (pc := 236) g_ dX12_init_236 (pl_X12_97) rfl (by show (List.map _ (List.range _)).length = _; rw [List.length_map, List.length_range]) rfl (by rw [← ip_rep]; rfl) (fun _ => rfl) (fun _ => rfl) (fun h236 g_ => ?_)
  refine mm_aload_n (pc := 239) dX12_init_239 rfl trivial ?_
  refine mm_sipush (pc := 240) (v := 700) dX12_init_240 (by decide) ?_
  refine mm_newa_int (pc := 243) (N := 700) dX12_init_243 mm_ac_int (by decide) (by decide) (by decide) (by have := (ip_at g_ (x := 26) (s_ := 26101) (by decide +kernel) (by decide +kernel)); omega) (by have := (ip_at g_ (x := 26) (s_ := 26101) (by decide +kernel) (by decide +kernel)); omega) ?_
  refine ip_put (J := 44) (pc := 245) g_ dX12_init_245 (pl_X12_100) rfl (by show (List.map _ (List.range _)).length = _; rw [List.length_map, List.length_range]) rfl (by rw [← ip_rep]; rfl) (fun _ => rfl) (fun _ => rfl) (fun h245 g_ => ?_)
  refine mm_aload_n (pc := 248) dX12_init_248 rfl trivial ?_
  refine mm_sipush (pc := 249) (v := 700) dX12_init_249 (by decide) ?_
  refine mm_newa_int (pc := 252) (N := 700) dX12_init_252 mm_ac_int (by decide) (by decide) (by decide) (by have := (ip_at g_ (x := 27) (s_ := 26801) (by decide +kernel) (by decide +kernel)); omega) (by have := (ip_at g_ (x := 27) (s_ := 26801) (by decide +kernel) (by decide +kernel)); omega) ?_
  refine ip_put (J := 45) (pc := 254) g_ dX12_init_254 (pl_X12_103) rfl (by show (List.map _ (List.range _)).length = _; rw [List.length_map, List.length_range]) rfl (by rw [← ip_rep]; rfl) (fun _ => rfl) (fun _ => rfl) (fun h254 g_ => ?_)
  refine mm_aload_n (pc := 257) dX12_init_257 rfl trivial ?_
  refine mm_sipush (pc := 258) (v := 700) dX12_init_258 (by decide) ?_
  refine mm_newa_int (pc := 261) (N := 700) dX12_init_261 mm_ac_int (by decide) (by decide) (by decide) (by have := (ip_at g_ (x := 28) (s_ := 27501) (by decide +kernel) (by decide +kernel)); omega) (by have := (ip_at g_ (x := 28) (s_ := 27501) (by decide +kernel) (by decide +kernel)); omega) ?_
  refine ip_put (J := 46) (pc := 263) g_ dX12_init_263 (pl_X12_106) rfl (by show (List.map _ (List.range _)).length = _; rw [List.length_map, List.length_range]) rfl (by rw [← ip_rep]; rfl) (fun _ => rfl) (fun _ => rfl) (fun h263 g_ => ?_)
  have g_ := ip_skip g_ rfl rfl
  have g_ := ip_skip g_ rfl rfl
  refine mm_aload_n (pc := 266) dX12_init_266 rfl trivial ?_
  refine mm_bipush (pc := 267) (v := 20) dX12_init_267 (by decide) ?_
  refine mm_newa_int (pc := 269) (N := 20) dX12_init_269 mm_ac_int (by decide) (by decide) (by decide) (by have := (ip_at g_ (x := 29) (s_ := 28201) (by decide +kernel) (by decide +kernel)); omega) (by have := (ip_at g_ (x := 29) (s_ := 28201) (by decide +kernel) (by decide +kernel)); omega) ?_
  refine ip_put (J := 49) (pc := 271) g_ dX12_init_271 (pl_X12_109) rfl (by show (List.map _ (List.range _)).length = _; rw [List.length_map, List.length_range]) rfl (by rw [← ip_rep]; rfl) (fun _ => rfl) (fun _ => rfl) (fun h271 g_ => ?_)
  refine mm_aload_n (pc := 274) dX12_init_274 rfl trivial ?_
  refine mm_bipush (pc := 275) (v := 20) dX12_init_275 (by decide) ?_
  refine mm_newa_int (pc := 277) (N := 20) dX12_init_277 mm_ac_int (by decide) (by decide) (by decide) (by have := (ip_at g_ (x := 30) (s_ := 28221) (by decide +kernel) (by decide +kernel)); omega) (by have := (ip_at g_ (x := 30) (s_ := 28221) (by decide +kernel) (by decide +kernel)); omega) ?_
  refine ip_put (J := 50) (pc := 279) g_ dX12_init_279 (pl_X12_112) rfl (by show (List.map _ (List.range _)).length = _; rw [List.length_map, List.length_range]) rfl (by rw [← ip_rep]; rfl) (fun _ => rfl) (fun _ => rfl) (fun h279 g_ => ?_)
  refine mm_aload_n (pc := 282) dX12_init_282 rfl trivial ?_
  refine mm_bipush (pc := 283) (v := 20) dX12_init_283 (by decide) ?_
  refine mm_newa_int (pc := 285) (N := 20) dX12_init_285 mm_ac_int (by decide) (by decide) (by decide) (by have := (ip_at g_ (x := 31) (s_ := 28241) (by decide +kernel) (by decide +kernel)); omega) (by have := (ip_at g_ (x := 31) (s_ := 28241) (by decide +kernel) (by decide +kernel)); omega) ?_
  refine ip_put (J := 51) (pc := 287) g_ dX12_init_287 (pl_X12_115) rfl (by show (List.map _ (List.range _)).length = _; rw [List.length_map, List.length_range]) rfl (by rw [← ip_rep]; rfl) (fun _ => rfl) (fun _ => rfl) (fun h287 g_ => ?_)
  refine mm_aload_n (pc := 290) dX12_init_290 rfl trivial ?_
  refine mm_bipush (pc := 291) (v := 20) dX12_init_291 (by decide) ?_
  refine mm_newa_int (pc := 293) (N := 20) dX12_init_293 mm_ac_int (by decide) (by decide) (by decide) (by have := (ip_at g_ (x := 32) (s_ := 28261) (by decide +kernel) (by decide +kernel)); omega) (by have := (ip_at g_ (x := 32) (s_ := 28261) (by decide +kernel) (by decide +kernel)); omega) ?_
  refine ip_put (J := 52) (pc := 295) g_ dX12_init_295 (pl_X12_118) rfl (by show (List.map _ (List.range _)).length = _; rw [List.length_map, List.length_range]) rfl (by rw [← ip_rep]; rfl) (fun _ => rfl) (fun _ => rfl) (fun h295 g_ => ?_)
  refine mm_aload_n (pc := 298) dX12_init_298 rfl trivial ?_
  refine mm_iconst (pc := 299) (v := 5) dX12_init_299 (by decide) ?_
  refine mm_newa_long (pc := 300) (N := 5) dX12_init_300 mm_ac_long (by decide) (by decide) (by decide) (by have := (ip_at g_ (x := 33) (s_ := 28281) (by decide +kernel) (by decide +kernel)); omega) (by have := (ip_at g_ (x := 33) (s_ := 28281) (by decide +kernel) (by decide +kernel)); omega) ?_
  refine ip_put (J := 53) (pc := 302) g_ dX12_init_302 (pl_X12_121) rfl (by show (List.map _ (List.range _)).length = _; rw [List.length_map, List.length_range]) rfl (by rw [← ip_rep]; rfl) (fun _ => rfl) (fun _ => rfl) (fun h302 g_ => ?_)
  have g_ := ip_skip g_ rfl rfl
  refine mm_aload_n (pc := 305) dX12_init_305 rfl trivial ?_
  refine mm_sipush (pc := 306) (v := 600) dX12_init_306 (by decide) ?_
  refine mm_newa_int (pc := 309) (N := 600) dX12_init_309 mm_ac_int (by decide) (by decide) (by decide) (by have := (ip_at g_ (x := 34) (s_ := 28286) (by decide +kernel) (by decide +kernel)); omega) (by have := (ip_at g_ (x := 34) (s_ := 28286) (by decide +kernel) (by decide +kernel)); omega) ?_
  refine ip_put (J := 55) (pc := 311) g_ dX12_init_311 (pl_X12_125) rfl (by show (List.map _ (List.range _)).length = _; rw [List.length_map, List.length_range]) rfl (by rw [← ip_rep]; rfl) (fun _ => rfl) (fun _ => rfl) (fun h311 g_ => ?_)
  refine mm_aload_n (pc := 314) dX12_init_314 rfl trivial ?_
  refine mm_sipush (pc := 315) (v := 600) dX12_init_315 (by decide) ?_
  refine mm_newa_int (pc := 318) (N := 600) dX12_init_318 mm_ac_int (by decide) (by decide) (by decide) (by have := (ip_at g_ (x := 35) (s_ := 28886) (by decide +kernel) (by decide +kernel)); omega) (by have := (ip_at g_ (x := 35) (s_ := 28886) (by decide +kernel) (by decide +kernel)); omega) ?_
  refine ip_put (J := 56) (pc := 320) g_ dX12_init_320 (pl_X12_128) rfl (by show (List.map _ (List.range _)).length = _; rw [List.length_map, List.length_range]) rfl (by rw [← ip_rep]; rfl) (fun _ => rfl) (fun _ => rfl) (fun h320 g_ => ?_)
  refine mm_aload_n (pc := 323) dX12_init_323 rfl trivial ?_
  refine mm_sipush (pc := 324) (v := 600) dX12_init_324 (by decide) ?_
  refine mm_newa_int (pc := 327) (N := 600) dX12_init_327 mm_ac_int (by decide) (by decide) (by decide) (by have := (ip_at g_ (x := 36) (s_ := 29486) (by decide +kernel) (by decide +kernel)); omega) (by have := (ip_at g_ (x := 36) (s_ := 29486) (by decide +kernel) (by decide +kernel)); omega) ?_
  refine ip_put (J := 57) (pc := 329) g_ dX12_init_329 (pl_X12_131) rfl (by show (List.map _ (List.range _)).length = _; rw [List.length_map, List.length_range]) rfl (by rw [← ip_rep]; rfl) (fun _ => rfl) (fun _ => rfl) (fun h329 g_ => ?_)
  refine mm_aload_n (pc := 332) dX12_init_332 rfl trivial ?_
  refine mm_sipush (pc := 333) (v := 600) dX12_init_333 (by decide) ?_
  refine mm_newa_int (pc := 336) (N := 600) dX12_init_336 mm_ac_int (by decide) (by decide) (by decide) (by have := (ip_at g_ (x := 37) (s_ := 30086) (by decide +kernel) (by decide +kernel)); omega) (by have := (ip_at g_ (x := 37) (s_ := 30086) (by decide +kernel) (by decide +kernel)); omega) ?_
  refine ip_put (J := 58) (pc := 338) g_ dX12_init_338 (pl_X12_134) rfl (by show (List.map _ (List.range _)).length = _; rw [List.length_map, List.length_range]) rfl (by rw [← ip_rep]; rfl) (fun _ => rfl) (fun _ => rfl) (fun h338 g_ => ?_)
  refine mm_aload_n (pc := 341) dX12_init_341 rfl trivial ?_
  refine mm_sipush (pc := 342) (v := 2400) dX12_init_342 (by decide) ?_
  refine mm_newa_int (pc := 345) (N := 2400) dX12_init_345 mm_ac_int (by decide) (by decide) (by decide) (by have := (ip_at g_ (x := 38) (s_ := 30686) (by decide +kernel) (by decide +kernel)); omega) (by have := (ip_at g_ (x := 38) (s_ := 30686) (by decide +kernel) (by decide +kernel)); omega) ?_
  refine ip_put (J := 59) (pc := 347) g_ dX12_init_347 (pl_X12_137) rfl (by show (List.map _ (List.range _)).length = _; rw [List.length_map, List.length_range]) rfl (by rw [← ip_rep]; rfl) (fun _ => rfl) (fun _ => rfl) (fun h347 g_ => ?_)
  refine mm_aload_n (pc := 350) dX12_init_350 rfl trivial ?_
  refine mm_sipush (pc := 351) (v := 3000) dX12_init_351 (by decide) ?_
  refine mm_newa_long (pc := 354) (N := 3000) dX12_init_354 mm_ac_long (by decide) (by decide) (by decide) (by have := (ip_at g_ (x := 39) (s_ := 33086) (by decide +kernel) (by decide +kernel)); omega) (by have := (ip_at g_ (x := 39) (s_ := 33086) (by decide +kernel) (by decide +kernel)); omega) ?_
  refine ip_put (J := 60) (pc := 356) g_ dX12_init_356 (pl_X12_140) rfl (by show (List.map _ (List.range _)).length = _; rw [List.length_map, List.length_range]) rfl (by rw [← ip_rep]; rfl) (fun _ => rfl) (fun _ => rfl) (fun h356 g_ => ?_)
  have g_ := ip_skip g_ rfl rfl
  have g_ := ip_skip g_ rfl rfl
  have g_ := ip_skip g_ rfl rfl
  have g_ := ip_skip g_ rfl rfl
  have g_ := ip_skip g_ rfl rfl
  have g_ := ip_skip g_ rfl rfl
  have g_ := ip_skip g_ rfl rfl
  have g_ := ip_skip g_ rfl rfl
  refine mm_aload_n (pc := 359) dX12_init_359 rfl trivial ?_
  refine mm_sipush (pc := 360) (v := 500) dX12_init_360 (by decide) ?_
  refine mm_newa_int (pc := 363) (N := 500) dX12_init_363 mm_ac_int (by decide) (by decide) (by decide) (by have := (ip_at g_ (x := 40) (s_ := 36086) (by decide +kernel) (by decide +kernel)); omega) (by have := (ip_at g_ (x := 40) (s_ := 36086) (by decide +kernel) (by decide +kernel)); omega) ?_
  refine ip_put (J := 69) (pc := 365) g_ dX12_init_365 (pl_X12_143) rfl (by show (List.map _ (List.range _)).length = _; rw [List.length_map, List.length_range]) rfl (by rw [← ip_rep]; rfl) (fun _ => rfl) (fun _ => rfl) (fun h365 g_ => ?_)
  refine mm_aload_n (pc := 368) dX12_init_368 rfl trivial ?_
  refine mm_sipush (pc := 369) (v := 500) dX12_init_369 (by decide) ?_
  refine mm_newa_int (pc := 372) (N := 500) dX12_init_372 mm_ac_int (by decide) (by decide) (by decide) (by have := (ip_at g_ (x := 41) (s_ := 36586) (by decide +kernel) (by decide +kernel)); omega) (by have := (ip_at g_ (x := 41) (s_ := 36586) (by decide +kernel) (by decide +kernel)); omega) ?_
  refine ip_put (J := 70) (pc := 374) g_ dX12_init_374 (pl_X12_146) rfl (by show (List.map _ (List.range _)).length = _; rw [List.length_map, List.length_range]) rfl (by rw [← ip_rep]; rfl) (fun _ => rfl) (fun _ => rfl) (fun h374 g_ => ?_)
  refine mm_aload_n (pc := 377) dX12_init_377 rfl trivial ?_
  refine mm_sipush (pc := 378) (v := 500) dX12_init_378 (by decide) ?_
  refine mm_newa_int (pc := 381) (N := 500) dX12_init_381 mm_ac_int (by decide) (by decide) (by decide) (by have := (ip_at g_ (x := 42) (s_ := 37086) (by decide +kernel) (by decide +kernel)); omega) (by have := (ip_at g_ (x := 42) (s_ := 37086) (by decide +kernel) (by decide +kernel)); omega) ?_
  refine ip_put (J := 71) (pc := 383) g_ dX12_init_383 (pl_X12_149) rfl (by show (List.map _ (List.range _)).length = _; rw [List.length_map, List.length_range]) rfl (by rw [← ip_rep]; rfl) (fun _ => rfl) (fun _ => rfl) (fun h383 g_ => ?_)
  have g_ := ip_skip g_ rfl rfl
  refine mm_aload_n (pc := 386) dX12_init_386 rfl trivial ?_
  refine mm_sipush (pc := 387) (v := 500) dX12_init_387 (by decide) ?_
  refine mm_newa_int (pc := 390) (N := 500) dX12_init_390 mm_ac_int (by decide) (by decide) (by decide) (by have := (ip_at g_ (x := 43) (s_ := 37586) (by decide +kernel) (by decide +kernel)); omega) (by have := (ip_at g_ (x := 43) (s_ := 37586) (by decide +kernel) (by decide +kernel)); omega) ?_
  refine ip_put (J := 73) (pc := 392) g_ dX12_init_392 (pl_X12_152) rfl (by show (List.map _ (List.range _)).length = _; rw [List.length_map, List.length_range]) rfl (by rw [← ip_rep]; rfl) (fun _ => rfl) (fun _ => rfl) (fun h392 g_ => ?_)
  exact kk _ g_

