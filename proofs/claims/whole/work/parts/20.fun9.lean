def f_Qu_joined (v0 : Int32) (v1 : Int64) (v3 : Int64) : Option (Int64) :=
  if v0 = (-18) then
  if v1 = 0 then
  some 0 else
  if v3 = 0 then
  some 0 else
  some 1 else
  if v0 = (-17) then
  if v1 = v3 then
  some 1 else
  some 0 else
  if v0 = (-16) then
  if v1 ≤ v3 then
  some 0 else
  some 1 else
  if v0 = (-15) then
  if v3 ≤ v1 then
  some 0 else
  some 1 else
  if v0 = (-14) then
  if v3 = 0 then
  some 0 else
  (f_Math_floorDiv v1 v3).bind fun x1 =>
  some x1 else
  if v0 = (-13) then
  some (f_Qu_held (v1 * v3)) else
  if v0 = (-12) then
  some (f_Qu_held (v1 - v3)) else
  if v0 = (-11) then
  some (f_Qu_held (v1 + v3)) else
  if v0 = (-10) then
  some (f_Math_max_JJJ v1 v3) else
  if v0 = (-9) then
  some (f_Math_min_JJJ v1 v3) else
  if v1 = 0 then
  if v3 = 0 then
  some 0 else
  some 1 else
  some 1
set_option maxRecDepth 20000 in
theorem p_Qu_joined {X : hl_X} (D : Nat) (v0 : Int32) (v1 : Int64) (v3 : Int64) (σ : hl_M) {r : Int64} (h : f_Qu_joined v0 v1 v3 = some r) : hl_R X (D + 2) y250 0 [(0, .int v0), (1, .long v1), (3, .long v3)] [] σ (some (.long r)) σ := by
  unfold f_Qu_joined at h
  refine hl_iload_n (i := 0) d250_0 rfl rfl ?_
  by_cases hc1_m18 : v0 = (-18)
  · have h := hl_pos hc1_m18 h
    refine hl_tabIn (off := 140) (tg := 141) d250_1 (by rw [hc1_m18]; decide) (by rw [hc1_m18]; decide) (by rw [hc1_m18]; rfl) rfl ?_
    refine hl_lload_n (i := 1) d250_141 rfl rfl ?_
    refine hl_lconst (x := 0) d250_142 (by decide) ?_
    refine hl_lc_eq (tg := 157) d250_143 d250_144 rfl (fun hc => ?_) (fun hc => ?_)
    · have h := hl_pos hc h
      refine hl_lconst (x := 0) d250_157 (by decide) ?_
      have h := Option.some.inj h
      subst h
      exact hl_lret d250_158 rfl
    · have h := hl_neg hc h
      refine hl_lload_n (i := 3) d250_147 rfl rfl ?_
      refine hl_lconst (x := 0) d250_148 (by decide) ?_
      refine hl_lc_eq (tg := 157) d250_149 d250_150 rfl (fun hc => ?_) (fun hc => ?_)
      · have h := hl_pos hc h
        refine hl_lconst (x := 0) d250_157 (by decide) ?_
        have h := Option.some.inj h
        subst h
        exact hl_lret d250_158 rfl
      · have h := hl_neg hc h
        refine hl_lconst (x := 1) d250_153 (by decide) ?_
        refine hl_goto (tg := 158) d250_154 rfl ?_
        have h := Option.some.inj h
        subst h
        exact hl_lret d250_158 rfl
  have h := hl_neg hc1_m18 h
  by_cases hc1_m17 : v0 = (-17)
  · have h := hl_pos hc1_m17 h
    refine hl_tabIn (off := 128) (tg := 129) d250_1 (by rw [hc1_m17]; decide) (by rw [hc1_m17]; decide) (by rw [hc1_m17]; rfl) rfl ?_
    refine hl_lload_n (i := 1) d250_129 rfl rfl ?_
    refine hl_lload_n (i := 3) d250_130 rfl rfl ?_
    refine hl_lc_ne (tg := 139) d250_131 d250_132 rfl (fun hc => ?_) (fun hc => ?_)
    · have h := hl_neg hc h
      refine hl_lconst (x := 0) d250_139 (by decide) ?_
      have h := Option.some.inj h
      subst h
      exact hl_lret d250_140 rfl
    · have h := hl_pos hc h
      refine hl_lconst (x := 1) d250_135 (by decide) ?_
      refine hl_goto (tg := 140) d250_136 rfl ?_
      have h := Option.some.inj h
      subst h
      exact hl_lret d250_140 rfl
  have h := hl_neg hc1_m17 h
  by_cases hc1_m16 : v0 = (-16)
  · have h := hl_pos hc1_m16 h
    refine hl_tabIn (off := 116) (tg := 117) d250_1 (by rw [hc1_m16]; decide) (by rw [hc1_m16]; decide) (by rw [hc1_m16]; rfl) rfl ?_
    refine hl_lload_n (i := 1) d250_117 rfl rfl ?_
    refine hl_lload_n (i := 3) d250_118 rfl rfl ?_
    refine hl_lc_le (tg := 127) d250_119 d250_120 rfl (fun hc => ?_) (fun hc => ?_)
    · have h := hl_pos hc h
      refine hl_lconst (x := 0) d250_127 (by decide) ?_
      have h := Option.some.inj h
      subst h
      exact hl_lret d250_128 rfl
    · have h := hl_neg hc h
      refine hl_lconst (x := 1) d250_123 (by decide) ?_
      refine hl_goto (tg := 128) d250_124 rfl ?_
      have h := Option.some.inj h
      subst h
      exact hl_lret d250_128 rfl
  have h := hl_neg hc1_m16 h
  by_cases hc1_m15 : v0 = (-15)
  · have h := hl_pos hc1_m15 h
    refine hl_tabIn (off := 104) (tg := 105) d250_1 (by rw [hc1_m15]; decide) (by rw [hc1_m15]; decide) (by rw [hc1_m15]; rfl) rfl ?_
    refine hl_lload_n (i := 1) d250_105 rfl rfl ?_
    refine hl_lload_n (i := 3) d250_106 rfl rfl ?_
    refine hl_lc_ge (tg := 115) d250_107 d250_108 rfl (fun hc => ?_) (fun hc => ?_)
    · have h := hl_pos hc h
      refine hl_lconst (x := 0) d250_115 (by decide) ?_
      have h := Option.some.inj h
      subst h
      exact hl_lret d250_116 rfl
    · have h := hl_neg hc h
      refine hl_lconst (x := 1) d250_111 (by decide) ?_
      refine hl_goto (tg := 116) d250_112 rfl ?_
      have h := Option.some.inj h
      subst h
      exact hl_lret d250_116 rfl
  have h := hl_neg hc1_m15 h
  by_cases hc1_m14 : v0 = (-14)
  · have h := hl_pos hc1_m14 h
    refine hl_tabIn (off := 88) (tg := 89) d250_1 (by rw [hc1_m14]; decide) (by rw [hc1_m14]; decide) (by rw [hc1_m14]; rfl) rfl ?_
    refine hl_lload_n (i := 3) d250_89 rfl rfl ?_
    refine hl_lconst (x := 0) d250_90 (by decide) ?_
    refine hl_lc_ne (tg := 99) d250_91 d250_92 rfl (fun hc => ?_) (fun hc => ?_)
    · have h := hl_neg hc h
      refine hl_lload_n (i := 1) d250_99 rfl rfl ?_
      refine hl_lload_n (i := 3) d250_100 rfl rfl ?_
      obtain ⟨x1, hx1, h⟩ := hl_bind h
      refine hl_cSl (D := (D + 1)) (z := y251) (n := 2) (av := [.long v1, .long v3]) (st := []) d250_101 mlQu_241 rfl (Nat.le_of_ble_eq_true rfl) (Nat.le_of_ble_eq_true rfl) ((p_Math_floorDiv D v1 v3 σ hx1).dle (by omega)) ?_
      have h := Option.some.inj h
      subst h
      exact hl_lret d250_104 rfl
    · have h := hl_pos hc h
      refine hl_lconst (x := 0) d250_95 (by decide) ?_
      refine hl_goto (tg := 104) d250_96 rfl ?_
      have h := Option.some.inj h
      subst h
      exact hl_lret d250_104 rfl
  have h := hl_neg hc1_m14 h
  by_cases hc1_m13 : v0 = (-13)
  · have h := hl_pos hc1_m13 h
    refine hl_tabIn (off := 81) (tg := 82) d250_1 (by rw [hc1_m13]; decide) (by rw [hc1_m13]; decide) (by rw [hc1_m13]; rfl) rfl ?_
    refine hl_lload_n (i := 1) d250_82 rfl rfl ?_
    refine hl_lload_n (i := 3) d250_83 rfl rfl ?_
    refine hl_lmul d250_84 ?_
    refine hl_cSl (D := (D + 1)) (z := y252) (n := 1) (av := [.long (v1 * v3)]) (st := []) d250_85 mlQu_237 rfl (Nat.le_of_ble_eq_true rfl) (Nat.le_of_ble_eq_true rfl) ((p_Qu_held D (v1 * v3) σ rfl).dle (by omega)) ?_
    have h := Option.some.inj h
    subst h
    exact hl_lret d250_88 rfl
  have h := hl_neg hc1_m13 h
  by_cases hc1_m12 : v0 = (-12)
  · have h := hl_pos hc1_m12 h
    refine hl_tabIn (off := 74) (tg := 75) d250_1 (by rw [hc1_m12]; decide) (by rw [hc1_m12]; decide) (by rw [hc1_m12]; rfl) rfl ?_
    refine hl_lload_n (i := 1) d250_75 rfl rfl ?_
    refine hl_lload_n (i := 3) d250_76 rfl rfl ?_
    refine hl_lsub d250_77 ?_
    refine hl_cSl (D := (D + 1)) (z := y252) (n := 1) (av := [.long (v1 - v3)]) (st := []) d250_78 mlQu_237 rfl (Nat.le_of_ble_eq_true rfl) (Nat.le_of_ble_eq_true rfl) ((p_Qu_held D (v1 - v3) σ rfl).dle (by omega)) ?_
    have h := Option.some.inj h
    subst h
    exact hl_lret d250_81 rfl
  have h := hl_neg hc1_m12 h
  by_cases hc1_m11 : v0 = (-11)
  · have h := hl_pos hc1_m11 h
    refine hl_tabIn (off := 67) (tg := 68) d250_1 (by rw [hc1_m11]; decide) (by rw [hc1_m11]; decide) (by rw [hc1_m11]; rfl) rfl ?_
    refine hl_lload_n (i := 1) d250_68 rfl rfl ?_
    refine hl_lload_n (i := 3) d250_69 rfl rfl ?_
    refine hl_ladd d250_70 ?_
    refine hl_cSl (D := (D + 1)) (z := y252) (n := 1) (av := [.long (v1 + v3)]) (st := []) d250_71 mlQu_237 rfl (Nat.le_of_ble_eq_true rfl) (Nat.le_of_ble_eq_true rfl) ((p_Qu_held D (v1 + v3) σ rfl).dle (by omega)) ?_
    have h := Option.some.inj h
    subst h
    exact hl_lret d250_74 rfl
  have h := hl_neg hc1_m11 h
  by_cases hc1_m10 : v0 = (-10)
  · have h := hl_pos hc1_m10 h
    refine hl_tabIn (off := 61) (tg := 62) d250_1 (by rw [hc1_m10]; decide) (by rw [hc1_m10]; decide) (by rw [hc1_m10]; rfl) rfl ?_
    refine hl_lload_n (i := 1) d250_62 rfl rfl ?_
    refine hl_lload_n (i := 3) d250_63 rfl rfl ?_
    refine hl_cSl (D := (D + 1)) (z := y249) (n := 2) (av := [.long v1, .long v3]) (st := []) d250_64 mlQu_167 rfl (Nat.le_of_ble_eq_true rfl) (Nat.le_of_ble_eq_true rfl) ((p_Math_max_JJJ D v1 v3 σ rfl).dle (by omega)) ?_
    have h := Option.some.inj h
    subst h
    exact hl_lret d250_67 rfl
  have h := hl_neg hc1_m10 h
  by_cases hc1_m9 : v0 = (-9)
  · have h := hl_pos hc1_m9 h
    refine hl_tabIn (off := 55) (tg := 56) d250_1 (by rw [hc1_m9]; decide) (by rw [hc1_m9]; decide) (by rw [hc1_m9]; rfl) rfl ?_
    refine hl_lload_n (i := 1) d250_56 rfl rfl ?_
    refine hl_lload_n (i := 3) d250_57 rfl rfl ?_
    refine hl_cSl (D := (D + 1)) (z := y248) (n := 2) (av := [.long v1, .long v3]) (st := []) d250_58 mlQu_172 rfl (Nat.le_of_ble_eq_true rfl) (Nat.le_of_ble_eq_true rfl) ((p_Math_min_JJJ D v1 v3 σ rfl).dle (by omega)) ?_
    have h := Option.some.inj h
    subst h
    exact hl_lret d250_61 rfl
  have h := hl_neg hc1_m9 h
  refine hl_tabD (tg := 159) d250_1 (fun k g1 g2 e => by
        rcases (by omega : k = (-18) ∨ k = (-17) ∨ k = (-16) ∨ k = (-15) ∨ k = (-14) ∨ k = (-13) ∨ k = (-12) ∨ k = (-11) ∨ k = (-10) ∨ k = (-9)) with rfl | rfl | rfl | rfl | rfl | rfl | rfl | rfl | rfl | rfl
        · exact hc1_m18 (Int32.toInt_inj.mp (e.trans (by decide)))
        · exact hc1_m17 (Int32.toInt_inj.mp (e.trans (by decide)))
        · exact hc1_m16 (Int32.toInt_inj.mp (e.trans (by decide)))
        · exact hc1_m15 (Int32.toInt_inj.mp (e.trans (by decide)))
        · exact hc1_m14 (Int32.toInt_inj.mp (e.trans (by decide)))
        · exact hc1_m13 (Int32.toInt_inj.mp (e.trans (by decide)))
        · exact hc1_m12 (Int32.toInt_inj.mp (e.trans (by decide)))
        · exact hc1_m11 (Int32.toInt_inj.mp (e.trans (by decide)))
        · exact hc1_m10 (Int32.toInt_inj.mp (e.trans (by decide)))
        · exact hc1_m9 (Int32.toInt_inj.mp (e.trans (by decide)))
      ) rfl ?_
  refine hl_lload_n (i := 1) d250_159 rfl rfl ?_
  refine hl_lconst (x := 0) d250_160 (by decide) ?_
  refine hl_lc_ne (tg := 171) d250_161 d250_162 rfl (fun hc => ?_) (fun hc => ?_)
  · have h := hl_neg hc h
    refine hl_lconst (x := 1) d250_171 (by decide) ?_
    refine hl_goto (tg := 176) d250_172 rfl ?_
    have h := Option.some.inj h
    subst h
    exact hl_lret d250_176 rfl
  · have h := hl_pos hc h
    refine hl_lload_n (i := 3) d250_165 rfl rfl ?_
    refine hl_lconst (x := 0) d250_166 (by decide) ?_
    refine hl_lc_eq (tg := 175) d250_167 d250_168 rfl (fun hc => ?_) (fun hc => ?_)
    · have h := hl_pos hc h
      refine hl_lconst (x := 0) d250_175 (by decide) ?_
      have h := Option.some.inj h
      subst h
      exact hl_lret d250_176 rfl
    · have h := hl_neg hc h
      refine hl_lconst (x := 1) d250_171 (by decide) ?_
      refine hl_goto (tg := 176) d250_172 rfl ?_
      have h := Option.some.inj h
      subst h
      exact hl_lret d250_176 rfl
def f_Qu_valueIn_L16 (v1 : Int32) (s : Int32 × hl_M) : Option ((Int32 × hl_M) ⊕ (hl_M)) :=
  if (s.2.1 55 6) ≤ s.1 then
  some (.inr s.2) else
  if 1600 ≤ s.1 then
  some (.inr s.2) else
  if hl_b s.1 1600 then
  if (s.2.1 56 s.1.toNatClampNeg) < 0 then
  if ((-9)) < (s.2.1 56 s.1.toNatClampNeg) then
  if ((-5)) < (s.2.1 56 s.1.toNatClampNeg) then
  (f_Qu_seen (s.2.1 56 s.1.toNatClampNeg) v1 s.2).bind fun x2 =>
  (f_Qu_push x2 s.2).bind fun x3 =>
  some (.inl ((s.1 + 1, x3))) else
  (f_Qu_pop s.2).bind fun x4 =>
  (f_Qu_found (s.2.1 56 s.1.toNatClampNeg) x4.1 v1 x4.2).bind fun x5 =>
  (f_Qu_push x5 x4.2).bind fun x6 =>
  some (.inl ((s.1 + 1, x6))) else
  (f_Qu_pop s.2).bind fun x7 =>
  (f_Qu_pop x7.2).bind fun x8 =>
  (f_Qu_joined (s.2.1 56 s.1.toNatClampNeg) x8.1 x7.1).bind fun x9 =>
  (f_Qu_push x9 x8.2).bind fun x10 =>
  some (.inl ((s.1 + 1, x10))) else
  (f_Qu_push ((s.2.1 56 s.1.toNatClampNeg).toInt64) s.2).bind fun x11 =>
  some (.inl ((s.1 + 1, x11))) else none
def f_Qu_valueIn (v1 : Int32) (σ : hl_M) : Option (Int64 × hl_M) :=
  (f_Vw_look v1 ((-1)) σ).bind fun x1 =>
  (hl_lp (f_Qu_valueIn_L16 v1) hl_big ((0, hl_si x1 55 7 0))).bind fun x12 =>
  (f_Qu_pop x12).bind fun x13 =>
  some ((x13.1, x13.2))
set_option maxRecDepth 20000 in
theorem p_Qu_valueIn_L16 {X : hl_X} (D : Nat) (v1 : Int32) (s : Int32 × hl_M) {o : (Int32 × hl_M) ⊕ (hl_M)} {v : Option Value} {τ : hl_M} (h : f_Qu_valueIn_L16 v1 s = some o) (k1 : ∀ (c0 : Int32) (c1 : hl_M), o = .inl ((c0, c1)) → hl_R X (D + 5) y243 16 [(0, .ref 55), (1, .int v1), (2, .int c0)] [] c1 v τ) (k2 : ∀ (a0 : hl_M), o = .inr a0 → hl_R X (D + 5) y243 125 [(0, .ref 55)] [] a0 v τ) : hl_R X (D + 5) y243 16 [(0, .ref 55), (1, .int v1), (2, .int s.1)] [] s.2 v τ := by
  unfold f_Qu_valueIn_L16 at h
  refine hl_iload_n (i := 2) d243_16 rfl rfl ?_
  refine hl_aload_n (i := 0) d243_17 rfl rfl (by decide) ?_
  refine hl_gi d243_18 gQu_35_55 ?_
  refine hl_icmp_ge (tg := 125) d243_21 rfl (fun hc => ?_) (fun hc => ?_)
  · have h := hl_pos hc h
    have h := Option.some.inj h
    subst h
    exact hl_loc (k2 s.2 rfl) ⟨rfl, trivial⟩
  · have h := hl_neg hc h
    refine hl_iload_n (i := 2) d243_24 rfl rfl ?_
    refine hl_aload_n (i := 0) d243_25 rfl rfl (by decide) ?_
    refine hl_gr d243_26 gQu_9_55 ?_
    refine hl_alen d243_29 sh56 (by decide) kn1600 ?_
    refine hl_icmp_ge (tg := 125) d243_30 rfl (fun hc => ?_) (fun hc => ?_)
    · have h := hl_pos hc h
      have h := Option.some.inj h
      subst h
      exact hl_loc (k2 s.2 rfl) ⟨rfl, trivial⟩
    · have h := hl_neg hc h
      refine hl_aload_n (i := 0) d243_33 rfl rfl (by decide) ?_
      refine hl_gr d243_34 gQu_9_55 ?_
      refine hl_iload_n (i := 2) d243_37 rfl rfl ?_
      obtain ⟨hb, h⟩ := hl_gd h
      refine hl_iald d243_38 sh56 (hl_b_in hb) ?_
      refine hl_istore_n (i := 3) (ls2 := [(3, .int (s.2.1 56 s.1.toNatClampNeg)), (0, .ref 55), (1, .int v1), (2, .int s.1)]) d243_39 rfl (by decide) rfl ?_
      refine hl_iload_n (i := 3) d243_40 rfl rfl ?_
      refine hl_if_lt (tg := 53) d243_41 rfl (fun hc => ?_) (fun hc => ?_)
      · have h := hl_pos hc h
        refine hl_iload_n (i := 3) d243_53 rfl rfl ?_
        refine hl_bipush d243_54 kbm9 ?_
        refine hl_icmp_gt (tg := 86) d243_56 rfl (fun hc => ?_) (fun hc => ?_)
        · have h := hl_pos hc h
          refine hl_iload_n (i := 3) d243_86 rfl rfl ?_
          refine hl_bipush d243_87 kbm5 ?_
          refine hl_icmp_gt (tg := 109) d243_89 rfl (fun hc => ?_) (fun hc => ?_)
          · have h := hl_pos hc h
            refine hl_aload_n (i := 0) d243_109 rfl rfl (by decide) ?_
            refine hl_aload_n (i := 0) d243_110 rfl rfl (by decide) ?_
            refine hl_iload_n (i := 3) d243_111 rfl rfl ?_
            refine hl_iload_n (i := 1) d243_112 rfl rfl ?_
            obtain ⟨x2, hx2, h⟩ := hl_bind h
            refine hl_cVl (D := (D + 4)) (z := y244) (n := 2) (av := [.int (s.2.1 56 s.1.toNatClampNeg), .int v1]) (st := [.ref 55]) d243_113 mlQu_198 rfl (Nat.le_of_ble_eq_true rfl) (Nat.le_of_ble_eq_true rfl) rc55 ((p_Qu_seen D (s.2.1 56 s.1.toNatClampNeg) v1 s.2 hx2).dle (by omega)) ?_
            obtain ⟨x3, hx3, h⟩ := hl_bind h
            refine hl_cVv (D := (D + 4)) (z := y245) (n := 1) (av := [.long x2]) (st := []) d243_116 mlQu_182 rfl (Nat.le_of_ble_eq_true rfl) (Nat.le_of_ble_eq_true rfl) rc55 ((p_Qu_push D x2 s.2 hx3).dle (by omega)) ?_
            refine hl_iinc (ls2 := [(2, .int (s.1 + 1)), (3, .int (s.2.1 56 s.1.toNatClampNeg)), (0, .ref 55), (1, .int v1)]) d243_119 rfl kx1 (by decide) rfl ?_
            refine hl_goto (tg := 16) d243_122 rfl ?_
            have h := Option.some.inj h
            subst h
            exact hl_loc (k1 (s.1 + 1) x3 rfl) ⟨rfl, rfl, rfl, trivial⟩
          · have h := hl_neg hc h
            refine hl_aload_n (i := 0) d243_92 rfl rfl (by decide) ?_
            refine hl_aload_n (i := 0) d243_93 rfl rfl (by decide) ?_
            refine hl_iload_n (i := 3) d243_94 rfl rfl ?_
            refine hl_aload_n (i := 0) d243_95 rfl rfl (by decide) ?_
            obtain ⟨x4, hx4, h⟩ := hl_bind h
            refine hl_cVl (D := (D + 4)) (z := y246) (n := 0) (av := []) (st := [.int (s.2.1 56 s.1.toNatClampNeg), .ref 55, .ref 55]) d243_96 mlQu_186 rfl (Nat.le_of_ble_eq_true rfl) (Nat.le_of_ble_eq_true rfl) rc55 ((p_Qu_pop D s.2 hx4).dle (by omega)) ?_
            refine hl_iload_n (i := 1) d243_99 rfl rfl ?_
            obtain ⟨x5, hx5, h⟩ := hl_bind h
            refine hl_cVl (D := (D + 4)) (z := y247) (n := 3) (av := [.int (s.2.1 56 s.1.toNatClampNeg), .long x4.1, .int v1]) (st := [.ref 55]) d243_100 mlQu_194 rfl (Nat.le_of_ble_eq_true rfl) (Nat.le_of_ble_eq_true rfl) rc55 ((p_Qu_found D (s.2.1 56 s.1.toNatClampNeg) x4.1 v1 x4.2 hx5).dle (by omega)) ?_
            obtain ⟨x6, hx6, h⟩ := hl_bind h
            refine hl_cVv (D := (D + 4)) (z := y245) (n := 1) (av := [.long x5]) (st := []) d243_103 mlQu_182 rfl (Nat.le_of_ble_eq_true rfl) (Nat.le_of_ble_eq_true rfl) rc55 ((p_Qu_push D x5 x4.2 hx6).dle (by omega)) ?_
            refine hl_goto (tg := 119) d243_106 rfl ?_
            refine hl_iinc (ls2 := [(2, .int (s.1 + 1)), (3, .int (s.2.1 56 s.1.toNatClampNeg)), (0, .ref 55), (1, .int v1)]) d243_119 rfl kx1 (by decide) rfl ?_
            refine hl_goto (tg := 16) d243_122 rfl ?_
            have h := Option.some.inj h
            subst h
            exact hl_loc (k1 (s.1 + 1) x6 rfl) ⟨rfl, rfl, rfl, trivial⟩
        · have h := hl_neg hc h
          refine hl_aload_n (i := 0) d243_59 rfl rfl (by decide) ?_
          obtain ⟨x7, hx7, h⟩ := hl_bind h
          refine hl_cVl (D := (D + 4)) (z := y246) (n := 0) (av := []) (st := []) d243_60 mlQu_186 rfl (Nat.le_of_ble_eq_true rfl) (Nat.le_of_ble_eq_true rfl) rc55 ((p_Qu_pop D s.2 hx7).dle (by omega)) ?_
          refine hl_lstore (ls2 := [(4, .long x7.1), (3, .int (s.2.1 56 s.1.toNatClampNeg)), (0, .ref 55), (1, .int v1), (2, .int s.1)]) d243_63 (by decide) rfl ?_
          refine hl_aload_n (i := 0) d243_65 rfl rfl (by decide) ?_
          obtain ⟨x8, hx8, h⟩ := hl_bind h
          refine hl_cVl (D := (D + 4)) (z := y246) (n := 0) (av := []) (st := []) d243_66 mlQu_186 rfl (Nat.le_of_ble_eq_true rfl) (Nat.le_of_ble_eq_true rfl) rc55 ((p_Qu_pop D x7.2 hx8).dle (by omega)) ?_
          refine hl_lstore (ls2 := [(6, .long x8.1), (4, .long x7.1), (3, .int (s.2.1 56 s.1.toNatClampNeg)), (0, .ref 55), (1, .int v1), (2, .int s.1)]) d243_69 (by decide) rfl ?_
          refine hl_aload_n (i := 0) d243_71 rfl rfl (by decide) ?_
          refine hl_iload_n (i := 3) d243_72 rfl rfl ?_
          refine hl_lload d243_73 rfl ?_
          refine hl_lload d243_75 rfl ?_
          obtain ⟨x9, hx9, h⟩ := hl_bind h
          refine hl_cSl (D := (D + 4)) (z := y250) (n := 3) (av := [.int (s.2.1 56 s.1.toNatClampNeg), .long x8.1, .long x7.1]) (st := [.ref 55]) d243_77 mlQu_190 rfl (Nat.le_of_ble_eq_true rfl) (Nat.le_of_ble_eq_true rfl) ((p_Qu_joined D (s.2.1 56 s.1.toNatClampNeg) x8.1 x7.1 x8.2 hx9).dle (by omega)) ?_
          obtain ⟨x10, hx10, h⟩ := hl_bind h
          refine hl_cVv (D := (D + 4)) (z := y245) (n := 1) (av := [.long x9]) (st := []) d243_80 mlQu_182 rfl (Nat.le_of_ble_eq_true rfl) (Nat.le_of_ble_eq_true rfl) rc55 ((p_Qu_push D x9 x8.2 hx10).dle (by omega)) ?_
          refine hl_goto (tg := 119) d243_83 rfl ?_
          refine hl_iinc (ls2 := [(2, .int (s.1 + 1)), (6, .long x8.1), (4, .long x7.1), (3, .int (s.2.1 56 s.1.toNatClampNeg)), (0, .ref 55), (1, .int v1)]) d243_119 rfl kx1 (by decide) rfl ?_
          refine hl_goto (tg := 16) d243_122 rfl ?_
          have h := Option.some.inj h
          subst h
          exact hl_loc (k1 (s.1 + 1) x10 rfl) ⟨rfl, rfl, rfl, trivial⟩
      · have h := hl_neg hc h
        refine hl_aload_n (i := 0) d243_44 rfl rfl (by decide) ?_
        refine hl_iload_n (i := 3) d243_45 rfl rfl ?_
        refine hl_i2l d243_46 ?_
        obtain ⟨x11, hx11, h⟩ := hl_bind h
        refine hl_cVv (D := (D + 4)) (z := y245) (n := 1) (av := [.long ((s.2.1 56 s.1.toNatClampNeg).toInt64)]) (st := []) d243_47 mlQu_182 rfl (Nat.le_of_ble_eq_true rfl) (Nat.le_of_ble_eq_true rfl) rc55 ((p_Qu_push D ((s.2.1 56 s.1.toNatClampNeg).toInt64) s.2 hx11).dle (by omega)) ?_
        refine hl_goto (tg := 119) d243_50 rfl ?_
        refine hl_iinc (ls2 := [(2, .int (s.1 + 1)), (3, .int (s.2.1 56 s.1.toNatClampNeg)), (0, .ref 55), (1, .int v1)]) d243_119 rfl kx1 (by decide) rfl ?_
        refine hl_goto (tg := 16) d243_122 rfl ?_
        have h := Option.some.inj h
        subst h
        exact hl_loc (k1 (s.1 + 1) x11 rfl) ⟨rfl, rfl, rfl, trivial⟩
set_option maxRecDepth 20000 in
theorem p_Qu_valueIn {X : hl_X} (D : Nat) (v1 : Int32) (σ : hl_M) {r : Int64} {τ : hl_M} (h : f_Qu_valueIn v1 σ = some (r, τ)) : hl_R X (D + 5) y243 0 [(0, .ref 55), (1, .int v1)] [] σ (some (.long r)) τ := by
  unfold f_Qu_valueIn at h
  refine hl_aload_n (i := 0) d243_0 rfl rfl (by decide) ?_
  refine hl_gr d243_1 gQu_31_55 ?_
  refine hl_iload_n (i := 1) d243_4 rfl rfl ?_
  refine hl_iconst d243_5 kim1 ?_
  obtain ⟨x1, hx1, h⟩ := hl_bind h
  refine hl_cVv (D := (D + 4)) (z := y103) (n := 2) (av := [.int v1, .int ((-1))]) (st := []) d243_6 mlQu_174 rfl (Nat.le_of_ble_eq_true rfl) (Nat.le_of_ble_eq_true rfl) rc37 ((p_Vw_look D v1 ((-1)) σ hx1).dle (by omega)) ?_
  refine hl_aload_n (i := 0) d243_9 rfl rfl (by decide) ?_
  refine hl_iconst d243_10 ki0 ?_
  refine hl_pi d243_11 qQu_179_55 ?_
  refine hl_iconst d243_14 ki0 ?_
  refine hl_istore_n (i := 2) (ls2 := [(2, .int 0), (0, .ref 55), (1, .int v1)]) d243_15 rfl (by decide) rfl ?_
  obtain ⟨x12, hx12, h⟩ := hl_bind h
  refine hl_R.loc (ls' := [(0, .ref 55), (1, .int v1), (2, .int 0)]) ⟨rfl, rfl, rfl, trivial⟩ ?_
  refine hl_lp_run2 (P := fun (c0 : Int32) (c1 : hl_M) => hl_R X (D + 5) y243 16 [(0, .ref 55), (1, .int v1), (2, .int c0)] [] c1 (some (.long r)) τ) (fun x : hl_M => hl_R X (D + 5) y243 125 [(0, .ref 55)] [] x (some (.long r)) τ) (fun c0 c1 o ho h1 h2 => p_Qu_valueIn_L16 D v1 (c0, c1) ho h1 (fun a0 e => h2 a0 e)) hl_big 0 (hl_si x1 55 7 0) x12 hx12 ?_
  refine hl_aload_n (i := 0) d243_125 rfl rfl (by decide) ?_
  obtain ⟨x13, hx13, h⟩ := hl_bind h
  refine hl_cVl (D := (D + 4)) (z := y246) (n := 0) (av := []) (st := []) d243_126 mlQu_186 rfl (Nat.le_of_ble_eq_true rfl) (Nat.le_of_ble_eq_true rfl) rc55 ((p_Qu_pop D x12 hx13).dle (by omega)) ?_
  obtain ⟨e1, e2⟩ := hl_some2 h
  subst e1; subst e2
  exact hl_lret d243_129 rfl
def f_Qu_answer_j62 (v1 : Int32) (v2 : Int32) (v3 : Int32) (v4 : Int64) (v6 : Int64) (v8 : Int64) (v10 : Int32) (v11 : Int64) (σ : hl_M) : Option ((Int32 × Int32 × Int32 × Int64 × Int64 × Int64 × Int32 × hl_M) ⊕ (Int32 × Int32 × Int32 × Int64 × Int64 × Int64 × hl_M)) :=
  some (.inl ((v1, v2, v3, v4 + v11, f_Math_max_JJJ v6 v11, f_Math_min_JJJ v8 v11, v10 + 1, σ)))
def f_Qu_answer_L23 (s : Int32 × Int32 × Int32 × Int64 × Int64 × Int64 × Int32 × hl_M) : Option ((Int32 × Int32 × Int32 × Int64 × Int64 × Int64 × Int32 × hl_M) ⊕ (Int32 × Int32 × Int32 × Int64 × Int64 × Int64 × hl_M)) :=
  if 100 ≤ s.2.2.2.2.2.2.1 then
  some (.inr (((s.1, s.2.1, s.2.2.1, s.2.2.2.1, s.2.2.2.2.1, s.2.2.2.2.2.1, s.2.2.2.2.2.2.2)))) else
  (f_Qu_valueIn s.2.2.2.2.2.2.1 s.2.2.2.2.2.2.2).bind fun x2 =>
  if x2.1 = 0 then
  f_Qu_answer_j62 s.1 s.2.1 s.2.2.1 s.2.2.2.1 s.2.2.2.2.1 s.2.2.2.2.2.1 s.2.2.2.2.2.2.1 x2.1 x2.2 else
  if s.2.2.1 = 0 then
  f_Qu_answer_j62 s.2.2.2.2.2.2.1 s.2.2.2.2.2.2.1 (s.2.2.1 + 1) s.2.2.2.1 s.2.2.2.2.1 s.2.2.2.2.2.1 s.2.2.2.2.2.2.1 x2.1 x2.2 else
  f_Qu_answer_j62 s.1 s.2.2.2.2.2.2.1 (s.2.2.1 + 1) s.2.2.2.1 s.2.2.2.2.1 s.2.2.2.2.2.1 s.2.2.2.2.2.2.1 x2.1 x2.2
def f_Qu_answer (σ : hl_M) : Option (Int64 × hl_M) :=
  (f_Qu_valueIn 0 σ).bind fun x1 =>
  (hl_lp (f_Qu_answer_L23) hl_big (((-1), (-1), 0, 0, x1.1, x1.1, 0, x1.2))).bind fun x3 =>
  if (x3.2.2.2.2.2.2.1 55 9) = 1 then
  some ((x3.1.toInt64, x3.2.2.2.2.2.2)) else
  if (x3.2.2.2.2.2.2.1 55 9) = 2 then
  some ((x3.2.1.toInt64, x3.2.2.2.2.2.2)) else
  if (x3.2.2.2.2.2.2.1 55 9) = 3 then
  some ((x3.2.2.1.toInt64, x3.2.2.2.2.2.2)) else
  if (x3.2.2.2.2.2.2.1 55 9) = 4 then
  some ((x3.2.2.2.1, x3.2.2.2.2.2.2)) else
  if (x3.2.2.2.2.2.2.1 55 9) = 5 then
  some ((x3.2.2.2.2.1, x3.2.2.2.2.2.2)) else
  some ((x3.2.2.2.2.2.1, x3.2.2.2.2.2.2))
set_option maxRecDepth 20000 in
theorem p_Qu_answer_j62 {X : hl_X} (D : Nat) (v1 : Int32) (v2 : Int32) (v3 : Int32) (v4 : Int64) (v6 : Int64) (v8 : Int64) (v10 : Int32) (v11 : Int64) (σ : hl_M) {o : (Int32 × Int32 × Int32 × Int64 × Int64 × Int64 × Int32 × hl_M) ⊕ (Int32 × Int32 × Int32 × Int64 × Int64 × Int64 × hl_M)} {v : Option Value} {τ : hl_M} (h : f_Qu_answer_j62 v1 v2 v3 v4 v6 v8 v10 v11 σ = some o) (k1 : ∀ (c0 : Int32) (c1 : Int32) (c2 : Int32) (c3 : Int64) (c4 : Int64) (c5 : Int64) (c6 : Int32) (c7 : hl_M), o = .inl ((c0, c1, c2, c3, c4, c5, c6, c7)) → hl_R X (D + 6) y242 23 [(0, .ref 55), (1, .int c0), (2, .int c1), (3, .int c2), (4, .long c3), (6, .long c4), (8, .long c5), (10, .int c6)] [] c7 v τ) (k2 : ∀ (a0 : Int32) (a1 : Int32) (a2 : Int32) (a3 : Int64) (a4 : Int64) (a5 : Int64) (a6 : hl_M), o = .inr ((a0, a1, a2, a3, a4, a5, a6)) → hl_R X (D + 6) y242 93 [(0, .ref 55), (1, .int a0), (2, .int a1), (3, .int a2), (4, .long a3), (6, .long a4), (8, .long a5)] [] a6 v τ) : hl_R X (D + 6) y242 62 [(0, .ref 55), (1, .int v1), (2, .int v2), (3, .int v3), (4, .long v4), (6, .long v6), (8, .long v8), (10, .int v10), (11, .long v11)] [] σ v τ := by
  unfold f_Qu_answer_j62 at h
  refine hl_lload d242_62 rfl ?_
  refine hl_lload d242_64 rfl ?_
  refine hl_ladd d242_66 ?_
  refine hl_lstore (ls2 := [(4, .long (v4 + v11)), (0, .ref 55), (1, .int v1), (2, .int v2), (3, .int v3), (6, .long v6), (8, .long v8), (10, .int v10), (11, .long v11)]) d242_67 (by decide) rfl ?_
  refine hl_lload d242_69 rfl ?_
  refine hl_lload d242_71 rfl ?_
  refine hl_cSl (D := (D + 5)) (z := y249) (n := 2) (av := [.long v6, .long v11]) (st := []) d242_73 mlQu_167 rfl (Nat.le_of_ble_eq_true rfl) (Nat.le_of_ble_eq_true rfl) ((p_Math_max_JJJ D v6 v11 σ rfl).dle (by omega)) ?_
  refine hl_lstore (ls2 := [(6, .long (f_Math_max_JJJ v6 v11)), (4, .long (v4 + v11)), (0, .ref 55), (1, .int v1), (2, .int v2), (3, .int v3), (8, .long v8), (10, .int v10), (11, .long v11)]) d242_76 (by decide) rfl ?_
  refine hl_lload d242_78 rfl ?_
  refine hl_lload d242_80 rfl ?_
  refine hl_cSl (D := (D + 5)) (z := y248) (n := 2) (av := [.long v8, .long v11]) (st := []) d242_82 mlQu_172 rfl (Nat.le_of_ble_eq_true rfl) (Nat.le_of_ble_eq_true rfl) ((p_Math_min_JJJ D v8 v11 σ rfl).dle (by omega)) ?_
  refine hl_lstore (ls2 := [(8, .long (f_Math_min_JJJ v8 v11)), (6, .long (f_Math_max_JJJ v6 v11)), (4, .long (v4 + v11)), (0, .ref 55), (1, .int v1), (2, .int v2), (3, .int v3), (10, .int v10), (11, .long v11)]) d242_85 (by decide) rfl ?_
  refine hl_iinc (ls2 := [(10, .int (v10 + 1)), (8, .long (f_Math_min_JJJ v8 v11)), (6, .long (f_Math_max_JJJ v6 v11)), (4, .long (v4 + v11)), (0, .ref 55), (1, .int v1), (2, .int v2), (3, .int v3), (11, .long v11)]) d242_87 rfl kx1 (by decide) rfl ?_
  refine hl_goto (tg := 23) d242_90 rfl ?_
  have h := Option.some.inj h
  subst h
  exact hl_loc (k1 v1 v2 v3 (v4 + v11) (f_Math_max_JJJ v6 v11) (f_Math_min_JJJ v8 v11) (v10 + 1) σ rfl) ⟨rfl, rfl, rfl, rfl, rfl, rfl, rfl, rfl, trivial⟩
set_option maxRecDepth 20000 in
theorem p_Qu_answer_L23 {X : hl_X} (D : Nat) (s : Int32 × Int32 × Int32 × Int64 × Int64 × Int64 × Int32 × hl_M) {o : (Int32 × Int32 × Int32 × Int64 × Int64 × Int64 × Int32 × hl_M) ⊕ (Int32 × Int32 × Int32 × Int64 × Int64 × Int64 × hl_M)} {v : Option Value} {τ : hl_M} (h : f_Qu_answer_L23 s = some o) (k1 : ∀ (c0 : Int32) (c1 : Int32) (c2 : Int32) (c3 : Int64) (c4 : Int64) (c5 : Int64) (c6 : Int32) (c7 : hl_M), o = .inl ((c0, c1, c2, c3, c4, c5, c6, c7)) → hl_R X (D + 6) y242 23 [(0, .ref 55), (1, .int c0), (2, .int c1), (3, .int c2), (4, .long c3), (6, .long c4), (8, .long c5), (10, .int c6)] [] c7 v τ) (k2 : ∀ (a0 : Int32) (a1 : Int32) (a2 : Int32) (a3 : Int64) (a4 : Int64) (a5 : Int64) (a6 : hl_M), o = .inr ((a0, a1, a2, a3, a4, a5, a6)) → hl_R X (D + 6) y242 93 [(0, .ref 55), (1, .int a0), (2, .int a1), (3, .int a2), (4, .long a3), (6, .long a4), (8, .long a5)] [] a6 v τ) : hl_R X (D + 6) y242 23 [(0, .ref 55), (1, .int s.1), (2, .int s.2.1), (3, .int s.2.2.1), (4, .long s.2.2.2.1), (6, .long s.2.2.2.2.1), (8, .long s.2.2.2.2.2.1), (10, .int s.2.2.2.2.2.2.1)] [] s.2.2.2.2.2.2.2 v τ := by
  unfold f_Qu_answer_L23 at h
  refine hl_iload d242_23 rfl ?_
  refine hl_bipush d242_25 kb100 ?_
  refine hl_icmp_ge (tg := 93) d242_27 rfl (fun hc => ?_) (fun hc => ?_)
  · have h := hl_pos hc h
    have h := Option.some.inj h
    subst h
    exact hl_loc (k2 s.1 s.2.1 s.2.2.1 s.2.2.2.1 s.2.2.2.2.1 s.2.2.2.2.2.1 s.2.2.2.2.2.2.2 rfl) ⟨rfl, rfl, rfl, rfl, rfl, rfl, rfl, trivial⟩
  · have h := hl_neg hc h
    refine hl_aload_n (i := 0) d242_30 rfl rfl (by decide) ?_
    refine hl_iload d242_31 rfl ?_
    obtain ⟨x2, hx2, h⟩ := hl_bind h
    refine hl_cVl (D := (D + 5)) (z := y243) (n := 1) (av := [.int s.2.2.2.2.2.2.1]) (st := []) d242_33 mlQu_163 rfl (Nat.le_of_ble_eq_true rfl) (Nat.le_of_ble_eq_true rfl) rc55 ((p_Qu_valueIn D s.2.2.2.2.2.2.1 s.2.2.2.2.2.2.2 hx2).dle (by omega)) ?_
    refine hl_lstore (ls2 := [(11, .long x2.1), (0, .ref 55), (1, .int s.1), (2, .int s.2.1), (3, .int s.2.2.1), (4, .long s.2.2.2.1), (6, .long s.2.2.2.2.1), (8, .long s.2.2.2.2.2.1), (10, .int s.2.2.2.2.2.2.1)]) d242_36 (by decide) rfl ?_
    refine hl_lload d242_38 rfl ?_
    refine hl_lconst (x := 0) d242_40 (by decide) ?_
    refine hl_lc_eq (tg := 62) d242_41 d242_42 rfl (fun hc => ?_) (fun hc => ?_)
    · have h := hl_pos hc h
      exact hl_loc (p_Qu_answer_j62 D s.1 s.2.1 s.2.2.1 s.2.2.2.1 s.2.2.2.2.1 s.2.2.2.2.2.1 s.2.2.2.2.2.2.1 x2.1 x2.2 h k1 k2) ⟨rfl, rfl, rfl, rfl, rfl, rfl, rfl, rfl, rfl, trivial⟩
    · have h := hl_neg hc h
      refine hl_iload_n (i := 3) d242_45 rfl rfl ?_
      refine hl_if_ne (tg := 54) d242_46 rfl (fun hc => ?_) (fun hc => ?_)
      · have h := hl_neg hc h
        refine hl_iload_n (i := 1) d242_54 rfl rfl ?_
        refine hl_istore_n (i := 1) (ls2 := [(1, .int s.1), (11, .long x2.1), (0, .ref 55), (2, .int s.2.1), (3, .int s.2.2.1), (4, .long s.2.2.2.1), (6, .long s.2.2.2.2.1), (8, .long s.2.2.2.2.2.1), (10, .int s.2.2.2.2.2.2.1)]) d242_55 rfl (by decide) rfl ?_
        refine hl_iload d242_56 rfl ?_
        refine hl_istore_n (i := 2) (ls2 := [(2, .int s.2.2.2.2.2.2.1), (1, .int s.1), (11, .long x2.1), (0, .ref 55), (3, .int s.2.2.1), (4, .long s.2.2.2.1), (6, .long s.2.2.2.2.1), (8, .long s.2.2.2.2.2.1), (10, .int s.2.2.2.2.2.2.1)]) d242_58 rfl (by decide) rfl ?_
        refine hl_iinc (ls2 := [(3, .int (s.2.2.1 + 1)), (2, .int s.2.2.2.2.2.2.1), (1, .int s.1), (11, .long x2.1), (0, .ref 55), (4, .long s.2.2.2.1), (6, .long s.2.2.2.2.1), (8, .long s.2.2.2.2.2.1), (10, .int s.2.2.2.2.2.2.1)]) d242_59 rfl kx1 (by decide) rfl ?_
        exact hl_loc (p_Qu_answer_j62 D s.1 s.2.2.2.2.2.2.1 (s.2.2.1 + 1) s.2.2.2.1 s.2.2.2.2.1 s.2.2.2.2.2.1 s.2.2.2.2.2.2.1 x2.1 x2.2 h k1 k2) ⟨rfl, rfl, rfl, rfl, rfl, rfl, rfl, rfl, rfl, trivial⟩
      · have h := hl_pos hc h
        refine hl_iload d242_49 rfl ?_
        refine hl_goto (tg := 55) d242_51 rfl ?_
        refine hl_istore_n (i := 1) (ls2 := [(1, .int s.2.2.2.2.2.2.1), (11, .long x2.1), (0, .ref 55), (2, .int s.2.1), (3, .int s.2.2.1), (4, .long s.2.2.2.1), (6, .long s.2.2.2.2.1), (8, .long s.2.2.2.2.2.1), (10, .int s.2.2.2.2.2.2.1)]) d242_55 rfl (by decide) rfl ?_
        refine hl_iload d242_56 rfl ?_
        refine hl_istore_n (i := 2) (ls2 := [(2, .int s.2.2.2.2.2.2.1), (1, .int s.2.2.2.2.2.2.1), (11, .long x2.1), (0, .ref 55), (3, .int s.2.2.1), (4, .long s.2.2.2.1), (6, .long s.2.2.2.2.1), (8, .long s.2.2.2.2.2.1), (10, .int s.2.2.2.2.2.2.1)]) d242_58 rfl (by decide) rfl ?_
        refine hl_iinc (ls2 := [(3, .int (s.2.2.1 + 1)), (2, .int s.2.2.2.2.2.2.1), (1, .int s.2.2.2.2.2.2.1), (11, .long x2.1), (0, .ref 55), (4, .long s.2.2.2.1), (6, .long s.2.2.2.2.1), (8, .long s.2.2.2.2.2.1), (10, .int s.2.2.2.2.2.2.1)]) d242_59 rfl kx1 (by decide) rfl ?_
        exact hl_loc (p_Qu_answer_j62 D s.2.2.2.2.2.2.1 s.2.2.2.2.2.2.1 (s.2.2.1 + 1) s.2.2.2.1 s.2.2.2.2.1 s.2.2.2.2.2.1 s.2.2.2.2.2.2.1 x2.1 x2.2 h k1 k2) ⟨rfl, rfl, rfl, rfl, rfl, rfl, rfl, rfl, rfl, trivial⟩
set_option maxRecDepth 20000 in
theorem p_Qu_answer {X : hl_X} (D : Nat) (σ : hl_M) {r : Int64} {τ : hl_M} (h : f_Qu_answer σ = some (r, τ)) : hl_R X (D + 6) y242 0 [(0, .ref 55)] [] σ (some (.long r)) τ := by
  unfold f_Qu_answer at h
  refine hl_iconst d242_0 kim1 ?_
  refine hl_istore_n (i := 1) (ls2 := [(1, .int ((-1))), (0, .ref 55)]) d242_1 rfl (by decide) rfl ?_
  refine hl_iconst d242_2 kim1 ?_
  refine hl_istore_n (i := 2) (ls2 := [(2, .int ((-1))), (1, .int ((-1))), (0, .ref 55)]) d242_3 rfl (by decide) rfl ?_
  refine hl_iconst d242_4 ki0 ?_
  refine hl_istore_n (i := 3) (ls2 := [(3, .int 0), (2, .int ((-1))), (1, .int ((-1))), (0, .ref 55)]) d242_5 rfl (by decide) rfl ?_
  refine hl_lconst (x := 0) d242_6 (by decide) ?_
  refine hl_lstore (ls2 := [(4, .long 0), (3, .int 0), (2, .int ((-1))), (1, .int ((-1))), (0, .ref 55)]) d242_7 (by decide) rfl ?_
  refine hl_aload_n (i := 0) d242_9 rfl rfl (by decide) ?_
  refine hl_iconst d242_10 ki0 ?_
  obtain ⟨x1, hx1, h⟩ := hl_bind h
  refine hl_cVl (D := (D + 5)) (z := y243) (n := 1) (av := [.int 0]) (st := []) d242_11 mlQu_163 rfl (Nat.le_of_ble_eq_true rfl) (Nat.le_of_ble_eq_true rfl) rc55 ((p_Qu_valueIn D 0 σ hx1).dle (by omega)) ?_
  refine hl_lstore (ls2 := [(6, .long x1.1), (4, .long 0), (3, .int 0), (2, .int ((-1))), (1, .int ((-1))), (0, .ref 55)]) d242_14 (by decide) rfl ?_
  refine hl_lload d242_16 rfl ?_
  refine hl_lstore (ls2 := [(8, .long x1.1), (6, .long x1.1), (4, .long 0), (3, .int 0), (2, .int ((-1))), (1, .int ((-1))), (0, .ref 55)]) d242_18 (by decide) rfl ?_
  refine hl_iconst d242_20 ki0 ?_
  refine hl_istore (ls2 := [(10, .int 0), (8, .long x1.1), (6, .long x1.1), (4, .long 0), (3, .int 0), (2, .int ((-1))), (1, .int ((-1))), (0, .ref 55)]) d242_21 (by decide) rfl ?_
  obtain ⟨x3, hx3, h⟩ := hl_bind h
  refine hl_R.loc (ls' := [(0, .ref 55), (1, .int ((-1))), (2, .int ((-1))), (3, .int 0), (4, .long 0), (6, .long x1.1), (8, .long x1.1), (10, .int 0)]) ⟨rfl, rfl, rfl, rfl, rfl, rfl, rfl, rfl, trivial⟩ ?_
  refine hl_lp_run8 (P := fun (c0 : Int32) (c1 : Int32) (c2 : Int32) (c3 : Int64) (c4 : Int64) (c5 : Int64) (c6 : Int32) (c7 : hl_M) => hl_R X (D + 6) y242 23 [(0, .ref 55), (1, .int c0), (2, .int c1), (3, .int c2), (4, .long c3), (6, .long c4), (8, .long c5), (10, .int c6)] [] c7 (some (.long r)) τ) (fun x : Int32 × Int32 × Int32 × Int64 × Int64 × Int64 × hl_M => hl_R X (D + 6) y242 93 [(0, .ref 55), (1, .int x.1), (2, .int x.2.1), (3, .int x.2.2.1), (4, .long x.2.2.2.1), (6, .long x.2.2.2.2.1), (8, .long x.2.2.2.2.2.1)] [] x.2.2.2.2.2.2 (some (.long r)) τ) (fun c0 c1 c2 c3 c4 c5 c6 c7 o ho h1 h2 => p_Qu_answer_L23 D (c0, c1, c2, c3, c4, c5, c6, c7) ho h1 (fun a0 a1 a2 a3 a4 a5 a6 e => h2 ((a0, a1, a2, a3, a4, a5, a6)) e)) hl_big ((-1)) ((-1)) 0 0 x1.1 x1.1 0 x1.2 x3 hx3 ?_
  refine hl_aload_n (i := 0) d242_93 rfl rfl (by decide) ?_
  refine hl_gi d242_94 gQu_51_55 ?_
  by_cases hc97_1 : (x3.2.2.2.2.2.2.1 55 9) = 1
  · have h := hl_pos hc97_1 h
    refine hl_tabIn (off := 35) (tg := 132) d242_97 (by rw [hc97_1]; decide) (by rw [hc97_1]; decide) (by rw [hc97_1]; rfl) rfl ?_
    refine hl_iload_n (i := 1) d242_132 rfl rfl ?_
    refine hl_i2l d242_133 ?_
    obtain ⟨e1, e2⟩ := hl_some2 h
    subst e1; subst e2
    exact hl_lret d242_134 rfl
  have h := hl_neg hc97_1 h
  by_cases hc97_2 : (x3.2.2.2.2.2.2.1 55 9) = 2
  · have h := hl_pos hc97_2 h
    refine hl_tabIn (off := 38) (tg := 135) d242_97 (by rw [hc97_2]; decide) (by rw [hc97_2]; decide) (by rw [hc97_2]; rfl) rfl ?_
    refine hl_iload_n (i := 2) d242_135 rfl rfl ?_
    refine hl_i2l d242_136 ?_
    obtain ⟨e1, e2⟩ := hl_some2 h
    subst e1; subst e2
    exact hl_lret d242_137 rfl
  have h := hl_neg hc97_2 h
  by_cases hc97_3 : (x3.2.2.2.2.2.2.1 55 9) = 3
  · have h := hl_pos hc97_3 h
    refine hl_tabIn (off := 41) (tg := 138) d242_97 (by rw [hc97_3]; decide) (by rw [hc97_3]; decide) (by rw [hc97_3]; rfl) rfl ?_
    refine hl_iload_n (i := 3) d242_138 rfl rfl ?_
    refine hl_i2l d242_139 ?_
    obtain ⟨e1, e2⟩ := hl_some2 h
    subst e1; subst e2
    exact hl_lret d242_140 rfl
  have h := hl_neg hc97_3 h
  by_cases hc97_4 : (x3.2.2.2.2.2.2.1 55 9) = 4
  · have h := hl_pos hc97_4 h
    refine hl_tabIn (off := 44) (tg := 141) d242_97 (by rw [hc97_4]; decide) (by rw [hc97_4]; decide) (by rw [hc97_4]; rfl) rfl ?_
    refine hl_lload d242_141 rfl ?_
    obtain ⟨e1, e2⟩ := hl_some2 h
    subst e1; subst e2
    exact hl_lret d242_143 rfl
  have h := hl_neg hc97_4 h
  by_cases hc97_5 : (x3.2.2.2.2.2.2.1 55 9) = 5
  · have h := hl_pos hc97_5 h
    refine hl_tabIn (off := 47) (tg := 144) d242_97 (by rw [hc97_5]; decide) (by rw [hc97_5]; decide) (by rw [hc97_5]; rfl) rfl ?_
    refine hl_lload d242_144 rfl ?_
    obtain ⟨e1, e2⟩ := hl_some2 h
    subst e1; subst e2
    exact hl_lret d242_146 rfl
  have h := hl_neg hc97_5 h
  refine hl_tabD (tg := 147) d242_97 (fun k g1 g2 e => by
        rcases (by omega : k = 1 ∨ k = 2 ∨ k = 3 ∨ k = 4 ∨ k = 5) with rfl | rfl | rfl | rfl | rfl
        · exact hc97_1 (Int32.toInt_inj.mp (e.trans (by decide)))
        · exact hc97_2 (Int32.toInt_inj.mp (e.trans (by decide)))
        · exact hc97_3 (Int32.toInt_inj.mp (e.trans (by decide)))
        · exact hc97_4 (Int32.toInt_inj.mp (e.trans (by decide)))
        · exact hc97_5 (Int32.toInt_inj.mp (e.trans (by decide)))
      ) rfl ?_
  refine hl_lload d242_147 rfl ?_
  obtain ⟨e1, e2⟩ := hl_some2 h
  subst e1; subst e2
  exact hl_lret d242_149 rfl
def f_X_ask (σ : hl_M) : Option (Int64 × hl_M) :=
  if (σ.1 4 0) = 0 then
  some (((-1000000000000000), hl_si σ 1 1 0)) else
  (f_Qu_understand σ).bind fun x1 =>
  if x1.1 = 0 then
  some (((-1000000000000000), hl_si x1.2 1 1 0)) else
  (f_Qu_answer (hl_si x1.2 1 1 0)).bind fun x2 =>
  some ((x2.1, x2.2))
set_option maxRecDepth 20000 in
theorem p_X_ask {X : hl_X} (D : Nat) (σ : hl_M) {r : Int64} {τ : hl_M} (h : f_X_ask σ = some (r, τ)) : hl_R X (D + 48) y228 0 [(0, .ref 0)] [] σ (some (.long r)) τ := by
  unfold f_X_ask at h
  refine hl_aload_n (i := 0) d228_0 rfl rfl (by decide) ?_
  refine hl_gr d228_1 gX_28_0 ?_
  refine hl_gi d228_4 gX_123_4 ?_
  refine hl_if_ne (tg := 22) d228_7 rfl (fun hc => ?_) (fun hc => ?_)
  · have h := hl_neg hc h
    refine hl_aload_n (i := 0) d228_22 rfl rfl (by decide) ?_
    refine hl_gr d228_23 gX_74_0 ?_
    obtain ⟨x1, hx1, h⟩ := hl_bind h
    refine hl_cVi (D := (D + 47)) (z := y229) (n := 0) (av := []) (st := []) d228_26 mlX_317 rfl (Nat.le_of_ble_eq_true rfl) (Nat.le_of_ble_eq_true rfl) rc55 ((p_Qu_understand D σ hx1).dle (by omega)) ?_
    refine hl_istore_n (i := 1) (ls2 := [(1, .int x1.1), (0, .ref 0)]) d228_29 rfl (by decide) rfl ?_
    refine hl_aload_n (i := 0) d228_30 rfl rfl (by decide) ?_
    refine hl_gr d228_31 gX_10_0 ?_
    refine hl_iconst d228_34 ki0 ?_
    refine hl_pi d228_35 qX_92_1 ?_
    refine hl_iload_n (i := 1) d228_38 rfl rfl ?_
    refine hl_if_eq (tg := 52) d228_39 rfl (fun hc => ?_) (fun hc => ?_)
    · have h := hl_pos hc h
      refine hl_ldc2 d228_52 wlX_315 ?_
      obtain ⟨e1, e2⟩ := hl_some2 h
      subst e1; subst e2
      exact hl_lret d228_55 rfl
    · have h := hl_neg hc h
      refine hl_aload_n (i := 0) d228_42 rfl rfl (by decide) ?_
      refine hl_gr d228_43 gX_74_0 ?_
      obtain ⟨x2, hx2, h⟩ := hl_bind h
      refine hl_cVl (D := (D + 47)) (z := y242) (n := 0) (av := []) (st := []) d228_46 mlX_321 rfl (Nat.le_of_ble_eq_true rfl) (Nat.le_of_ble_eq_true rfl) rc55 ((p_Qu_answer D (hl_si x1.2 1 1 0) hx2).dle (by omega)) ?_
      refine hl_goto (tg := 55) d228_49 rfl ?_
      obtain ⟨e1, e2⟩ := hl_some2 h
      subst e1; subst e2
      exact hl_lret d228_55 rfl
  · have h := hl_pos hc h
    refine hl_aload_n (i := 0) d228_10 rfl rfl (by decide) ?_
    refine hl_gr d228_11 gX_10_0 ?_
    refine hl_iconst d228_14 ki0 ?_
    refine hl_pi d228_15 qX_92_1 ?_
    refine hl_ldc2 d228_18 wlX_315 ?_
    obtain ⟨e1, e2⟩ := hl_some2 h
    subst e1; subst e2
    exact hl_lret d228_21 rfl
def f_M_qKind_j76 (s0 : Int32) (σ : hl_M) : Option (Int32 × hl_M) :=
  if s0 = 5 then
  (f_M_asks 96 σ).bind fun x6 =>
  some ((s0, x6)) else
  some ((s0, σ))
def f_M_qKind (σ : hl_M) : Option (Int32 × hl_M) :=
  (f_M_takes 91 σ).bind fun x1 =>
  if x1.1 = 0 then
  (f_M_takes 92 x1.2).bind fun x2 =>
  if x2.1 = 0 then
  (f_M_takes 93 x2.2).bind fun x3 =>
  if x3.1 = 0 then
  (f_M_takes 94 x3.2).bind fun x4 =>
  if x4.1 = 0 then
  (f_M_takes 95 x4.2).bind fun x5 =>
  if x5.1 = 0 then
  f_M_qKind_j76 5 x5.2 else
  f_M_qKind_j76 4 x5.2 else
  f_M_qKind_j76 3 x4.2 else
  f_M_qKind_j76 2 x3.2 else
  f_M_qKind_j76 1 x2.2 else
  f_M_qKind_j76 0 x1.2
set_option maxRecDepth 20000 in
theorem p_M_qKind_j76 {X : hl_X} (D : Nat) (s0 : Int32) (σ : hl_M) {r : Int32} {τ : hl_M} (h : f_M_qKind_j76 s0 σ = some (r, τ)) : hl_R X (D + 4) y254 76 [(0, .ref 64)] [.int s0] σ (some (.int r)) τ := by
  unfold f_M_qKind_j76 at h
  refine hl_istore_n (i := 1) (ls2 := [(1, .int s0), (0, .ref 64)]) d254_76 rfl (by decide) rfl ?_
  refine hl_iload_n (i := 1) d254_77 rfl rfl ?_
  refine hl_iconst d254_78 ki5 ?_
  refine hl_icmp_ne (tg := 90) d254_79 rfl (fun hc => ?_) (fun hc => ?_)
  · have h := hl_neg hc h
    refine hl_iload_n (i := 1) d254_90 rfl rfl ?_
    obtain ⟨e1, e2⟩ := hl_some2 h
    subst e1; subst e2
    exact hl_iret d254_91 rfl
  · have h := hl_pos hc h
    refine hl_aload_n (i := 0) d254_82 rfl rfl (by decide) ?_
    refine hl_aload_n (i := 0) d254_83 rfl rfl (by decide) ?_
    refine hl_gr d254_84 gM_116_64 ?_
    obtain ⟨x6, hx6, h⟩ := hl_bind h
    refine hl_cVv (D := (D + 3)) (z := y62) (n := 1) (av := [.ref 96]) (st := []) d254_87 mlM_260 rfl (Nat.le_of_ble_eq_true rfl) (Nat.le_of_ble_eq_true rfl) rc64 ((p_M_asks D 96 (by decide) σ hx6).dle (by omega)) ?_
    refine hl_iload_n (i := 1) d254_90 rfl rfl ?_
    obtain ⟨e1, e2⟩ := hl_some2 h
    subst e1; subst e2
    exact hl_iret d254_91 rfl
set_option maxRecDepth 20000 in
theorem p_M_qKind {X : hl_X} (D : Nat) (σ : hl_M) {r : Int32} {τ : hl_M} (h : f_M_qKind σ = some (r, τ)) : hl_R X (D + 4) y254 0 [(0, .ref 64)] [] σ (some (.int r)) τ := by
  unfold f_M_qKind at h
  refine hl_aload_n (i := 0) d254_0 rfl rfl (by decide) ?_
  refine hl_aload_n (i := 0) d254_1 rfl rfl (by decide) ?_
  refine hl_gr d254_2 gM_101_64 ?_
  obtain ⟨x1, hx1, h⟩ := hl_bind h
  refine hl_cVi (D := (D + 3)) (z := y63) (n := 1) (av := [.ref 91]) (st := []) d254_5 mlM_200 rfl (Nat.le_of_ble_eq_true rfl) (Nat.le_of_ble_eq_true rfl) rc64 ((p_M_takes D 91 (by decide) σ hx1).dle (by omega)) ?_
  refine hl_if_eq (tg := 15) d254_8 rfl (fun hc => ?_) (fun hc => ?_)
  · have h := hl_pos hc h
    refine hl_aload_n (i := 0) d254_15 rfl rfl (by decide) ?_
    refine hl_aload_n (i := 0) d254_16 rfl rfl (by decide) ?_
    refine hl_gr d254_17 gM_104_64 ?_
    obtain ⟨x2, hx2, h⟩ := hl_bind h
    refine hl_cVi (D := (D + 3)) (z := y63) (n := 1) (av := [.ref 92]) (st := []) d254_20 mlM_200 rfl (Nat.le_of_ble_eq_true rfl) (Nat.le_of_ble_eq_true rfl) rc64 ((p_M_takes D 92 (by decide) x1.2 hx2).dle (by omega)) ?_
    refine hl_if_eq (tg := 30) d254_23 rfl (fun hc => ?_) (fun hc => ?_)
    · have h := hl_pos hc h
      refine hl_aload_n (i := 0) d254_30 rfl rfl (by decide) ?_
      refine hl_aload_n (i := 0) d254_31 rfl rfl (by decide) ?_
      refine hl_gr d254_32 gM_107_64 ?_
      obtain ⟨x3, hx3, h⟩ := hl_bind h
      refine hl_cVi (D := (D + 3)) (z := y63) (n := 1) (av := [.ref 93]) (st := []) d254_35 mlM_200 rfl (Nat.le_of_ble_eq_true rfl) (Nat.le_of_ble_eq_true rfl) rc64 ((p_M_takes D 93 (by decide) x2.2 hx3).dle (by omega)) ?_
      refine hl_if_eq (tg := 45) d254_38 rfl (fun hc => ?_) (fun hc => ?_)
      · have h := hl_pos hc h
        refine hl_aload_n (i := 0) d254_45 rfl rfl (by decide) ?_
        refine hl_aload_n (i := 0) d254_46 rfl rfl (by decide) ?_
        refine hl_gr d254_47 gM_110_64 ?_
        obtain ⟨x4, hx4, h⟩ := hl_bind h
        refine hl_cVi (D := (D + 3)) (z := y63) (n := 1) (av := [.ref 94]) (st := []) d254_50 mlM_200 rfl (Nat.le_of_ble_eq_true rfl) (Nat.le_of_ble_eq_true rfl) rc64 ((p_M_takes D 94 (by decide) x3.2 hx4).dle (by omega)) ?_
        refine hl_if_eq (tg := 60) d254_53 rfl (fun hc => ?_) (fun hc => ?_)
        · have h := hl_pos hc h
          refine hl_aload_n (i := 0) d254_60 rfl rfl (by decide) ?_
          refine hl_aload_n (i := 0) d254_61 rfl rfl (by decide) ?_
          refine hl_gr d254_62 gM_113_64 ?_
          obtain ⟨x5, hx5, h⟩ := hl_bind h
          refine hl_cVi (D := (D + 3)) (z := y63) (n := 1) (av := [.ref 95]) (st := []) d254_65 mlM_200 rfl (Nat.le_of_ble_eq_true rfl) (Nat.le_of_ble_eq_true rfl) rc64 ((p_M_takes D 95 (by decide) x4.2 hx5).dle (by omega)) ?_
          refine hl_if_eq (tg := 75) d254_68 rfl (fun hc => ?_) (fun hc => ?_)
          · have h := hl_pos hc h
            refine hl_iconst d254_75 ki5 ?_
            exact hl_loc (p_M_qKind_j76 D 5 x5.2 h) ⟨rfl, trivial⟩
          · have h := hl_neg hc h
            refine hl_iconst d254_71 ki4 ?_
            refine hl_goto (tg := 76) d254_72 rfl ?_
            exact hl_loc (p_M_qKind_j76 D 4 x5.2 h) ⟨rfl, trivial⟩
        · have h := hl_neg hc h
          refine hl_iconst d254_56 ki3 ?_
          refine hl_goto (tg := 76) d254_57 rfl ?_
          exact hl_loc (p_M_qKind_j76 D 3 x4.2 h) ⟨rfl, trivial⟩
      · have h := hl_neg hc h
        refine hl_iconst d254_41 ki2 ?_
        refine hl_goto (tg := 76) d254_42 rfl ?_
        exact hl_loc (p_M_qKind_j76 D 2 x3.2 h) ⟨rfl, trivial⟩
    · have h := hl_neg hc h
      refine hl_iconst d254_26 ki1 ?_
      refine hl_goto (tg := 76) d254_27 rfl ?_
      exact hl_loc (p_M_qKind_j76 D 1 x2.2 h) ⟨rfl, trivial⟩
  · have h := hl_neg hc h
    refine hl_iconst d254_11 ki0 ?_
    refine hl_goto (tg := 76) d254_12 rfl ?_
    exact hl_loc (p_M_qKind_j76 D 0 x1.2 h) ⟨rfl, trivial⟩
def f_M_qClip (v0 : Int64) : Int64 :=
  if v0 ≤ 1000000 then
  if ((-1000000)) ≤ v0 then
  v0 else
  (-1000000) else
  1000000
set_option maxRecDepth 20000 in
theorem p_M_qClip {X : hl_X} (D : Nat) (v0 : Int64) (σ : hl_M) {r : Int64} (h : f_M_qClip v0 = r) : hl_R X D y257 0 [(0, .long v0)] [] σ (some (.long r)) σ := by
  unfold f_M_qClip at h
  refine hl_lload_n (i := 0) d257_0 rfl rfl ?_
  refine hl_ldc2 d257_1 wlM_542 ?_
  refine hl_lc_le (tg := 14) d257_4 d257_5 rfl (fun hc => ?_) (fun hc => ?_)
  · have h := hl_pos hc h
    refine hl_lload_n (i := 0) d257_14 rfl rfl ?_
    refine hl_ldc2 d257_15 wlM_544 ?_
    refine hl_lc_ge (tg := 28) d257_18 d257_19 rfl (fun hc => ?_) (fun hc => ?_)
    · have h := hl_pos hc h
      refine hl_lload_n (i := 0) d257_28 rfl rfl ?_
      subst h
      exact hl_lret d257_29 rfl
    · have h := hl_neg hc h
      refine hl_ldc2 d257_22 wlM_544 ?_
      refine hl_goto (tg := 29) d257_25 rfl ?_
      subst h
      exact hl_lret d257_29 rfl
  · have h := hl_neg hc h
    refine hl_ldc2 d257_8 wlM_542 ?_
    refine hl_goto (tg := 29) d257_11 rfl ?_
    subst h
    exact hl_lret d257_29 rfl
def f_M_qPuts (v1 : Int64) (σ : hl_M) : Option (hl_M) :=
  if hl_b (σ.1 64 78) 1700 then
  hl_let (hl_si (hl_sl σ 112 (σ.1 64 78).toNatClampNeg v1) 64 78 (((hl_sl σ 112 (σ.1 64 78).toNatClampNeg v1).1 64 78) + 1)) (fun σ1 =>
  some σ1) else none
set_option maxRecDepth 20000 in
theorem p_M_qPuts {X : hl_X} (D : Nat) (v1 : Int64) (σ : hl_M) {τ : hl_M} (h : f_M_qPuts v1 σ = some τ) : hl_R X D y258 0 [(0, .ref 64), (1, .long v1)] [] σ none τ := by
  unfold f_M_qPuts at h
  refine hl_aload_n (i := 0) d258_0 rfl rfl (by decide) ?_
  refine hl_gr d258_1 gM_164_64 ?_
  refine hl_aload_n (i := 0) d258_4 rfl rfl (by decide) ?_
  refine hl_gi d258_5 gM_546_64 ?_
  refine hl_lload_n (i := 1) d258_8 rfl rfl ?_
  obtain ⟨hb, h⟩ := hl_gd h
  refine hl_last (q := 112) d258_9 sh112 (hl_b_in hb) ?_
  refine hl_aload_n (i := 0) d258_10 rfl rfl (by decide) ?_
  refine hl_dup d258_11 rfl ?_
  refine hl_gi d258_12 gM_546_64 ?_
  refine hl_iconst d258_15 ki1 ?_
  refine hl_iadd d258_16 ?_
  refine hl_pi d258_17 qM_546_64 ?_
  refine hl_nmm h (fun σ1 h => ?_)
  have h := Option.some.inj h
  subst h
  exact hl_vret d258_20 rfl
def f_M_qFloor_j43 (v4 : Int64) (s0 : Int32) (s1 : Int32) : Option (Int64) :=
  if s1 = s0 then
  some v4 else
  some (v4 - 1)
def f_M_qFloor_j32 (v2 : Int64) (v4 : Int64) (s0 : Int32) : Option (Int64) :=
  if 0 ≤ v2 then
  f_M_qFloor_j43 v4 0 s0 else
  f_M_qFloor_j43 v4 1 s0
def f_M_qFloor (v0 : Int64) (v2 : Int64) : Option (Int64) :=
  if v2 = 0 then
  some 0 else
  if v2 = 0 then none else
  if v2 = 0 then none else
  if (v0 - v0 / v2 * v2) = 0 then
  some (v0 / v2) else
  if 0 ≤ v0 then
  f_M_qFloor_j32 v2 (v0 / v2) 0 else
  f_M_qFloor_j32 v2 (v0 / v2) 1
set_option maxRecDepth 20000 in
theorem p_M_qFloor_j43 {X : hl_X} (D : Nat) (v4 : Int64) (s0 : Int32) (s1 : Int32) (σ : hl_M) {r : Int64} (h : f_M_qFloor_j43 v4 s0 s1 = some r) : hl_R X D y259 43 [(4, .long v4)] [.int s0, .int s1] σ (some (.long r)) σ := by
  unfold f_M_qFloor_j43 at h
  refine hl_icmp_eq (tg := 53) d259_43 rfl (fun hc => ?_) (fun hc => ?_)
  · have h := hl_pos hc h
    refine hl_lload d259_53 rfl ?_
    have h := Option.some.inj h
    subst h
    exact hl_lret d259_55 rfl
  · have h := hl_neg hc h
    refine hl_lload d259_46 rfl ?_
    refine hl_lconst (x := 1) d259_48 (by decide) ?_
    refine hl_lsub d259_49 ?_
    refine hl_goto (tg := 55) d259_50 rfl ?_
    have h := Option.some.inj h
    subst h
    exact hl_lret d259_55 rfl
set_option maxRecDepth 20000 in
theorem p_M_qFloor_j32 {X : hl_X} (D : Nat) (v2 : Int64) (v4 : Int64) (s0 : Int32) (σ : hl_M) {r : Int64} (h : f_M_qFloor_j32 v2 v4 s0 = some r) : hl_R X D y259 32 [(2, .long v2), (4, .long v4)] [.int s0] σ (some (.long r)) σ := by
  unfold f_M_qFloor_j32 at h
  refine hl_lload_n (i := 2) d259_32 rfl rfl ?_
  refine hl_lconst (x := 0) d259_33 (by decide) ?_
  refine hl_lc_ge (tg := 42) d259_34 d259_35 rfl (fun hc => ?_) (fun hc => ?_)
  · have h := hl_pos hc h
    refine hl_iconst d259_42 ki0 ?_
    exact hl_loc (p_M_qFloor_j43 D v4 0 s0 σ h) ⟨rfl, trivial⟩
  · have h := hl_neg hc h
    refine hl_iconst d259_38 ki1 ?_
    refine hl_goto (tg := 43) d259_39 rfl ?_
    exact hl_loc (p_M_qFloor_j43 D v4 1 s0 σ h) ⟨rfl, trivial⟩
set_option maxRecDepth 20000 in
theorem p_M_qFloor {X : hl_X} (D : Nat) (v0 : Int64) (v2 : Int64) (σ : hl_M) {r : Int64} (h : f_M_qFloor v0 v2 = some r) : hl_R X D y259 0 [(0, .long v0), (2, .long v2)] [] σ (some (.long r)) σ := by
  unfold f_M_qFloor at h
  refine hl_lload_n (i := 2) d259_0 rfl rfl ?_
  refine hl_lconst (x := 0) d259_1 (by decide) ?_
  refine hl_lc_ne (tg := 8) d259_2 d259_3 rfl (fun hc => ?_) (fun hc => ?_)
  · have h := hl_neg hc h
    refine hl_lload_n (i := 0) d259_8 rfl rfl ?_
    refine hl_lload_n (i := 2) d259_9 rfl rfl ?_
    obtain ⟨hb, h⟩ := hl_gn h
    refine hl_ldiv d259_10 hb ?_
    refine hl_lstore (ls2 := [(4, .long (v0 / v2)), (0, .long v0), (2, .long v2)]) d259_11 (by decide) rfl ?_
    refine hl_lload_n (i := 0) d259_13 rfl rfl ?_
    refine hl_lload_n (i := 2) d259_14 rfl rfl ?_
    obtain ⟨hb, h⟩ := hl_gn h
    refine hl_lrem d259_15 hb ?_
    refine hl_lconst (x := 0) d259_16 (by decide) ?_
    refine hl_lc_eq (tg := 53) d259_17 d259_18 rfl (fun hc => ?_) (fun hc => ?_)
    · have h := hl_pos hc h
      refine hl_lload d259_53 rfl ?_
      have h := Option.some.inj h
      subst h
      exact hl_lret d259_55 rfl
    · have h := hl_neg hc h
      refine hl_lload_n (i := 0) d259_21 rfl rfl ?_
      refine hl_lconst (x := 0) d259_22 (by decide) ?_
      refine hl_lc_ge (tg := 31) d259_23 d259_24 rfl (fun hc => ?_) (fun hc => ?_)
      · have h := hl_pos hc h
        refine hl_iconst d259_31 ki0 ?_
        exact hl_loc (p_M_qFloor_j32 D v2 (v0 / v2) 0 σ h) ⟨rfl, rfl, trivial⟩
      · have h := hl_neg hc h
        refine hl_iconst d259_27 ki1 ?_
        refine hl_goto (tg := 32) d259_28 rfl ?_
        exact hl_loc (p_M_qFloor_j32 D v2 (v0 / v2) 1 σ h) ⟨rfl, rfl, trivial⟩
  · have h := hl_pos hc h
    refine hl_lconst (x := 0) d259_6 (by decide) ?_
    have h := Option.some.inj h
    subst h
    exact hl_lret d259_7 rfl
def f_M_qJoins_j161 (s0 : Int64) (σ : hl_M) : Option (hl_M) :=
  (f_M_qPuts s0 σ).bind fun x6 =>
  some x6
def f_M_qJoins_j181 (s0 : Int64) (σ : hl_M) : Option (hl_M) :=
  (f_M_qPuts s0 σ).bind fun x7 =>
  some x7
def f_M_qJoins_j200 (s0 : Int64) (σ : hl_M) : Option (hl_M) :=
  (f_M_qPuts s0 σ).bind fun x8 =>
  some x8
def f_M_qJoins_j219 (s0 : Int64) (σ : hl_M) : Option (hl_M) :=
  (f_M_qPuts s0 σ).bind fun x9 =>
  some x9
def f_M_qJoins_j238 (s0 : Int64) (σ : hl_M) : Option (hl_M) :=
  (f_M_qPuts s0 σ).bind fun x10 =>
  some x10
def f_M_qJoins_j270 (s0 : Int64) (σ : hl_M) : Option (hl_M) :=
  (f_M_qPuts s0 σ).bind fun x12 =>
  some x12
def f_M_qJoins (v1 : Int32) (σ : hl_M) : Option (hl_M) :=
  if hl_b ((σ.1 64 78) - 1) 1700 then
  if hl_b ((σ.1 64 78) - 2) 1700 then
  if v1 = 1 then
  (f_M_qPuts (f_M_qClip ((σ.2 112 ((σ.1 64 78) - 2).toNatClampNeg) + (σ.2 112 ((σ.1 64 78) - 1).toNatClampNeg))) (hl_si σ 64 78 ((σ.1 64 78) - 2))).bind fun x1 =>
  some x1 else
  if v1 = 2 then
  (f_M_qPuts (f_M_qClip ((σ.2 112 ((σ.1 64 78) - 2).toNatClampNeg) - (σ.2 112 ((σ.1 64 78) - 1).toNatClampNeg))) (hl_si σ 64 78 ((σ.1 64 78) - 2))).bind fun x2 =>
  some x2 else
  if v1 = 3 then
  (f_M_qPuts (f_M_qClip ((σ.2 112 ((σ.1 64 78) - 2).toNatClampNeg) * (σ.2 112 ((σ.1 64 78) - 1).toNatClampNeg))) (hl_si σ 64 78 ((σ.1 64 78) - 2))).bind fun x3 =>
  some x3 else
  if v1 = 4 then
  (f_M_qFloor (σ.2 112 ((σ.1 64 78) - 2).toNatClampNeg) (σ.2 112 ((σ.1 64 78) - 1).toNatClampNeg)).bind fun x4 =>
  (f_M_qPuts x4 (hl_si σ 64 78 ((σ.1 64 78) - 2))).bind fun x5 =>
  some x5 else
  if v1 = 5 then
  if (σ.2 112 ((σ.1 64 78) - 1).toNatClampNeg) ≤ (σ.2 112 ((σ.1 64 78) - 2).toNatClampNeg) then
  f_M_qJoins_j161 (σ.2 112 ((σ.1 64 78) - 1).toNatClampNeg) (hl_si σ 64 78 ((σ.1 64 78) - 2)) else
  f_M_qJoins_j161 (σ.2 112 ((σ.1 64 78) - 2).toNatClampNeg) (hl_si σ 64 78 ((σ.1 64 78) - 2)) else
  if v1 = 6 then
  if (σ.2 112 ((σ.1 64 78) - 2).toNatClampNeg) ≤ (σ.2 112 ((σ.1 64 78) - 1).toNatClampNeg) then
  f_M_qJoins_j181 (σ.2 112 ((σ.1 64 78) - 1).toNatClampNeg) (hl_si σ 64 78 ((σ.1 64 78) - 2)) else
  f_M_qJoins_j181 (σ.2 112 ((σ.1 64 78) - 2).toNatClampNeg) (hl_si σ 64 78 ((σ.1 64 78) - 2)) else
  if v1 = 7 then
  if (σ.2 112 ((σ.1 64 78) - 1).toNatClampNeg) ≤ (σ.2 112 ((σ.1 64 78) - 2).toNatClampNeg) then
  f_M_qJoins_j200 0 (hl_si σ 64 78 ((σ.1 64 78) - 2)) else
  f_M_qJoins_j200 1 (hl_si σ 64 78 ((σ.1 64 78) - 2)) else
  if v1 = 8 then
  if (σ.2 112 ((σ.1 64 78) - 2).toNatClampNeg) ≤ (σ.2 112 ((σ.1 64 78) - 1).toNatClampNeg) then
  f_M_qJoins_j219 0 (hl_si σ 64 78 ((σ.1 64 78) - 2)) else
  f_M_qJoins_j219 1 (hl_si σ 64 78 ((σ.1 64 78) - 2)) else
  if v1 = 9 then
  if (σ.2 112 ((σ.1 64 78) - 2).toNatClampNeg) = (σ.2 112 ((σ.1 64 78) - 1).toNatClampNeg) then
  f_M_qJoins_j238 1 (hl_si σ 64 78 ((σ.1 64 78) - 2)) else
  f_M_qJoins_j238 0 (hl_si σ 64 78 ((σ.1 64 78) - 2)) else
  if v1 = 10 then
  (f_M_qPuts ((σ.2 112 ((σ.1 64 78) - 2).toNatClampNeg) * (σ.2 112 ((σ.1 64 78) - 1).toNatClampNeg)) (hl_si σ 64 78 ((σ.1 64 78) - 2))).bind fun x11 =>
  some x11 else
  if ((σ.2 112 ((σ.1 64 78) - 2).toNatClampNeg) + (σ.2 112 ((σ.1 64 78) - 1).toNatClampNeg)) ≤ 0 then
  f_M_qJoins_j270 0 (hl_si σ 64 78 ((σ.1 64 78) - 2)) else
  f_M_qJoins_j270 1 (hl_si σ 64 78 ((σ.1 64 78) - 2)) else none else none
set_option maxRecDepth 20000 in
theorem p_M_qJoins_j161 {X : hl_X} (D : Nat) (s0 : Int64) (σ : hl_M) {τ : hl_M} (h : f_M_qJoins_j161 s0 σ = some τ) : hl_R X (D + 1) y256 161 [] [.long s0, .ref 64] σ none τ := by
  unfold f_M_qJoins_j161 at h
  obtain ⟨x6, hx6, h⟩ := hl_bind h
  refine hl_cVv (D := D) (z := y258) (n := 1) (av := [.long s0]) (st := []) d256_161 mlM_553 rfl (Nat.le_of_ble_eq_true rfl) (Nat.le_of_ble_eq_true rfl) rc64 ((p_M_qPuts D s0 σ hx6).dle (by omega)) ?_
  refine hl_goto (tg := 273) d256_164 rfl ?_
  have h := Option.some.inj h
  subst h
  exact hl_vret d256_273 rfl
set_option maxRecDepth 20000 in
theorem p_M_qJoins_j181 {X : hl_X} (D : Nat) (s0 : Int64) (σ : hl_M) {τ : hl_M} (h : f_M_qJoins_j181 s0 σ = some τ) : hl_R X (D + 1) y256 181 [] [.long s0, .ref 64] σ none τ := by
  unfold f_M_qJoins_j181 at h
  obtain ⟨x7, hx7, h⟩ := hl_bind h
  refine hl_cVv (D := D) (z := y258) (n := 1) (av := [.long s0]) (st := []) d256_181 mlM_553 rfl (Nat.le_of_ble_eq_true rfl) (Nat.le_of_ble_eq_true rfl) rc64 ((p_M_qPuts D s0 σ hx7).dle (by omega)) ?_
  refine hl_goto (tg := 273) d256_184 rfl ?_
  have h := Option.some.inj h
  subst h
  exact hl_vret d256_273 rfl
set_option maxRecDepth 20000 in
theorem p_M_qJoins_j200 {X : hl_X} (D : Nat) (s0 : Int64) (σ : hl_M) {τ : hl_M} (h : f_M_qJoins_j200 s0 σ = some τ) : hl_R X (D + 1) y256 200 [] [.long s0, .ref 64] σ none τ := by
  unfold f_M_qJoins_j200 at h
  obtain ⟨x8, hx8, h⟩ := hl_bind h
  refine hl_cVv (D := D) (z := y258) (n := 1) (av := [.long s0]) (st := []) d256_200 mlM_553 rfl (Nat.le_of_ble_eq_true rfl) (Nat.le_of_ble_eq_true rfl) rc64 ((p_M_qPuts D s0 σ hx8).dle (by omega)) ?_
  refine hl_goto (tg := 273) d256_203 rfl ?_
  have h := Option.some.inj h
  subst h
  exact hl_vret d256_273 rfl
set_option maxRecDepth 20000 in
theorem p_M_qJoins_j219 {X : hl_X} (D : Nat) (s0 : Int64) (σ : hl_M) {τ : hl_M} (h : f_M_qJoins_j219 s0 σ = some τ) : hl_R X (D + 1) y256 219 [] [.long s0, .ref 64] σ none τ := by
  unfold f_M_qJoins_j219 at h
  obtain ⟨x9, hx9, h⟩ := hl_bind h
  refine hl_cVv (D := D) (z := y258) (n := 1) (av := [.long s0]) (st := []) d256_219 mlM_553 rfl (Nat.le_of_ble_eq_true rfl) (Nat.le_of_ble_eq_true rfl) rc64 ((p_M_qPuts D s0 σ hx9).dle (by omega)) ?_
  refine hl_goto (tg := 273) d256_222 rfl ?_
  have h := Option.some.inj h
  subst h
  exact hl_vret d256_273 rfl
set_option maxRecDepth 20000 in
theorem p_M_qJoins_j238 {X : hl_X} (D : Nat) (s0 : Int64) (σ : hl_M) {τ : hl_M} (h : f_M_qJoins_j238 s0 σ = some τ) : hl_R X (D + 1) y256 238 [] [.long s0, .ref 64] σ none τ := by
  unfold f_M_qJoins_j238 at h
  obtain ⟨x10, hx10, h⟩ := hl_bind h
  refine hl_cVv (D := D) (z := y258) (n := 1) (av := [.long s0]) (st := []) d256_238 mlM_553 rfl (Nat.le_of_ble_eq_true rfl) (Nat.le_of_ble_eq_true rfl) rc64 ((p_M_qPuts D s0 σ hx10).dle (by omega)) ?_
  refine hl_goto (tg := 273) d256_241 rfl ?_
  have h := Option.some.inj h
  subst h
  exact hl_vret d256_273 rfl
set_option maxRecDepth 20000 in
theorem p_M_qJoins_j270 {X : hl_X} (D : Nat) (s0 : Int64) (σ : hl_M) {τ : hl_M} (h : f_M_qJoins_j270 s0 σ = some τ) : hl_R X (D + 1) y256 270 [] [.long s0, .ref 64] σ none τ := by
  unfold f_M_qJoins_j270 at h
  obtain ⟨x12, hx12, h⟩ := hl_bind h
  refine hl_cVv (D := D) (z := y258) (n := 1) (av := [.long s0]) (st := []) d256_270 mlM_553 rfl (Nat.le_of_ble_eq_true rfl) (Nat.le_of_ble_eq_true rfl) rc64 ((p_M_qPuts D s0 σ hx12).dle (by omega)) ?_
  have h := Option.some.inj h
  subst h
  exact hl_vret d256_273 rfl
set_option maxRecDepth 20000 in
theorem p_M_qJoins {X : hl_X} (D : Nat) (v1 : Int32) (σ : hl_M) {τ : hl_M} (h : f_M_qJoins v1 σ = some τ) : hl_R X (D + 1) y256 0 [(0, .ref 64), (1, .int v1)] [] σ none τ := by
  unfold f_M_qJoins at h
  refine hl_aload_n (i := 0) d256_0 rfl rfl (by decide) ?_
  refine hl_gr d256_1 gM_164_64 ?_
  refine hl_aload_n (i := 0) d256_4 rfl rfl (by decide) ?_
  refine hl_gi d256_5 gM_546_64 ?_
  refine hl_iconst d256_8 ki1 ?_
  refine hl_isub d256_9 ?_
  obtain ⟨hb, h⟩ := hl_gd h
  refine hl_lald d256_10 sh112 (hl_b_in hb) ?_
  refine hl_lstore_n (i := 2) (ls2 := [(2, .long (σ.2 112 ((σ.1 64 78) - 1).toNatClampNeg)), (0, .ref 64), (1, .int v1)]) d256_11 rfl (by decide) rfl ?_
  refine hl_aload_n (i := 0) d256_12 rfl rfl (by decide) ?_
  refine hl_gr d256_13 gM_164_64 ?_
  refine hl_aload_n (i := 0) d256_16 rfl rfl (by decide) ?_
  refine hl_gi d256_17 gM_546_64 ?_
  refine hl_iconst d256_20 ki2 ?_
  refine hl_isub d256_21 ?_
  obtain ⟨hb, h⟩ := hl_gd h
  refine hl_lald d256_22 sh112 (hl_b_in hb) ?_
  refine hl_lstore (ls2 := [(4, .long (σ.2 112 ((σ.1 64 78) - 2).toNatClampNeg)), (2, .long (σ.2 112 ((σ.1 64 78) - 1).toNatClampNeg)), (0, .ref 64), (1, .int v1)]) d256_23 (by decide) rfl ?_
  refine hl_aload_n (i := 0) d256_25 rfl rfl (by decide) ?_
  refine hl_dup d256_26 rfl ?_
  refine hl_gi d256_27 gM_546_64 ?_
  refine hl_iconst d256_30 ki2 ?_
  refine hl_isub d256_31 ?_
  refine hl_pi d256_32 qM_546_64 ?_
  refine hl_iload_n (i := 1) d256_35 rfl rfl ?_
  by_cases hc36_1 : v1 = 1
  · have h := hl_pos hc36_1 h
    refine hl_tabIn (off := 56) (tg := 92) d256_36 (by rw [hc36_1]; decide) (by rw [hc36_1]; decide) (by rw [hc36_1]; rfl) rfl ?_
    refine hl_aload_n (i := 0) d256_92 rfl rfl (by decide) ?_
    refine hl_lload d256_93 rfl ?_
    refine hl_lload_n (i := 2) d256_95 rfl rfl ?_
    refine hl_ladd d256_96 ?_
    refine hl_cSl (D := D) (z := y257) (n := 1) (av := [.long ((σ.2 112 ((σ.1 64 78) - 2).toNatClampNeg) + (σ.2 112 ((σ.1 64 78) - 1).toNatClampNeg))]) (st := [.ref 64]) d256_97 mlM_549 rfl (Nat.le_of_ble_eq_true rfl) (Nat.le_of_ble_eq_true rfl) ((p_M_qClip D ((σ.2 112 ((σ.1 64 78) - 2).toNatClampNeg) + (σ.2 112 ((σ.1 64 78) - 1).toNatClampNeg)) (hl_si σ 64 78 ((σ.1 64 78) - 2)) rfl).dle (by omega)) ?_
    obtain ⟨x1, hx1, h⟩ := hl_bind h
    refine hl_cVv (D := D) (z := y258) (n := 1) (av := [.long (f_M_qClip ((σ.2 112 ((σ.1 64 78) - 2).toNatClampNeg) + (σ.2 112 ((σ.1 64 78) - 1).toNatClampNeg)))]) (st := []) d256_100 mlM_553 rfl (Nat.le_of_ble_eq_true rfl) (Nat.le_of_ble_eq_true rfl) rc64 ((p_M_qPuts D (f_M_qClip ((σ.2 112 ((σ.1 64 78) - 2).toNatClampNeg) + (σ.2 112 ((σ.1 64 78) - 1).toNatClampNeg))) (hl_si σ 64 78 ((σ.1 64 78) - 2)) hx1).dle (by omega)) ?_
    refine hl_goto (tg := 273) d256_103 rfl ?_
    have h := Option.some.inj h
    subst h
    exact hl_vret d256_273 rfl
  have h := hl_neg hc36_1 h
  by_cases hc36_2 : v1 = 2
  · have h := hl_pos hc36_2 h
    refine hl_tabIn (off := 70) (tg := 106) d256_36 (by rw [hc36_2]; decide) (by rw [hc36_2]; decide) (by rw [hc36_2]; rfl) rfl ?_
    refine hl_aload_n (i := 0) d256_106 rfl rfl (by decide) ?_
    refine hl_lload d256_107 rfl ?_
    refine hl_lload_n (i := 2) d256_109 rfl rfl ?_
    refine hl_lsub d256_110 ?_
    refine hl_cSl (D := D) (z := y257) (n := 1) (av := [.long ((σ.2 112 ((σ.1 64 78) - 2).toNatClampNeg) - (σ.2 112 ((σ.1 64 78) - 1).toNatClampNeg))]) (st := [.ref 64]) d256_111 mlM_549 rfl (Nat.le_of_ble_eq_true rfl) (Nat.le_of_ble_eq_true rfl) ((p_M_qClip D ((σ.2 112 ((σ.1 64 78) - 2).toNatClampNeg) - (σ.2 112 ((σ.1 64 78) - 1).toNatClampNeg)) (hl_si σ 64 78 ((σ.1 64 78) - 2)) rfl).dle (by omega)) ?_
    obtain ⟨x2, hx2, h⟩ := hl_bind h
    refine hl_cVv (D := D) (z := y258) (n := 1) (av := [.long (f_M_qClip ((σ.2 112 ((σ.1 64 78) - 2).toNatClampNeg) - (σ.2 112 ((σ.1 64 78) - 1).toNatClampNeg)))]) (st := []) d256_114 mlM_553 rfl (Nat.le_of_ble_eq_true rfl) (Nat.le_of_ble_eq_true rfl) rc64 ((p_M_qPuts D (f_M_qClip ((σ.2 112 ((σ.1 64 78) - 2).toNatClampNeg) - (σ.2 112 ((σ.1 64 78) - 1).toNatClampNeg))) (hl_si σ 64 78 ((σ.1 64 78) - 2)) hx2).dle (by omega)) ?_
    refine hl_goto (tg := 273) d256_117 rfl ?_
    have h := Option.some.inj h
    subst h
    exact hl_vret d256_273 rfl
  have h := hl_neg hc36_2 h
  by_cases hc36_3 : v1 = 3
  · have h := hl_pos hc36_3 h
    refine hl_tabIn (off := 84) (tg := 120) d256_36 (by rw [hc36_3]; decide) (by rw [hc36_3]; decide) (by rw [hc36_3]; rfl) rfl ?_
    refine hl_aload_n (i := 0) d256_120 rfl rfl (by decide) ?_
    refine hl_lload d256_121 rfl ?_
    refine hl_lload_n (i := 2) d256_123 rfl rfl ?_
    refine hl_lmul d256_124 ?_
    refine hl_cSl (D := D) (z := y257) (n := 1) (av := [.long ((σ.2 112 ((σ.1 64 78) - 2).toNatClampNeg) * (σ.2 112 ((σ.1 64 78) - 1).toNatClampNeg))]) (st := [.ref 64]) d256_125 mlM_549 rfl (Nat.le_of_ble_eq_true rfl) (Nat.le_of_ble_eq_true rfl) ((p_M_qClip D ((σ.2 112 ((σ.1 64 78) - 2).toNatClampNeg) * (σ.2 112 ((σ.1 64 78) - 1).toNatClampNeg)) (hl_si σ 64 78 ((σ.1 64 78) - 2)) rfl).dle (by omega)) ?_
    obtain ⟨x3, hx3, h⟩ := hl_bind h
    refine hl_cVv (D := D) (z := y258) (n := 1) (av := [.long (f_M_qClip ((σ.2 112 ((σ.1 64 78) - 2).toNatClampNeg) * (σ.2 112 ((σ.1 64 78) - 1).toNatClampNeg)))]) (st := []) d256_128 mlM_553 rfl (Nat.le_of_ble_eq_true rfl) (Nat.le_of_ble_eq_true rfl) rc64 ((p_M_qPuts D (f_M_qClip ((σ.2 112 ((σ.1 64 78) - 2).toNatClampNeg) * (σ.2 112 ((σ.1 64 78) - 1).toNatClampNeg))) (hl_si σ 64 78 ((σ.1 64 78) - 2)) hx3).dle (by omega)) ?_
    refine hl_goto (tg := 273) d256_131 rfl ?_
    have h := Option.some.inj h
    subst h
    exact hl_vret d256_273 rfl
  have h := hl_neg hc36_3 h
  by_cases hc36_4 : v1 = 4
  · have h := hl_pos hc36_4 h
    refine hl_tabIn (off := 98) (tg := 134) d256_36 (by rw [hc36_4]; decide) (by rw [hc36_4]; decide) (by rw [hc36_4]; rfl) rfl ?_
    refine hl_aload_n (i := 0) d256_134 rfl rfl (by decide) ?_
    refine hl_lload d256_135 rfl ?_
    refine hl_lload_n (i := 2) d256_137 rfl rfl ?_
    obtain ⟨x4, hx4, h⟩ := hl_bind h
    refine hl_cSl (D := D) (z := y259) (n := 2) (av := [.long (σ.2 112 ((σ.1 64 78) - 2).toNatClampNeg), .long (σ.2 112 ((σ.1 64 78) - 1).toNatClampNeg)]) (st := [.ref 64]) d256_138 mlM_557 rfl (Nat.le_of_ble_eq_true rfl) (Nat.le_of_ble_eq_true rfl) ((p_M_qFloor D (σ.2 112 ((σ.1 64 78) - 2).toNatClampNeg) (σ.2 112 ((σ.1 64 78) - 1).toNatClampNeg) (hl_si σ 64 78 ((σ.1 64 78) - 2)) hx4).dle (by omega)) ?_
    obtain ⟨x5, hx5, h⟩ := hl_bind h
    refine hl_cVv (D := D) (z := y258) (n := 1) (av := [.long x4]) (st := []) d256_141 mlM_553 rfl (Nat.le_of_ble_eq_true rfl) (Nat.le_of_ble_eq_true rfl) rc64 ((p_M_qPuts D x4 (hl_si σ 64 78 ((σ.1 64 78) - 2)) hx5).dle (by omega)) ?_
    refine hl_goto (tg := 273) d256_144 rfl ?_
    have h := Option.some.inj h
    subst h
    exact hl_vret d256_273 rfl
  have h := hl_neg hc36_4 h
  by_cases hc36_5 : v1 = 5
  · have h := hl_pos hc36_5 h
    refine hl_tabIn (off := 111) (tg := 147) d256_36 (by rw [hc36_5]; decide) (by rw [hc36_5]; decide) (by rw [hc36_5]; rfl) rfl ?_
    refine hl_aload_n (i := 0) d256_147 rfl rfl (by decide) ?_
    refine hl_lload d256_148 rfl ?_
    refine hl_lload_n (i := 2) d256_150 rfl rfl ?_
    refine hl_lc_ge (tg := 160) d256_151 d256_152 rfl (fun hc => ?_) (fun hc => ?_)
    · have h := hl_pos hc h
      refine hl_lload_n (i := 2) d256_160 rfl rfl ?_
      exact hl_loc (p_M_qJoins_j161 D (σ.2 112 ((σ.1 64 78) - 1).toNatClampNeg) (hl_si σ 64 78 ((σ.1 64 78) - 2)) h) trivial
    · have h := hl_neg hc h
      refine hl_lload d256_155 rfl ?_
      refine hl_goto (tg := 161) d256_157 rfl ?_
      exact hl_loc (p_M_qJoins_j161 D (σ.2 112 ((σ.1 64 78) - 2).toNatClampNeg) (hl_si σ 64 78 ((σ.1 64 78) - 2)) h) trivial
  have h := hl_neg hc36_5 h
  by_cases hc36_6 : v1 = 6
  · have h := hl_pos hc36_6 h
    refine hl_tabIn (off := 131) (tg := 167) d256_36 (by rw [hc36_6]; decide) (by rw [hc36_6]; decide) (by rw [hc36_6]; rfl) rfl ?_
    refine hl_aload_n (i := 0) d256_167 rfl rfl (by decide) ?_
    refine hl_lload d256_168 rfl ?_
    refine hl_lload_n (i := 2) d256_170 rfl rfl ?_
    refine hl_lc_le (tg := 180) d256_171 d256_172 rfl (fun hc => ?_) (fun hc => ?_)
    · have h := hl_pos hc h
      refine hl_lload_n (i := 2) d256_180 rfl rfl ?_
      exact hl_loc (p_M_qJoins_j181 D (σ.2 112 ((σ.1 64 78) - 1).toNatClampNeg) (hl_si σ 64 78 ((σ.1 64 78) - 2)) h) trivial
    · have h := hl_neg hc h
      refine hl_lload d256_175 rfl ?_
      refine hl_goto (tg := 181) d256_177 rfl ?_
      exact hl_loc (p_M_qJoins_j181 D (σ.2 112 ((σ.1 64 78) - 2).toNatClampNeg) (hl_si σ 64 78 ((σ.1 64 78) - 2)) h) trivial
  have h := hl_neg hc36_6 h
  by_cases hc36_7 : v1 = 7
  · have h := hl_pos hc36_7 h
    refine hl_tabIn (off := 151) (tg := 187) d256_36 (by rw [hc36_7]; decide) (by rw [hc36_7]; decide) (by rw [hc36_7]; rfl) rfl ?_
    refine hl_aload_n (i := 0) d256_187 rfl rfl (by decide) ?_
    refine hl_lload d256_188 rfl ?_
    refine hl_lload_n (i := 2) d256_190 rfl rfl ?_
    refine hl_lc_ge (tg := 199) d256_191 d256_192 rfl (fun hc => ?_) (fun hc => ?_)
    · have h := hl_pos hc h
      refine hl_lconst (x := 0) d256_199 (by decide) ?_
      exact hl_loc (p_M_qJoins_j200 D 0 (hl_si σ 64 78 ((σ.1 64 78) - 2)) h) trivial
    · have h := hl_neg hc h
      refine hl_lconst (x := 1) d256_195 (by decide) ?_
      refine hl_goto (tg := 200) d256_196 rfl ?_
      exact hl_loc (p_M_qJoins_j200 D 1 (hl_si σ 64 78 ((σ.1 64 78) - 2)) h) trivial
  have h := hl_neg hc36_7 h
  by_cases hc36_8 : v1 = 8
  · have h := hl_pos hc36_8 h
    refine hl_tabIn (off := 170) (tg := 206) d256_36 (by rw [hc36_8]; decide) (by rw [hc36_8]; decide) (by rw [hc36_8]; rfl) rfl ?_
    refine hl_aload_n (i := 0) d256_206 rfl rfl (by decide) ?_
    refine hl_lload d256_207 rfl ?_
    refine hl_lload_n (i := 2) d256_209 rfl rfl ?_
    refine hl_lc_le (tg := 218) d256_210 d256_211 rfl (fun hc => ?_) (fun hc => ?_)
    · have h := hl_pos hc h
      refine hl_lconst (x := 0) d256_218 (by decide) ?_
      exact hl_loc (p_M_qJoins_j219 D 0 (hl_si σ 64 78 ((σ.1 64 78) - 2)) h) trivial
    · have h := hl_neg hc h
      refine hl_lconst (x := 1) d256_214 (by decide) ?_
      refine hl_goto (tg := 219) d256_215 rfl ?_
      exact hl_loc (p_M_qJoins_j219 D 1 (hl_si σ 64 78 ((σ.1 64 78) - 2)) h) trivial
  have h := hl_neg hc36_8 h
  by_cases hc36_9 : v1 = 9
  · have h := hl_pos hc36_9 h
    refine hl_tabIn (off := 189) (tg := 225) d256_36 (by rw [hc36_9]; decide) (by rw [hc36_9]; decide) (by rw [hc36_9]; rfl) rfl ?_
    refine hl_aload_n (i := 0) d256_225 rfl rfl (by decide) ?_
    refine hl_lload d256_226 rfl ?_
    refine hl_lload_n (i := 2) d256_228 rfl rfl ?_
    refine hl_lc_ne (tg := 237) d256_229 d256_230 rfl (fun hc => ?_) (fun hc => ?_)
    · have h := hl_neg hc h
      refine hl_lconst (x := 0) d256_237 (by decide) ?_
      exact hl_loc (p_M_qJoins_j238 D 0 (hl_si σ 64 78 ((σ.1 64 78) - 2)) h) trivial
    · have h := hl_pos hc h
      refine hl_lconst (x := 1) d256_233 (by decide) ?_
      refine hl_goto (tg := 238) d256_234 rfl ?_
      exact hl_loc (p_M_qJoins_j238 D 1 (hl_si σ 64 78 ((σ.1 64 78) - 2)) h) trivial
  have h := hl_neg hc36_9 h
  by_cases hc36_10 : v1 = 10
  · have h := hl_pos hc36_10 h
    refine hl_tabIn (off := 208) (tg := 244) d256_36 (by rw [hc36_10]; decide) (by rw [hc36_10]; decide) (by rw [hc36_10]; rfl) rfl ?_
    refine hl_aload_n (i := 0) d256_244 rfl rfl (by decide) ?_
    refine hl_lload d256_245 rfl ?_
    refine hl_lload_n (i := 2) d256_247 rfl rfl ?_
    refine hl_lmul d256_248 ?_
    obtain ⟨x11, hx11, h⟩ := hl_bind h
    refine hl_cVv (D := D) (z := y258) (n := 1) (av := [.long ((σ.2 112 ((σ.1 64 78) - 2).toNatClampNeg) * (σ.2 112 ((σ.1 64 78) - 1).toNatClampNeg))]) (st := []) d256_249 mlM_553 rfl (Nat.le_of_ble_eq_true rfl) (Nat.le_of_ble_eq_true rfl) rc64 ((p_M_qPuts D ((σ.2 112 ((σ.1 64 78) - 2).toNatClampNeg) * (σ.2 112 ((σ.1 64 78) - 1).toNatClampNeg)) (hl_si σ 64 78 ((σ.1 64 78) - 2)) hx11).dle (by omega)) ?_
    refine hl_goto (tg := 273) d256_252 rfl ?_
    have h := Option.some.inj h
    subst h
    exact hl_vret d256_273 rfl
  have h := hl_neg hc36_10 h
  refine hl_tabD (tg := 255) d256_36 (fun k g1 g2 e => by
        rcases (by omega : k = 1 ∨ k = 2 ∨ k = 3 ∨ k = 4 ∨ k = 5 ∨ k = 6 ∨ k = 7 ∨ k = 8 ∨ k = 9 ∨ k = 10) with rfl | rfl | rfl | rfl | rfl | rfl | rfl | rfl | rfl | rfl
        · exact hc36_1 (Int32.toInt_inj.mp (e.trans (by decide)))
        · exact hc36_2 (Int32.toInt_inj.mp (e.trans (by decide)))
        · exact hc36_3 (Int32.toInt_inj.mp (e.trans (by decide)))
        · exact hc36_4 (Int32.toInt_inj.mp (e.trans (by decide)))
        · exact hc36_5 (Int32.toInt_inj.mp (e.trans (by decide)))
        · exact hc36_6 (Int32.toInt_inj.mp (e.trans (by decide)))
        · exact hc36_7 (Int32.toInt_inj.mp (e.trans (by decide)))
        · exact hc36_8 (Int32.toInt_inj.mp (e.trans (by decide)))
        · exact hc36_9 (Int32.toInt_inj.mp (e.trans (by decide)))
        · exact hc36_10 (Int32.toInt_inj.mp (e.trans (by decide)))
      ) rfl ?_
  refine hl_aload_n (i := 0) d256_255 rfl rfl (by decide) ?_
  refine hl_lload d256_256 rfl ?_
  refine hl_lload_n (i := 2) d256_258 rfl rfl ?_
  refine hl_ladd d256_259 ?_
  refine hl_lconst (x := 0) d256_260 (by decide) ?_
  refine hl_lc_le (tg := 269) d256_261 d256_262 rfl (fun hc => ?_) (fun hc => ?_)
  · have h := hl_pos hc h
    refine hl_lconst (x := 0) d256_269 (by decide) ?_
    exact hl_loc (p_M_qJoins_j270 D 0 (hl_si σ 64 78 ((σ.1 64 78) - 2)) h) trivial
  · have h := hl_neg hc h
    refine hl_lconst (x := 1) d256_265 (by decide) ?_
    refine hl_goto (tg := 270) d256_266 rfl ?_
    exact hl_loc (p_M_qJoins_j270 D 1 (hl_si σ 64 78 ((σ.1 64 78) - 2)) h) trivial
def f_M_qPartOf (v1 : Int32) (v2 : Int32) (σ : hl_M) : Option (Int64) :=
  if v1 = 0 then
  some v2.toInt64 else
  if v1 = 1 then
  (f_M_clashIn v2 σ).bind fun x1 =>
  if x1 = ((-1)) then
  some 0 else
  some 1 else
  if v1 = 2 then
  (f_M_litMany v2 σ).bind fun x2 =>
  some x2.toInt64 else
  (f_M_readIn v2 0 σ).bind fun x3 =>
  some (x3.toInt64 + 1)
set_option maxRecDepth 20000 in
theorem p_M_qPartOf {X : hl_X} (D : Nat) (v1 : Int32) (v2 : Int32) (σ : hl_M) {r : Int64} (h : f_M_qPartOf v1 v2 σ = some r) : hl_R X (D + 4) y260 0 [(0, .ref 64), (1, .int v1), (2, .int v2)] [] σ (some (.long r)) σ := by
  unfold f_M_qPartOf at h
  refine hl_iload_n (i := 1) d260_0 rfl rfl ?_
  by_cases hc1_0 : v1 = 0
  · have h := hl_pos hc1_0 h
    refine hl_tabIn (off := 27) (tg := 28) d260_1 (by rw [hc1_0]; decide) (by rw [hc1_0]; decide) (by rw [hc1_0]; rfl) rfl ?_
    refine hl_iload_n (i := 2) d260_28 rfl rfl ?_
    refine hl_i2l d260_29 ?_
    have h := Option.some.inj h
    subst h
    exact hl_lret d260_30 rfl
  have h := hl_neg hc1_0 h
  by_cases hc1_1 : v1 = 1
  · have h := hl_pos hc1_1 h
    refine hl_tabIn (off := 30) (tg := 31) d260_1 (by rw [hc1_1]; decide) (by rw [hc1_1]; decide) (by rw [hc1_1]; rfl) rfl ?_
    refine hl_aload_n (i := 0) d260_31 rfl rfl (by decide) ?_
    refine hl_iload_n (i := 2) d260_32 rfl rfl ?_
    obtain ⟨x1, hx1, h⟩ := hl_bind h
    refine hl_cVi (D := (D + 3)) (z := y147) (n := 1) (av := [.int v2]) (st := []) d260_33 mlM_414 rfl (Nat.le_of_ble_eq_true rfl) (Nat.le_of_ble_eq_true rfl) rc64 ((p_M_clashIn D v2 σ hx1).dle (by omega)) ?_
    refine hl_iconst d260_36 kim1 ?_
    refine hl_icmp_ne (tg := 44) d260_37 rfl (fun hc => ?_) (fun hc => ?_)
    · have h := hl_neg hc h
      refine hl_lconst (x := 1) d260_44 (by decide) ?_
      have h := Option.some.inj h
      subst h
      exact hl_lret d260_45 rfl
    · have h := hl_pos hc h
      refine hl_lconst (x := 0) d260_40 (by decide) ?_
      refine hl_goto (tg := 45) d260_41 rfl ?_
      have h := Option.some.inj h
      subst h
      exact hl_lret d260_45 rfl
  have h := hl_neg hc1_1 h
  by_cases hc1_2 : v1 = 2
  · have h := hl_pos hc1_2 h
    refine hl_tabIn (off := 45) (tg := 46) d260_1 (by rw [hc1_2]; decide) (by rw [hc1_2]; decide) (by rw [hc1_2]; rfl) rfl ?_
    refine hl_aload_n (i := 0) d260_46 rfl rfl (by decide) ?_
    refine hl_iload_n (i := 2) d260_47 rfl rfl ?_
    obtain ⟨x2, hx2, h⟩ := hl_bind h
    refine hl_cVi (D := (D + 3)) (z := y169) (n := 1) (av := [.int v2]) (st := []) d260_48 mlM_423 rfl (Nat.le_of_ble_eq_true rfl) (Nat.le_of_ble_eq_true rfl) rc64 ((p_M_litMany D v2 σ hx2).dle (by omega)) ?_
    refine hl_i2l d260_51 ?_
    have h := Option.some.inj h
    subst h
    exact hl_lret d260_52 rfl
  have h := hl_neg hc1_2 h
  refine hl_tabD (tg := 53) d260_1 (fun k g1 g2 e => by
        rcases (by omega : k = 0 ∨ k = 1 ∨ k = 2) with rfl | rfl | rfl
        · exact hc1_0 (Int32.toInt_inj.mp (e.trans (by decide)))
        · exact hc1_1 (Int32.toInt_inj.mp (e.trans (by decide)))
        · exact hc1_2 (Int32.toInt_inj.mp (e.trans (by decide)))
      ) rfl ?_
  refine hl_aload_n (i := 0) d260_53 rfl rfl (by decide) ?_
  refine hl_iload_n (i := 2) d260_54 rfl rfl ?_
  refine hl_iconst d260_55 ki0 ?_
  obtain ⟨x3, hx3, h⟩ := hl_bind h
  refine hl_cVi (D := (D + 3)) (z := y160) (n := 2) (av := [.int v2, .int 0]) (st := []) d260_56 mlM_417 rfl (Nat.le_of_ble_eq_true rfl) (Nat.le_of_ble_eq_true rfl) rc64 ((p_M_readIn D v2 0 σ hx3).dle (by omega)) ?_
  refine hl_i2l d260_59 ?_
  refine hl_lconst (x := 1) d260_60 (by decide) ?_
  refine hl_ladd d260_61 ?_
  have h := Option.some.inj h
  subst h
  exact hl_lret d260_62 rfl
def f_M_qOf (v1 : Int32) (v2 : Int64) (v4 : Int32) (σ : hl_M) : Option (Int64) :=
  if v1 = 0 then
  (f_M_personMany σ).bind fun x1 =>
  if (f_M_isIn v2 0 ((x1 - 1).toInt64)) = 0 then
  some 99 else
  (f_M_whereIn v2.toInt32 v4 σ).bind fun x2 =>
  some x2.toInt64 else
  if v1 = 1 then
  (f_M_wordMany σ).bind fun x3 =>
  if (f_M_isIn v2 0 ((x3 - 1).toInt64)) = 0 then
  some 99 else
  (f_M_farFrom v4 v2.toInt32 0 σ).bind fun x4 =>
  some x4.toInt64 else
  if (f_M_isIn v2 0 (((f_M_cells σ) - 1).toInt64)) = 0 then
  some 0 else
  (f_M_litIn v4 v2.toInt32 σ).bind fun x5 =>
  some x5.toInt64
set_option maxRecDepth 20000 in
theorem p_M_qOf {X : hl_X} (D : Nat) (v1 : Int32) (v2 : Int64) (v4 : Int32) (σ : hl_M) {r : Int64} (h : f_M_qOf v1 v2 v4 σ = some r) : hl_R X (D + 3) y261 0 [(0, .ref 64), (1, .int v1), (2, .long v2), (4, .int v4)] [] σ (some (.long r)) σ := by
  unfold f_M_qOf at h
  refine hl_iload_n (i := 1) d261_0 rfl rfl ?_
  by_cases hc1_0 : v1 = 0
  · have h := hl_pos hc1_0 h
    refine hl_look (off := 27) (tg := 28) d261_1 (by decide) (by rw [hc1_0]; rfl) rfl ?_
    refine hl_lload_n (i := 2) d261_28 rfl rfl ?_
    refine hl_lconst (x := 0) d261_29 (by decide) ?_
    refine hl_aload_n (i := 0) d261_30 rfl rfl (by decide) ?_
    obtain ⟨x1, hx1, h⟩ := hl_bind h
    refine hl_cVi (D := (D + 2)) (z := y93) (n := 0) (av := []) (st := [.long 0, .long v2]) d261_31 mlM_335 rfl (Nat.le_of_ble_eq_true rfl) (Nat.le_of_ble_eq_true rfl) rc64 ((p_M_personMany D σ hx1).dle (by omega)) ?_
    refine hl_iconst d261_34 ki1 ?_
    refine hl_isub d261_35 ?_
    refine hl_i2l d261_36 ?_
    refine hl_cSi (D := (D + 2)) (z := y70) (n := 3) (av := [.long v2, .long 0, .long ((x1 - 1).toInt64)]) (st := []) d261_37 mlM_216 rfl (Nat.le_of_ble_eq_true rfl) (Nat.le_of_ble_eq_true rfl) ((p_M_isIn D v2 0 ((x1 - 1).toInt64) σ rfl).dle (by omega)) ?_
    refine hl_if_eq (tg := 55) d261_40 rfl (fun hc => ?_) (fun hc => ?_)
    · have h := hl_pos hc h
      refine hl_ldc2 d261_55 wlM_341 ?_
      have h := Option.some.inj h
      subst h
      exact hl_lret d261_58 rfl
    · have h := hl_neg hc h
      refine hl_aload_n (i := 0) d261_43 rfl rfl (by decide) ?_
      refine hl_lload_n (i := 2) d261_44 rfl rfl ?_
      refine hl_l2i d261_45 ?_
      refine hl_iload d261_46 rfl ?_
      obtain ⟨x2, hx2, h⟩ := hl_bind h
      refine hl_cVi (D := (D + 2)) (z := y117) (n := 2) (av := [.int v2.toInt32, .int v4]) (st := []) d261_48 mlM_349 rfl (Nat.le_of_ble_eq_true rfl) (Nat.le_of_ble_eq_true rfl) rc64 ((p_M_whereIn D v2.toInt32 v4 σ hx2).dle (by omega)) ?_
      refine hl_i2l d261_51 ?_
      refine hl_goto (tg := 58) d261_52 rfl ?_
      have h := Option.some.inj h
      subst h
      exact hl_lret d261_58 rfl
  have h := hl_neg hc1_0 h
  by_cases hc1_1 : v1 = 1
  · have h := hl_pos hc1_1 h
    refine hl_look (off := 58) (tg := 59) d261_1 (by decide) (by rw [hc1_1]; rfl) rfl ?_
    refine hl_lload_n (i := 2) d261_59 rfl rfl ?_
    refine hl_lconst (x := 0) d261_60 (by decide) ?_
    refine hl_aload_n (i := 0) d261_61 rfl rfl (by decide) ?_
    obtain ⟨x3, hx3, h⟩ := hl_bind h
    refine hl_cVi (D := (D + 2)) (z := y111) (n := 0) (av := []) (st := [.long 0, .long v2]) d261_62 mlM_338 rfl (Nat.le_of_ble_eq_true rfl) (Nat.le_of_ble_eq_true rfl) rc64 ((p_M_wordMany D σ hx3).dle (by omega)) ?_
    refine hl_iconst d261_65 ki1 ?_
    refine hl_isub d261_66 ?_
    refine hl_i2l d261_67 ?_
    refine hl_cSi (D := (D + 2)) (z := y70) (n := 3) (av := [.long v2, .long 0, .long ((x3 - 1).toInt64)]) (st := []) d261_68 mlM_216 rfl (Nat.le_of_ble_eq_true rfl) (Nat.le_of_ble_eq_true rfl) ((p_M_isIn D v2 0 ((x3 - 1).toInt64) σ rfl).dle (by omega)) ?_
    refine hl_if_eq (tg := 87) d261_71 rfl (fun hc => ?_) (fun hc => ?_)
    · have h := hl_pos hc h
      refine hl_ldc2 d261_87 wlM_341 ?_
      have h := Option.some.inj h
      subst h
      exact hl_lret d261_90 rfl
    · have h := hl_neg hc h
      refine hl_aload_n (i := 0) d261_74 rfl rfl (by decide) ?_
      refine hl_iload d261_75 rfl ?_
      refine hl_lload_n (i := 2) d261_77 rfl rfl ?_
      refine hl_l2i d261_78 ?_
      refine hl_iconst d261_79 ki0 ?_
      obtain ⟨x4, hx4, h⟩ := hl_bind h
      refine hl_cVi (D := (D + 2)) (z := y115) (n := 3) (av := [.int v4, .int v2.toInt32, .int 0]) (st := []) d261_80 mlM_364 rfl (Nat.le_of_ble_eq_true rfl) (Nat.le_of_ble_eq_true rfl) rc64 ((p_M_farFrom D v4 v2.toInt32 0 σ hx4).dle (by omega)) ?_
      refine hl_i2l d261_83 ?_
      refine hl_goto (tg := 90) d261_84 rfl ?_
      have h := Option.some.inj h
      subst h
      exact hl_lret d261_90 rfl
  have h := hl_neg hc1_1 h
  refine hl_look (off := 90) (tg := 91) d261_1 (by decide) ((lv_osw hc1_0 (by decide)).trans ((lv_osw hc1_1 (by decide)).trans (rfl))) rfl ?_
  refine hl_lload_n (i := 2) d261_91 rfl rfl ?_
  refine hl_lconst (x := 0) d261_92 (by decide) ?_
  refine hl_aload_n (i := 0) d261_93 rfl rfl (by decide) ?_
  refine hl_cVi (D := (D + 2)) (z := y89) (n := 0) (av := []) (st := [.long 0, .long v2]) d261_94 mlM_320 rfl (Nat.le_of_ble_eq_true rfl) (Nat.le_of_ble_eq_true rfl) rc64 ((p_M_cells D σ rfl).dle (by omega)) ?_
  refine hl_iconst d261_97 ki1 ?_
  refine hl_isub d261_98 ?_
  refine hl_i2l d261_99 ?_
  refine hl_cSi (D := (D + 2)) (z := y70) (n := 3) (av := [.long v2, .long 0, .long (((f_M_cells σ) - 1).toInt64)]) (st := []) d261_100 mlM_216 rfl (Nat.le_of_ble_eq_true rfl) (Nat.le_of_ble_eq_true rfl) ((p_M_isIn D v2 0 (((f_M_cells σ) - 1).toInt64) σ rfl).dle (by omega)) ?_
  refine hl_if_eq (tg := 118) d261_103 rfl (fun hc => ?_) (fun hc => ?_)
  · have h := hl_pos hc h
    refine hl_lconst (x := 0) d261_118 (by decide) ?_
    have h := Option.some.inj h
    subst h
    exact hl_lret d261_119 rfl
  · have h := hl_neg hc h
    refine hl_aload_n (i := 0) d261_106 rfl rfl (by decide) ?_
    refine hl_iload d261_107 rfl ?_
    refine hl_lload_n (i := 2) d261_109 rfl rfl ?_
    refine hl_l2i d261_110 ?_
    obtain ⟨x5, hx5, h⟩ := hl_bind h
    refine hl_cVi (D := (D + 2)) (z := y116) (n := 2) (av := [.int v4, .int v2.toInt32]) (st := []) d261_111 mlM_361 rfl (Nat.le_of_ble_eq_true rfl) (Nat.le_of_ble_eq_true rfl) rc64 ((p_M_litIn D v4 v2.toInt32 σ hx5).dle (by omega)) ?_
    refine hl_i2l d261_114 ?_
    refine hl_goto (tg := 119) d261_115 rfl ?_
    have h := Option.some.inj h
    subst h
    exact hl_lret d261_119 rfl
def f_M_qTold_L7 (v1 : Int32) (s : Int32 × hl_M) : Option ((Int32 × hl_M) ⊕ (hl_M)) :=
  if (s.2.1 64 72) ≤ s.1 then
  some (.inr s.2) else
  if hl_b s.1 1700 then
  if (s.2.1 110 s.1.toNatClampNeg) < 1000 then
  if (s.2.1 110 s.1.toNatClampNeg) < 60 then
  if (s.2.1 110 s.1.toNatClampNeg) < 40 then
  if (s.2.1 110 s.1.toNatClampNeg) = 13 then
  (f_M_qPuts 1 s.2).bind fun x2 =>
  some (.inl ((s.1 + 1, x2))) else
  if (s.2.1 110 s.1.toNatClampNeg) = 12 then
  if hl_b ((s.2.1 64 78) - 1) 1700 then
  if hl_b ((s.2.1 64 78) - 1) 1700 then
  some (.inl ((s.1 + 1, hl_sl s.2 112 ((s.2.1 64 78) - 1).toNatClampNeg (1 - (s.2.2 112 ((s.2.1 64 78) - 1).toNatClampNeg))))) else none else none else
  (f_M_qJoins (s.2.1 110 s.1.toNatClampNeg) s.2).bind fun x1 =>
  some (.inl ((s.1 + 1, x1))) else
  (f_M_qPartOf ((s.2.1 110 s.1.toNatClampNeg) - 40) v1 s.2).bind fun x3 =>
  (f_M_qPuts (f_M_qClip x3) s.2).bind fun x4 =>
  some (.inl ((s.1 + 1, x4))) else
  if hl_b ((s.2.1 64 78) - 1) 1700 then
  (f_M_qOf ((s.2.1 110 s.1.toNatClampNeg) - 60) (s.2.2 112 ((s.2.1 64 78) - 1).toNatClampNeg) v1 s.2).bind fun x5 =>
  if hl_b ((s.2.1 64 78) - 1) 1700 then
  some (.inl ((s.1 + 1, hl_sl s.2 112 ((s.2.1 64 78) - 1).toNatClampNeg (f_M_qClip x5)))) else none else none else
  (f_M_qPuts (((s.2.1 110 s.1.toNatClampNeg) - 1000).toInt64) s.2).bind fun x6 =>
  some (.inl ((s.1 + 1, x6))) else none
def f_M_qTold (v1 : Int32) (σ : hl_M) : Option (Int64 × hl_M) :=
  (hl_lp (f_M_qTold_L7 v1) hl_big ((0, hl_si σ 64 78 0))).bind fun x7 =>
  if hl_b (0 : Int32) 1700 then
  some ((x7.2 112 (0 : Int32).toNatClampNeg, x7)) else none
set_option maxRecDepth 20000 in
theorem p_M_qTold_L7 {X : hl_X} (D : Nat) (v1 : Int32) (s : Int32 × hl_M) {o : (Int32 × hl_M) ⊕ (hl_M)} {v : Option Value} {τ : hl_M} (h : f_M_qTold_L7 v1 s = some o) (k1 : ∀ (c0 : Int32) (c1 : hl_M), o = .inl ((c0, c1)) → hl_R X (D + 5) y255 7 [(0, .ref 64), (1, .int v1), (2, .int c0)] [] c1 v τ) (k2 : ∀ (a0 : hl_M), o = .inr a0 → hl_R X (D + 5) y255 168 [(0, .ref 64)] [] a0 v τ) : hl_R X (D + 5) y255 7 [(0, .ref 64), (1, .int v1), (2, .int s.1)] [] s.2 v τ := by
  unfold f_M_qTold_L7 at h
  refine hl_iload_n (i := 2) d255_7 rfl rfl ?_
  refine hl_aload_n (i := 0) d255_8 rfl rfl (by decide) ?_
  refine hl_gi d255_9 gM_476_64 ?_
  refine hl_icmp_ge (tg := 168) d255_12 rfl (fun hc => ?_) (fun hc => ?_)
  · have h := hl_pos hc h
    have h := Option.some.inj h
    subst h
    exact hl_loc (k2 s.2 rfl) ⟨rfl, trivial⟩
  · have h := hl_neg hc h
    refine hl_aload_n (i := 0) d255_15 rfl rfl (by decide) ?_
    refine hl_gr d255_16 gM_158_64 ?_
    refine hl_iload_n (i := 2) d255_19 rfl rfl ?_
    obtain ⟨hb, h⟩ := hl_gd h
    refine hl_iald d255_20 sh110 (hl_b_in hb) ?_
    refine hl_istore_n (i := 3) (ls2 := [(3, .int (s.2.1 110 s.1.toNatClampNeg)), (0, .ref 64), (1, .int v1), (2, .int s.1)]) d255_21 rfl (by decide) rfl ?_
    refine hl_iload_n (i := 3) d255_22 rfl rfl ?_
    refine hl_sipush d255_23 ks1000 ?_
    refine hl_icmp_lt (tg := 42) d255_26 rfl (fun hc => ?_) (fun hc => ?_)
    · have h := hl_pos hc h
      refine hl_iload_n (i := 3) d255_42 rfl rfl ?_
      refine hl_bipush d255_43 kb60 ?_
      refine hl_icmp_lt (tg := 85) d255_45 rfl (fun hc => ?_) (fun hc => ?_)
      · have h := hl_pos hc h
        refine hl_iload_n (i := 3) d255_85 rfl rfl ?_
        refine hl_bipush d255_86 kb40 ?_
        refine hl_icmp_lt (tg := 110) d255_88 rfl (fun hc => ?_) (fun hc => ?_)
        · have h := hl_pos hc h
          refine hl_iload_n (i := 3) d255_110 rfl rfl ?_
          refine hl_bipush d255_111 kb13 ?_
          refine hl_icmp_ne (tg := 124) d255_113 rfl (fun hc => ?_) (fun hc => ?_)
          · have h := hl_neg hc h
            refine hl_iload_n (i := 3) d255_124 rfl rfl ?_
            refine hl_bipush d255_125 kb12 ?_
            refine hl_icmp_ne (tg := 157) d255_127 rfl (fun hc => ?_) (fun hc => ?_)
            · have h := hl_neg hc h
              refine hl_aload_n (i := 0) d255_157 rfl rfl (by decide) ?_
              refine hl_iload_n (i := 3) d255_158 rfl rfl ?_
              obtain ⟨x1, hx1, h⟩ := hl_bind h
              refine hl_cVv (D := (D + 4)) (z := y256) (n := 1) (av := [.int (s.2.1 110 s.1.toNatClampNeg)]) (st := []) d255_159 mlM_569 rfl (Nat.le_of_ble_eq_true rfl) (Nat.le_of_ble_eq_true rfl) rc64 ((p_M_qJoins D (s.2.1 110 s.1.toNatClampNeg) s.2 hx1).dle (by omega)) ?_
              refine hl_iinc (ls2 := [(2, .int (s.1 + 1)), (3, .int (s.2.1 110 s.1.toNatClampNeg)), (0, .ref 64), (1, .int v1)]) d255_162 rfl kx1 (by decide) rfl ?_
              refine hl_goto (tg := 7) d255_165 rfl ?_
              have h := Option.some.inj h
              subst h
              exact hl_loc (k1 (s.1 + 1) x1 rfl) ⟨rfl, rfl, rfl, trivial⟩
            · have h := hl_pos hc h
              refine hl_aload_n (i := 0) d255_130 rfl rfl (by decide) ?_
              refine hl_gr d255_131 gM_164_64 ?_
              refine hl_aload_n (i := 0) d255_134 rfl rfl (by decide) ?_
              refine hl_gi d255_135 gM_546_64 ?_
              refine hl_iconst d255_138 ki1 ?_
              refine hl_isub d255_139 ?_
              refine hl_lconst (x := 1) d255_140 (by decide) ?_
              refine hl_aload_n (i := 0) d255_141 rfl rfl (by decide) ?_
              refine hl_gr d255_142 gM_164_64 ?_
              refine hl_aload_n (i := 0) d255_145 rfl rfl (by decide) ?_
              refine hl_gi d255_146 gM_546_64 ?_
              refine hl_iconst d255_149 ki1 ?_
              refine hl_isub d255_150 ?_
              obtain ⟨hb, h⟩ := hl_gd h
              refine hl_lald d255_151 sh112 (hl_b_in hb) ?_
              refine hl_lsub d255_152 ?_
              obtain ⟨hb, h⟩ := hl_gd h
              refine hl_last (q := 112) d255_153 sh112 (hl_b_in hb) ?_
              refine hl_goto (tg := 162) d255_154 rfl ?_
              refine hl_iinc (ls2 := [(2, .int (s.1 + 1)), (3, .int (s.2.1 110 s.1.toNatClampNeg)), (0, .ref 64), (1, .int v1)]) d255_162 rfl kx1 (by decide) rfl ?_
              refine hl_goto (tg := 7) d255_165 rfl ?_
              have h := Option.some.inj h
              subst h
              exact hl_loc (k1 (s.1 + 1) (hl_sl s.2 112 ((s.2.1 64 78) - 1).toNatClampNeg (1 - (s.2.2 112 ((s.2.1 64 78) - 1).toNatClampNeg))) rfl) ⟨rfl, rfl, rfl, trivial⟩
          · have h := hl_pos hc h
            refine hl_aload_n (i := 0) d255_116 rfl rfl (by decide) ?_
            refine hl_lconst (x := 1) d255_117 (by decide) ?_
            obtain ⟨x2, hx2, h⟩ := hl_bind h
            refine hl_cVv (D := (D + 4)) (z := y258) (n := 1) (av := [.long 1]) (st := []) d255_118 mlM_553 rfl (Nat.le_of_ble_eq_true rfl) (Nat.le_of_ble_eq_true rfl) rc64 ((p_M_qPuts D 1 s.2 hx2).dle (by omega)) ?_
            refine hl_goto (tg := 162) d255_121 rfl ?_
            refine hl_iinc (ls2 := [(2, .int (s.1 + 1)), (3, .int (s.2.1 110 s.1.toNatClampNeg)), (0, .ref 64), (1, .int v1)]) d255_162 rfl kx1 (by decide) rfl ?_
            refine hl_goto (tg := 7) d255_165 rfl ?_
            have h := Option.some.inj h
            subst h
            exact hl_loc (k1 (s.1 + 1) x2 rfl) ⟨rfl, rfl, rfl, trivial⟩
        · have h := hl_neg hc h
          refine hl_aload_n (i := 0) d255_91 rfl rfl (by decide) ?_
          refine hl_aload_n (i := 0) d255_92 rfl rfl (by decide) ?_
          refine hl_iload_n (i := 3) d255_93 rfl rfl ?_
          refine hl_bipush d255_94 kb40 ?_
          refine hl_isub d255_96 ?_
          refine hl_iload_n (i := 1) d255_97 rfl rfl ?_
          obtain ⟨x3, hx3, h⟩ := hl_bind h
          refine hl_cVl (D := (D + 4)) (z := y260) (n := 2) (av := [.int ((s.2.1 110 s.1.toNatClampNeg) - 40), .int v1]) (st := [.ref 64]) d255_98 mlM_565 rfl (Nat.le_of_ble_eq_true rfl) (Nat.le_of_ble_eq_true rfl) rc64 ((p_M_qPartOf D ((s.2.1 110 s.1.toNatClampNeg) - 40) v1 s.2 hx3).dle (by omega)) ?_
          refine hl_cSl (D := (D + 4)) (z := y257) (n := 1) (av := [.long x3]) (st := [.ref 64]) d255_101 mlM_549 rfl (Nat.le_of_ble_eq_true rfl) (Nat.le_of_ble_eq_true rfl) ((p_M_qClip D x3 s.2 rfl).dle (by omega)) ?_
          obtain ⟨x4, hx4, h⟩ := hl_bind h
          refine hl_cVv (D := (D + 4)) (z := y258) (n := 1) (av := [.long (f_M_qClip x3)]) (st := []) d255_104 mlM_553 rfl (Nat.le_of_ble_eq_true rfl) (Nat.le_of_ble_eq_true rfl) rc64 ((p_M_qPuts D (f_M_qClip x3) s.2 hx4).dle (by omega)) ?_
          refine hl_goto (tg := 162) d255_107 rfl ?_
          refine hl_iinc (ls2 := [(2, .int (s.1 + 1)), (3, .int (s.2.1 110 s.1.toNatClampNeg)), (0, .ref 64), (1, .int v1)]) d255_162 rfl kx1 (by decide) rfl ?_
          refine hl_goto (tg := 7) d255_165 rfl ?_
          have h := Option.some.inj h
          subst h
          exact hl_loc (k1 (s.1 + 1) x4 rfl) ⟨rfl, rfl, rfl, trivial⟩
      · have h := hl_neg hc h
        refine hl_aload_n (i := 0) d255_48 rfl rfl (by decide) ?_
        refine hl_gr d255_49 gM_164_64 ?_
        refine hl_aload_n (i := 0) d255_52 rfl rfl (by decide) ?_
        refine hl_gi d255_53 gM_546_64 ?_
        refine hl_iconst d255_56 ki1 ?_
        refine hl_isub d255_57 ?_
        refine hl_aload_n (i := 0) d255_58 rfl rfl (by decide) ?_
        refine hl_iload_n (i := 3) d255_59 rfl rfl ?_
        refine hl_bipush d255_60 kb60 ?_
        refine hl_isub d255_62 ?_
        refine hl_aload_n (i := 0) d255_63 rfl rfl (by decide) ?_
        refine hl_gr d255_64 gM_164_64 ?_
        refine hl_aload_n (i := 0) d255_67 rfl rfl (by decide) ?_
        refine hl_gi d255_68 gM_546_64 ?_
        refine hl_iconst d255_71 ki1 ?_
        refine hl_isub d255_72 ?_
        obtain ⟨hb, h⟩ := hl_gd h
        refine hl_lald d255_73 sh112 (hl_b_in hb) ?_
        refine hl_iload_n (i := 1) d255_74 rfl rfl ?_
        obtain ⟨x5, hx5, h⟩ := hl_bind h
        refine hl_cVl (D := (D + 4)) (z := y261) (n := 3) (av := [.int ((s.2.1 110 s.1.toNatClampNeg) - 60), .long (s.2.2 112 ((s.2.1 64 78) - 1).toNatClampNeg), .int v1]) (st := [.int ((s.2.1 64 78) - 1), .ref 112]) d255_75 mlM_561 rfl (Nat.le_of_ble_eq_true rfl) (Nat.le_of_ble_eq_true rfl) rc64 ((p_M_qOf D ((s.2.1 110 s.1.toNatClampNeg) - 60) (s.2.2 112 ((s.2.1 64 78) - 1).toNatClampNeg) v1 s.2 hx5).dle (by omega)) ?_
        refine hl_cSl (D := (D + 4)) (z := y257) (n := 1) (av := [.long x5]) (st := [.int ((s.2.1 64 78) - 1), .ref 112]) d255_78 mlM_549 rfl (Nat.le_of_ble_eq_true rfl) (Nat.le_of_ble_eq_true rfl) ((p_M_qClip D x5 s.2 rfl).dle (by omega)) ?_
        obtain ⟨hb, h⟩ := hl_gd h
        refine hl_last (q := 112) d255_81 sh112 (hl_b_in hb) ?_
        refine hl_goto (tg := 162) d255_82 rfl ?_
        refine hl_iinc (ls2 := [(2, .int (s.1 + 1)), (3, .int (s.2.1 110 s.1.toNatClampNeg)), (0, .ref 64), (1, .int v1)]) d255_162 rfl kx1 (by decide) rfl ?_
        refine hl_goto (tg := 7) d255_165 rfl ?_
        have h := Option.some.inj h
        subst h
        exact hl_loc (k1 (s.1 + 1) (hl_sl s.2 112 ((s.2.1 64 78) - 1).toNatClampNeg (f_M_qClip x5)) rfl) ⟨rfl, rfl, rfl, trivial⟩
    · have h := hl_neg hc h
      refine hl_aload_n (i := 0) d255_29 rfl rfl (by decide) ?_
      refine hl_iload_n (i := 3) d255_30 rfl rfl ?_
      refine hl_sipush d255_31 ks1000 ?_
      refine hl_isub d255_34 ?_
      refine hl_i2l d255_35 ?_
      obtain ⟨x6, hx6, h⟩ := hl_bind h
      refine hl_cVv (D := (D + 4)) (z := y258) (n := 1) (av := [.long (((s.2.1 110 s.1.toNatClampNeg) - 1000).toInt64)]) (st := []) d255_36 mlM_553 rfl (Nat.le_of_ble_eq_true rfl) (Nat.le_of_ble_eq_true rfl) rc64 ((p_M_qPuts D (((s.2.1 110 s.1.toNatClampNeg) - 1000).toInt64) s.2 hx6).dle (by omega)) ?_
      refine hl_goto (tg := 162) d255_39 rfl ?_
      refine hl_iinc (ls2 := [(2, .int (s.1 + 1)), (3, .int (s.2.1 110 s.1.toNatClampNeg)), (0, .ref 64), (1, .int v1)]) d255_162 rfl kx1 (by decide) rfl ?_
      refine hl_goto (tg := 7) d255_165 rfl ?_
      have h := Option.some.inj h
      subst h
      exact hl_loc (k1 (s.1 + 1) x6 rfl) ⟨rfl, rfl, rfl, trivial⟩
set_option maxRecDepth 20000 in
theorem p_M_qTold {X : hl_X} (D : Nat) (v1 : Int32) (σ : hl_M) {r : Int64} {τ : hl_M} (h : f_M_qTold v1 σ = some (r, τ)) : hl_R X (D + 5) y255 0 [(0, .ref 64), (1, .int v1)] [] σ (some (.long r)) τ := by
  unfold f_M_qTold at h
  refine hl_aload_n (i := 0) d255_0 rfl rfl (by decide) ?_
  refine hl_iconst d255_1 ki0 ?_
  refine hl_pi d255_2 qM_546_64 ?_
  refine hl_iconst d255_5 ki0 ?_
  refine hl_istore_n (i := 2) (ls2 := [(2, .int 0), (0, .ref 64), (1, .int v1)]) d255_6 rfl (by decide) rfl ?_
  obtain ⟨x7, hx7, h⟩ := hl_bind h
  refine hl_R.loc (ls' := [(0, .ref 64), (1, .int v1), (2, .int 0)]) ⟨rfl, rfl, rfl, trivial⟩ ?_
  refine hl_lp_run2 (P := fun (c0 : Int32) (c1 : hl_M) => hl_R X (D + 5) y255 7 [(0, .ref 64), (1, .int v1), (2, .int c0)] [] c1 (some (.long r)) τ) (fun x : hl_M => hl_R X (D + 5) y255 168 [(0, .ref 64)] [] x (some (.long r)) τ) (fun c0 c1 o ho h1 h2 => p_M_qTold_L7 D v1 (c0, c1) ho h1 (fun a0 e => h2 a0 e)) hl_big 0 (hl_si σ 64 78 0) x7 hx7 ?_
  refine hl_aload_n (i := 0) d255_168 rfl rfl (by decide) ?_
  refine hl_gr d255_169 gM_164_64 ?_
  refine hl_iconst d255_172 ki0 ?_
  obtain ⟨hb, h⟩ := hl_gd h
  refine hl_lald d255_173 sh112 (hl_b_in hb) ?_
  obtain ⟨e1, e2⟩ := hl_some2 h
  subst e1; subst e2
  exact hl_lret d255_174 rfl
def f_M_qTakes_j133 (σ : hl_M) : hl_M :=
  hl_si σ 64 80 0
def f_M_qTakes_j128 (v2 : Int64) (σ : hl_M) : hl_M :=
  f_M_qTakes_j133 (hl_sl σ 64 79 v2)
def f_M_qTakes_j90 (v1 : Int32) (v2 : Int64) (σ : hl_M) : hl_M :=
  if v1 ≤ 3 then
  f_M_qTakes_j133 σ else
  if (σ.1 64 80) = 0 then
  if v1 = 4 then
  if v2 ≤ (σ.2 64 79) then
  f_M_qTakes_j133 σ else
  f_M_qTakes_j128 v2 σ else
  if (σ.2 64 79) ≤ v2 then
  f_M_qTakes_j133 σ else
  f_M_qTakes_j128 v2 σ else
  f_M_qTakes_j128 v2 σ
def f_M_qTakes_j75 (v1 : Int32) (v2 : Int64) (σ : hl_M) : hl_M :=
  if v1 = 3 then
  f_M_qTakes_j90 v1 v2 (hl_sl σ 64 79 ((σ.2 64 79) + v2)) else
  f_M_qTakes_j90 v1 v2 σ
def f_M_qTakes_j55 (v1 : Int32) (v2 : Int64) (v5 : Int32) (σ : hl_M) : hl_M :=
  if v1 = 2 then
  if v5 = 0 then
  f_M_qTakes_j75 v1 v2 σ else
  f_M_qTakes_j75 v1 v2 (hl_sl σ 64 79 ((σ.2 64 79) + 1)) else
  f_M_qTakes_j75 v1 v2 σ
def f_M_qTakes_j48 (v1 : Int32) (v2 : Int64) (v4 : Int32) (v5 : Int32) (σ : hl_M) : hl_M :=
  f_M_qTakes_j55 v1 v2 v5 (hl_sl σ 64 79 v4.toInt64)
def f_M_qTakes_j38 (v1 : Int32) (v2 : Int64) (v4 : Int32) (v5 : Int32) (σ : hl_M) : hl_M :=
  if v1 = 1 then
  if v5 = 0 then
  f_M_qTakes_j55 v1 v2 v5 σ else
  f_M_qTakes_j48 v1 v2 v4 v5 σ else
  f_M_qTakes_j55 v1 v2 v5 σ
def f_M_qTakes_j16 (v1 : Int32) (v2 : Int64) (v4 : Int32) (s0 : Int32) (σ : hl_M) : hl_M :=
  if v1 = 0 then
  if s0 = 0 then
  f_M_qTakes_j38 v1 v2 v4 s0 σ else
  if (σ.2 64 79) = ((-1)) then
  f_M_qTakes_j48 v1 v2 v4 s0 σ else
  f_M_qTakes_j38 v1 v2 v4 s0 σ else
  f_M_qTakes_j38 v1 v2 v4 s0 σ
def f_M_qTakes (v1 : Int32) (v2 : Int64) (v4 : Int32) (σ : hl_M) : hl_M :=
  if 3 ≤ v1 then
  f_M_qTakes_j16 v1 v2 v4 0 σ else
  if v2 = 1 then
  f_M_qTakes_j16 v1 v2 v4 1 σ else
  f_M_qTakes_j16 v1 v2 v4 0 σ
set_option maxRecDepth 20000 in
theorem p_M_qTakes_j133 {X : hl_X} (D : Nat) (σ : hl_M) {τ : hl_M} (h : f_M_qTakes_j133 σ = τ) : hl_R X D y262 133 [(0, .ref 64)] [] σ none τ := by
  unfold f_M_qTakes_j133 at h
  refine hl_aload_n (i := 0) d262_133 rfl rfl (by decide) ?_
  refine hl_iconst d262_134 ki0 ?_
  refine hl_pz d262_135 qM_578_64 (Or.inl rfl) ?_
  subst h
  exact hl_vret d262_138 rfl
set_option maxRecDepth 20000 in
theorem p_M_qTakes_j128 {X : hl_X} (D : Nat) (v2 : Int64) (σ : hl_M) {τ : hl_M} (h : f_M_qTakes_j128 v2 σ = τ) : hl_R X D y262 128 [(0, .ref 64), (2, .long v2)] [] σ none τ := by
  unfold f_M_qTakes_j128 at h
  refine hl_aload_n (i := 0) d262_128 rfl rfl (by decide) ?_
  refine hl_lload_n (i := 2) d262_129 rfl rfl ?_
  refine hl_pl d262_130 qM_572_64 ?_
  exact hl_loc (p_M_qTakes_j133 D (hl_sl σ 64 79 v2) h) ⟨rfl, trivial⟩
set_option maxRecDepth 20000 in
theorem p_M_qTakes_j90 {X : hl_X} (D : Nat) (v1 : Int32) (v2 : Int64) (σ : hl_M) {τ : hl_M} (h : f_M_qTakes_j90 v1 v2 σ = τ) : hl_R X D y262 90 [(0, .ref 64), (1, .int v1), (2, .long v2)] [] σ none τ := by
  unfold f_M_qTakes_j90 at h
  refine hl_iload_n (i := 1) d262_90 rfl rfl ?_
  refine hl_iconst d262_91 ki3 ?_
  refine hl_icmp_le (tg := 133) d262_92 rfl (fun hc => ?_) (fun hc => ?_)
  · have h := hl_pos hc h
    exact hl_loc (p_M_qTakes_j133 D σ h) ⟨rfl, trivial⟩
  · have h := hl_neg hc h
    refine hl_aload_n (i := 0) d262_95 rfl rfl (by decide) ?_
    refine hl_gz d262_96 gM_578_64 ?_
    refine hl_if_ne (tg := 128) d262_99 rfl (fun hc => ?_) (fun hc => ?_)
    · have h := hl_neg hc h
      exact hl_loc (p_M_qTakes_j128 D v2 σ h) ⟨rfl, rfl, trivial⟩
    · have h := hl_pos hc h
      refine hl_iload_n (i := 1) d262_102 rfl rfl ?_
      refine hl_iconst d262_103 ki4 ?_
      refine hl_icmp_ne (tg := 119) d262_104 rfl (fun hc => ?_) (fun hc => ?_)
      · have h := hl_neg hc h
        refine hl_lload_n (i := 2) d262_119 rfl rfl ?_
        refine hl_aload_n (i := 0) d262_120 rfl rfl (by decide) ?_
        refine hl_gl d262_121 gM_572_64 ?_
        refine hl_lc_ge (tg := 133) d262_124 d262_125 rfl (fun hc => ?_) (fun hc => ?_)
        · have h := hl_pos hc h
          exact hl_loc (p_M_qTakes_j133 D σ h) ⟨rfl, trivial⟩
        · have h := hl_neg hc h
          exact hl_loc (p_M_qTakes_j128 D v2 σ h) ⟨rfl, rfl, trivial⟩
      · have h := hl_pos hc h
        refine hl_lload_n (i := 2) d262_107 rfl rfl ?_
        refine hl_aload_n (i := 0) d262_108 rfl rfl (by decide) ?_
        refine hl_gl d262_109 gM_572_64 ?_
        refine hl_lc_le (tg := 133) d262_112 d262_113 rfl (fun hc => ?_) (fun hc => ?_)
        · have h := hl_pos hc h
          exact hl_loc (p_M_qTakes_j133 D σ h) ⟨rfl, trivial⟩
        · have h := hl_neg hc h
          refine hl_goto (tg := 128) d262_116 rfl ?_
          exact hl_loc (p_M_qTakes_j128 D v2 σ h) ⟨rfl, rfl, trivial⟩
set_option maxRecDepth 20000 in
theorem p_M_qTakes_j75 {X : hl_X} (D : Nat) (v1 : Int32) (v2 : Int64) (σ : hl_M) {τ : hl_M} (h : f_M_qTakes_j75 v1 v2 σ = τ) : hl_R X D y262 75 [(0, .ref 64), (1, .int v1), (2, .long v2)] [] σ none τ := by
  unfold f_M_qTakes_j75 at h
  refine hl_iload_n (i := 1) d262_75 rfl rfl ?_
  refine hl_iconst d262_76 ki3 ?_
  refine hl_icmp_ne (tg := 90) d262_77 rfl (fun hc => ?_) (fun hc => ?_)
  · have h := hl_neg hc h
    exact hl_loc (p_M_qTakes_j90 D v1 v2 σ h) ⟨rfl, rfl, rfl, trivial⟩
  · have h := hl_pos hc h
    refine hl_aload_n (i := 0) d262_80 rfl rfl (by decide) ?_
    refine hl_dup d262_81 rfl ?_
    refine hl_gl d262_82 gM_572_64 ?_
    refine hl_lload_n (i := 2) d262_85 rfl rfl ?_
    refine hl_ladd d262_86 ?_
    refine hl_pl d262_87 qM_572_64 ?_
    exact hl_loc (p_M_qTakes_j90 D v1 v2 (hl_sl σ 64 79 ((σ.2 64 79) + v2)) h) ⟨rfl, rfl, rfl, trivial⟩
set_option maxRecDepth 20000 in
theorem p_M_qTakes_j55 {X : hl_X} (D : Nat) (v1 : Int32) (v2 : Int64) (v5 : Int32) (σ : hl_M) {τ : hl_M} (h : f_M_qTakes_j55 v1 v2 v5 σ = τ) : hl_R X D y262 55 [(0, .ref 64), (1, .int v1), (2, .long v2), (5, .int v5)] [] σ none τ := by
  unfold f_M_qTakes_j55 at h
  refine hl_iload_n (i := 1) d262_55 rfl rfl ?_
  refine hl_iconst d262_56 ki2 ?_
  refine hl_icmp_ne (tg := 75) d262_57 rfl (fun hc => ?_) (fun hc => ?_)
  · have h := hl_neg hc h
    exact hl_loc (p_M_qTakes_j75 D v1 v2 σ h) ⟨rfl, rfl, rfl, trivial⟩
  · have h := hl_pos hc h
    refine hl_iload d262_60 rfl ?_
    refine hl_if_eq (tg := 75) d262_62 rfl (fun hc => ?_) (fun hc => ?_)
    · have h := hl_pos hc h
      exact hl_loc (p_M_qTakes_j75 D v1 v2 σ h) ⟨rfl, rfl, rfl, trivial⟩
    · have h := hl_neg hc h
      refine hl_aload_n (i := 0) d262_65 rfl rfl (by decide) ?_
      refine hl_dup d262_66 rfl ?_
      refine hl_gl d262_67 gM_572_64 ?_
      refine hl_lconst (x := 1) d262_70 (by decide) ?_
      refine hl_ladd d262_71 ?_
      refine hl_pl d262_72 qM_572_64 ?_
      exact hl_loc (p_M_qTakes_j75 D v1 v2 (hl_sl σ 64 79 ((σ.2 64 79) + 1)) h) ⟨rfl, rfl, rfl, trivial⟩
set_option maxRecDepth 20000 in
theorem p_M_qTakes_j48 {X : hl_X} (D : Nat) (v1 : Int32) (v2 : Int64) (v4 : Int32) (v5 : Int32) (σ : hl_M) {τ : hl_M} (h : f_M_qTakes_j48 v1 v2 v4 v5 σ = τ) : hl_R X D y262 48 [(0, .ref 64), (1, .int v1), (2, .long v2), (4, .int v4), (5, .int v5)] [] σ none τ := by
  unfold f_M_qTakes_j48 at h
  refine hl_aload_n (i := 0) d262_48 rfl rfl (by decide) ?_
  refine hl_iload d262_49 rfl ?_
  refine hl_i2l d262_51 ?_
  refine hl_pl d262_52 qM_572_64 ?_
  exact hl_loc (p_M_qTakes_j55 D v1 v2 v5 (hl_sl σ 64 79 v4.toInt64) h) ⟨rfl, rfl, rfl, rfl, trivial⟩
set_option maxRecDepth 20000 in
theorem p_M_qTakes_j38 {X : hl_X} (D : Nat) (v1 : Int32) (v2 : Int64) (v4 : Int32) (v5 : Int32) (σ : hl_M) {τ : hl_M} (h : f_M_qTakes_j38 v1 v2 v4 v5 σ = τ) : hl_R X D y262 38 [(0, .ref 64), (1, .int v1), (2, .long v2), (4, .int v4), (5, .int v5)] [] σ none τ := by
  unfold f_M_qTakes_j38 at h
  refine hl_iload_n (i := 1) d262_38 rfl rfl ?_
  refine hl_iconst d262_39 ki1 ?_
  refine hl_icmp_ne (tg := 55) d262_40 rfl (fun hc => ?_) (fun hc => ?_)
  · have h := hl_neg hc h
    exact hl_loc (p_M_qTakes_j55 D v1 v2 v5 σ h) ⟨rfl, rfl, rfl, rfl, trivial⟩
  · have h := hl_pos hc h
    refine hl_iload d262_43 rfl ?_
    refine hl_if_eq (tg := 55) d262_45 rfl (fun hc => ?_) (fun hc => ?_)
    · have h := hl_pos hc h
      exact hl_loc (p_M_qTakes_j55 D v1 v2 v5 σ h) ⟨rfl, rfl, rfl, rfl, trivial⟩
    · have h := hl_neg hc h
      exact hl_loc (p_M_qTakes_j48 D v1 v2 v4 v5 σ h) ⟨rfl, rfl, rfl, rfl, rfl, trivial⟩
set_option maxRecDepth 20000 in
theorem p_M_qTakes_j16 {X : hl_X} (D : Nat) (v1 : Int32) (v2 : Int64) (v4 : Int32) (s0 : Int32) (σ : hl_M) {τ : hl_M} (h : f_M_qTakes_j16 v1 v2 v4 s0 σ = τ) : hl_R X D y262 16 [(0, .ref 64), (1, .int v1), (2, .long v2), (4, .int v4)] [.int s0] σ none τ := by
  unfold f_M_qTakes_j16 at h
  refine hl_istore (ls2 := [(5, .int s0), (0, .ref 64), (1, .int v1), (2, .long v2), (4, .int v4)]) d262_16 (by decide) rfl ?_
  refine hl_iload_n (i := 1) d262_18 rfl rfl ?_
  refine hl_if_ne (tg := 38) d262_19 rfl (fun hc => ?_) (fun hc => ?_)
  · have h := hl_neg hc h
    exact hl_loc (p_M_qTakes_j38 D v1 v2 v4 s0 σ h) ⟨rfl, rfl, rfl, rfl, rfl, trivial⟩
  · have h := hl_pos hc h
    refine hl_iload d262_22 rfl ?_
    refine hl_if_eq (tg := 38) d262_24 rfl (fun hc => ?_) (fun hc => ?_)
    · have h := hl_pos hc h
      exact hl_loc (p_M_qTakes_j38 D v1 v2 v4 s0 σ h) ⟨rfl, rfl, rfl, rfl, rfl, trivial⟩
    · have h := hl_neg hc h
      refine hl_aload_n (i := 0) d262_27 rfl rfl (by decide) ?_
      refine hl_gl d262_28 gM_572_64 ?_
      refine hl_ldc2 d262_31 wlM_576 ?_
      refine hl_lc_eq (tg := 48) d262_34 d262_35 rfl (fun hc => ?_) (fun hc => ?_)
      · have h := hl_pos hc h
        exact hl_loc (p_M_qTakes_j48 D v1 v2 v4 s0 σ h) ⟨rfl, rfl, rfl, rfl, rfl, trivial⟩
      · have h := hl_neg hc h
        exact hl_loc (p_M_qTakes_j38 D v1 v2 v4 s0 σ h) ⟨rfl, rfl, rfl, rfl, rfl, trivial⟩
set_option maxRecDepth 20000 in
theorem p_M_qTakes {X : hl_X} (D : Nat) (v1 : Int32) (v2 : Int64) (v4 : Int32) (σ : hl_M) {τ : hl_M} (h : f_M_qTakes v1 v2 v4 σ = τ) : hl_R X D y262 0 [(0, .ref 64), (1, .int v1), (2, .long v2), (4, .int v4)] [] σ none τ := by
  unfold f_M_qTakes at h
  refine hl_iload_n (i := 1) d262_0 rfl rfl ?_
  refine hl_iconst d262_1 ki3 ?_
  refine hl_icmp_ge (tg := 15) d262_2 rfl (fun hc => ?_) (fun hc => ?_)
  · have h := hl_pos hc h
    refine hl_iconst d262_15 ki0 ?_
    exact hl_loc (p_M_qTakes_j16 D v1 v2 v4 0 σ h) ⟨rfl, rfl, rfl, rfl, trivial⟩
  · have h := hl_neg hc h
    refine hl_lload_n (i := 2) d262_5 rfl rfl ?_
    refine hl_lconst (x := 1) d262_6 (by decide) ?_
    refine hl_lc_ne (tg := 15) d262_7 d262_8 rfl (fun hc => ?_) (fun hc => ?_)
    · have h := hl_neg hc h
      refine hl_iconst d262_15 ki0 ?_
      exact hl_loc (p_M_qTakes_j16 D v1 v2 v4 0 σ h) ⟨rfl, rfl, rfl, rfl, trivial⟩
    · have h := hl_pos hc h
      refine hl_iconst d262_11 ki1 ?_
      refine hl_goto (tg := 16) d262_12 rfl ?_
      exact hl_loc (p_M_qTakes_j16 D v1 v2 v4 1 σ h) ⟨rfl, rfl, rfl, rfl, trivial⟩
def f_M_qWordHere (σ : hl_M) : Option (Int32 × hl_M) :=
  (f_M_isHere 103 σ).bind fun x1 =>
  if x1.1 = 0 then
  (f_M_isHere 104 x1.2).bind fun x2 =>
  if x2.1 = 0 then
  (f_M_isHere 105 x2.2).bind fun x3 =>
  if x3.1 = 0 then
  (f_M_isHere 106 x3.2).bind fun x4 =>
  if x4.1 = 0 then
  (f_M_isHere 107 x4.2).bind fun x5 =>
  if x5.1 = 0 then
  (f_M_isHere 108 x5.2).bind fun x6 =>
  if x6.1 = 0 then
  (f_M_isHere 109 x6.2).bind fun x7 =>
  if x7.1 = 0 then
  some (((-1), x7.2)) else
  some ((6, x7.2)) else
  some ((5, x6.2)) else
  some ((4, x5.2)) else
  some ((3, x4.2)) else
  some ((2, x3.2)) else
  some ((1, x2.2)) else
  some ((0, x1.2))
set_option maxRecDepth 20000 in
theorem p_M_qWordHere {X : hl_X} (D : Nat) (σ : hl_M) {r : Int32} {τ : hl_M} (h : f_M_qWordHere σ = some (r, τ)) : hl_R X (D + 2) y266 0 [(0, .ref 64)] [] σ (some (.int r)) τ := by
  unfold f_M_qWordHere at h
  refine hl_aload_n (i := 0) d266_0 rfl rfl (by decide) ?_
  refine hl_aload_n (i := 0) d266_1 rfl rfl (by decide) ?_
  refine hl_gr d266_2 gM_137_64 ?_
  obtain ⟨x1, hx1, h⟩ := hl_bind h
  refine hl_cVi (D := (D + 1)) (z := y64) (n := 1) (av := [.ref 103]) (st := []) d266_5 mlM_196 rfl (Nat.le_of_ble_eq_true rfl) (Nat.le_of_ble_eq_true rfl) rc64 ((p_M_isHere D 103 (by decide) σ hx1).dle (by omega)) ?_
  refine hl_if_eq (tg := 13) d266_8 rfl (fun hc => ?_) (fun hc => ?_)
  · have h := hl_pos hc h
    refine hl_aload_n (i := 0) d266_13 rfl rfl (by decide) ?_
    refine hl_aload_n (i := 0) d266_14 rfl rfl (by decide) ?_
    refine hl_gr d266_15 gM_140_64 ?_
    obtain ⟨x2, hx2, h⟩ := hl_bind h
    refine hl_cVi (D := (D + 1)) (z := y64) (n := 1) (av := [.ref 104]) (st := []) d266_18 mlM_196 rfl (Nat.le_of_ble_eq_true rfl) (Nat.le_of_ble_eq_true rfl) rc64 ((p_M_isHere D 104 (by decide) x1.2 hx2).dle (by omega)) ?_
    refine hl_if_eq (tg := 26) d266_21 rfl (fun hc => ?_) (fun hc => ?_)
    · have h := hl_pos hc h
      refine hl_aload_n (i := 0) d266_26 rfl rfl (by decide) ?_
      refine hl_aload_n (i := 0) d266_27 rfl rfl (by decide) ?_
      refine hl_gr d266_28 gM_143_64 ?_
      obtain ⟨x3, hx3, h⟩ := hl_bind h
      refine hl_cVi (D := (D + 1)) (z := y64) (n := 1) (av := [.ref 105]) (st := []) d266_31 mlM_196 rfl (Nat.le_of_ble_eq_true rfl) (Nat.le_of_ble_eq_true rfl) rc64 ((p_M_isHere D 105 (by decide) x2.2 hx3).dle (by omega)) ?_
      refine hl_if_eq (tg := 39) d266_34 rfl (fun hc => ?_) (fun hc => ?_)
      · have h := hl_pos hc h
        refine hl_aload_n (i := 0) d266_39 rfl rfl (by decide) ?_
        refine hl_aload_n (i := 0) d266_40 rfl rfl (by decide) ?_
        refine hl_gr d266_41 gM_146_64 ?_
        obtain ⟨x4, hx4, h⟩ := hl_bind h
        refine hl_cVi (D := (D + 1)) (z := y64) (n := 1) (av := [.ref 106]) (st := []) d266_44 mlM_196 rfl (Nat.le_of_ble_eq_true rfl) (Nat.le_of_ble_eq_true rfl) rc64 ((p_M_isHere D 106 (by decide) x3.2 hx4).dle (by omega)) ?_
        refine hl_if_eq (tg := 52) d266_47 rfl (fun hc => ?_) (fun hc => ?_)
        · have h := hl_pos hc h
          refine hl_aload_n (i := 0) d266_52 rfl rfl (by decide) ?_
          refine hl_aload_n (i := 0) d266_53 rfl rfl (by decide) ?_
          refine hl_gr d266_54 gM_149_64 ?_
          obtain ⟨x5, hx5, h⟩ := hl_bind h
          refine hl_cVi (D := (D + 1)) (z := y64) (n := 1) (av := [.ref 107]) (st := []) d266_57 mlM_196 rfl (Nat.le_of_ble_eq_true rfl) (Nat.le_of_ble_eq_true rfl) rc64 ((p_M_isHere D 107 (by decide) x4.2 hx5).dle (by omega)) ?_
          refine hl_if_eq (tg := 65) d266_60 rfl (fun hc => ?_) (fun hc => ?_)
          · have h := hl_pos hc h
            refine hl_aload_n (i := 0) d266_65 rfl rfl (by decide) ?_
            refine hl_aload_n (i := 0) d266_66 rfl rfl (by decide) ?_
            refine hl_gr d266_67 gM_152_64 ?_
            obtain ⟨x6, hx6, h⟩ := hl_bind h
            refine hl_cVi (D := (D + 1)) (z := y64) (n := 1) (av := [.ref 108]) (st := []) d266_70 mlM_196 rfl (Nat.le_of_ble_eq_true rfl) (Nat.le_of_ble_eq_true rfl) rc64 ((p_M_isHere D 108 (by decide) x5.2 hx6).dle (by omega)) ?_
            refine hl_if_eq (tg := 78) d266_73 rfl (fun hc => ?_) (fun hc => ?_)
            · have h := hl_pos hc h
              refine hl_aload_n (i := 0) d266_78 rfl rfl (by decide) ?_
              refine hl_aload_n (i := 0) d266_79 rfl rfl (by decide) ?_
              refine hl_gr d266_80 gM_155_64 ?_
              obtain ⟨x7, hx7, h⟩ := hl_bind h
              refine hl_cVi (D := (D + 1)) (z := y64) (n := 1) (av := [.ref 109]) (st := []) d266_83 mlM_196 rfl (Nat.le_of_ble_eq_true rfl) (Nat.le_of_ble_eq_true rfl) rc64 ((p_M_isHere D 109 (by decide) x6.2 hx7).dle (by omega)) ?_
              refine hl_if_eq (tg := 92) d266_86 rfl (fun hc => ?_) (fun hc => ?_)
              · have h := hl_pos hc h
                refine hl_iconst d266_92 kim1 ?_
                obtain ⟨e1, e2⟩ := hl_some2 h
                subst e1; subst e2
                exact hl_iret d266_93 rfl
              · have h := hl_neg hc h
                refine hl_bipush d266_89 kb6 ?_
                obtain ⟨e1, e2⟩ := hl_some2 h
                subst e1; subst e2
                exact hl_iret d266_91 rfl
            · have h := hl_neg hc h
              refine hl_iconst d266_76 ki5 ?_
              obtain ⟨e1, e2⟩ := hl_some2 h
              subst e1; subst e2
              exact hl_iret d266_77 rfl
          · have h := hl_neg hc h
            refine hl_iconst d266_63 ki4 ?_
            obtain ⟨e1, e2⟩ := hl_some2 h
            subst e1; subst e2
            exact hl_iret d266_64 rfl
        · have h := hl_neg hc h
          refine hl_iconst d266_50 ki3 ?_
          obtain ⟨e1, e2⟩ := hl_some2 h
          subst e1; subst e2
          exact hl_iret d266_51 rfl
      · have h := hl_neg hc h
        refine hl_iconst d266_37 ki2 ?_
        obtain ⟨e1, e2⟩ := hl_some2 h
        subst e1; subst e2
        exact hl_iret d266_38 rfl
    · have h := hl_neg hc h
      refine hl_iconst d266_24 ki1 ?_
      obtain ⟨e1, e2⟩ := hl_some2 h
      subst e1; subst e2
      exact hl_iret d266_25 rfl
  · have h := hl_neg hc h
    refine hl_iconst d266_11 ki0 ?_
    obtain ⟨e1, e2⟩ := hl_some2 h
    subst e1; subst e2
    exact hl_iret d266_12 rfl
def f_M_qWordOf (v1 : Int32) (v2 : Int32) (σ : hl_M) : Option (Int32 × hl_M) :=
  (f_M_qWordHere σ).bind fun x1 =>
  if x1.1 < v1 then
  some (((-1), x1.2)) else
  if v2 ≤ x1.1 then
  some (((-1), x1.2)) else
  some ((x1.1, x1.2))
set_option maxRecDepth 20000 in
theorem p_M_qWordOf {X : hl_X} (D : Nat) (v1 : Int32) (v2 : Int32) (σ : hl_M) {r : Int32} {τ : hl_M} (h : f_M_qWordOf v1 v2 σ = some (r, τ)) : hl_R X (D + 3) y265 0 [(0, .ref 64), (1, .int v1), (2, .int v2)] [] σ (some (.int r)) τ := by
  unfold f_M_qWordOf at h
  refine hl_aload_n (i := 0) d265_0 rfl rfl (by decide) ?_
  obtain ⟨x1, hx1, h⟩ := hl_bind h
  refine hl_cVi (D := (D + 2)) (z := y266) (n := 0) (av := []) (st := []) d265_1 mlM_497 rfl (Nat.le_of_ble_eq_true rfl) (Nat.le_of_ble_eq_true rfl) rc64 ((p_M_qWordHere D σ hx1).dle (by omega)) ?_
  refine hl_istore_n (i := 3) (ls2 := [(3, .int x1.1), (0, .ref 64), (1, .int v1), (2, .int v2)]) d265_4 rfl (by decide) rfl ?_
  refine hl_iload_n (i := 3) d265_5 rfl rfl ?_
  refine hl_iload_n (i := 1) d265_6 rfl rfl ?_
  refine hl_icmp_lt (tg := 19) d265_7 rfl (fun hc => ?_) (fun hc => ?_)
  · have h := hl_pos hc h
    refine hl_iconst d265_19 kim1 ?_
    obtain ⟨e1, e2⟩ := hl_some2 h
    subst e1; subst e2
    exact hl_iret d265_20 rfl
  · have h := hl_neg hc h
    refine hl_iload_n (i := 3) d265_10 rfl rfl ?_
    refine hl_iload_n (i := 2) d265_11 rfl rfl ?_
    refine hl_icmp_ge (tg := 19) d265_12 rfl (fun hc => ?_) (fun hc => ?_)
    · have h := hl_pos hc h
      refine hl_iconst d265_19 kim1 ?_
      obtain ⟨e1, e2⟩ := hl_some2 h
      subst e1; subst e2
      exact hl_iret d265_20 rfl
    · have h := hl_neg hc h
      refine hl_iload_n (i := 3) d265_15 rfl rfl ?_
      refine hl_goto (tg := 20) d265_16 rfl ?_
      obtain ⟨e1, e2⟩ := hl_some2 h
      subst e1; subst e2
      exact hl_iret d265_20 rfl
def f_M_qOpens (v1 : Int32) (v2 : Int32) (σ : hl_M) : Option (hl_M) :=
  if (σ.1 64 5) = 0 then
  if (σ.1 64 75) = 6 then
  some (f_M_fail 4 v2 σ) else
  if hl_b ((hl_si σ 64 75 ((σ.1 64 75) + 1)).1 64 74) 1700 then
  hl_let (hl_si (hl_si (hl_si σ 64 75 ((σ.1 64 75) + 1)) 111 ((hl_si σ 64 75 ((σ.1 64 75) + 1)).1 64 74).toNatClampNeg v1) 64 74 (((hl_si (hl_si σ 64 75 ((σ.1 64 75) + 1)) 111 ((hl_si σ 64 75 ((σ.1 64 75) + 1)).1 64 74).toNatClampNeg v1).1 64 74) + 1)) (fun σ1 =>
  some σ1) else none else
  some σ
set_option maxRecDepth 20000 in
theorem p_M_qOpens {X : hl_X} (D : Nat) (v1 : Int32) (v2 : Int32) (σ : hl_M) {τ : hl_M} (h : f_M_qOpens v1 v2 σ = some τ) : hl_R X (D + 1) y267 0 [(0, .ref 64), (1, .int v1), (2, .int v2)] [] σ none τ := by
  unfold f_M_qOpens at h
  refine hl_aload_n (i := 0) d267_0 rfl rfl (by decide) ?_
  refine hl_gi d267_1 gM_173_64 ?_
  refine hl_if_eq (tg := 8) d267_4 rfl (fun hc => ?_) (fun hc => ?_)
  · have h := hl_pos hc h
    refine hl_aload_n (i := 0) d267_8 rfl rfl (by decide) ?_
    refine hl_gi d267_9 gM_479_64 ?_
    refine hl_bipush d267_12 kb6 ?_
    refine hl_icmp_ne (tg := 24) d267_14 rfl (fun hc => ?_) (fun hc => ?_)
    · have h := hl_neg hc h
      refine hl_aload_n (i := 0) d267_24 rfl rfl (by decide) ?_
      refine hl_dup d267_25 rfl ?_
      refine hl_gi d267_26 gM_479_64 ?_
      refine hl_iconst d267_29 ki1 ?_
      refine hl_iadd d267_30 ?_
      refine hl_pi d267_31 qM_479_64 ?_
      refine hl_aload_n (i := 0) d267_34 rfl rfl (by decide) ?_
      refine hl_gr d267_35 gM_161_64 ?_
      refine hl_aload_n (i := 0) d267_38 rfl rfl (by decide) ?_
      refine hl_gi d267_39 gM_482_64 ?_
      refine hl_iload_n (i := 1) d267_42 rfl rfl ?_
      obtain ⟨hb, h⟩ := hl_gd h
      refine hl_iast (q := 111) d267_43 sh111 (hl_b_in hb) ?_
      refine hl_aload_n (i := 0) d267_44 rfl rfl (by decide) ?_
      refine hl_dup d267_45 rfl ?_
      refine hl_gi d267_46 gM_482_64 ?_
      refine hl_iconst d267_49 ki1 ?_
      refine hl_iadd d267_50 ?_
      refine hl_pi d267_51 qM_482_64 ?_
      refine hl_nmm h (fun σ1 h => ?_)
      have h := Option.some.inj h
      subst h
      exact hl_vret d267_54 rfl
    · have h := hl_pos hc h
      refine hl_aload_n (i := 0) d267_17 rfl rfl (by decide) ?_
      refine hl_iconst d267_18 ki4 ?_
      refine hl_iload_n (i := 2) d267_19 rfl rfl ?_
      refine hl_cVv (D := D) (z := y67) (n := 2) (av := [.int 4, .int v2]) (st := []) d267_20 mlM_203 rfl (Nat.le_of_ble_eq_true rfl) (Nat.le_of_ble_eq_true rfl) rc64 ((p_M_fail D 4 v2 σ rfl).dle (by omega)) ?_
      have h := Option.some.inj h
      subst h
      exact hl_vret d267_23 rfl
  · have h := hl_neg hc h
    have h := Option.some.inj h
    subst h
    exact hl_vret d267_7 rfl
def f_M_qAsksWord (v1 : Int32) (σ : hl_M) : Option (hl_M) :=
  if v1 = 0 then
  (f_M_asks 103 σ).bind fun x1 =>
  some x1 else
  if v1 = 1 then
  (f_M_asks 104 σ).bind fun x2 =>
  some x2 else
  if v1 = 2 then
  (f_M_asks 105 σ).bind fun x3 =>
  some x3 else
  if v1 = 3 then
  (f_M_asks 106 σ).bind fun x4 =>
  some x4 else
  if v1 = 4 then
  (f_M_asks 107 σ).bind fun x5 =>
  some x5 else
  if v1 = 5 then
  (f_M_asks 108 σ).bind fun x6 =>
  some x6 else
  (f_M_asks 109 σ).bind fun x7 =>
  some x7
set_option maxRecDepth 20000 in
theorem p_M_qAsksWord {X : hl_X} (D : Nat) (v1 : Int32) (σ : hl_M) {τ : hl_M} (h : f_M_qAsksWord v1 σ = some τ) : hl_R X (D + 4) y268 0 [(0, .ref 64), (1, .int v1)] [] σ none τ := by
  unfold f_M_qAsksWord at h
  refine hl_iload_n (i := 1) d268_0 rfl rfl ?_
  by_cases hc1_0 : v1 = 0
  · have h := hl_pos hc1_0 h
    refine hl_tabIn (off := 39) (tg := 40) d268_1 (by rw [hc1_0]; decide) (by rw [hc1_0]; decide) (by rw [hc1_0]; rfl) rfl ?_
    refine hl_aload_n (i := 0) d268_40 rfl rfl (by decide) ?_
    refine hl_aload_n (i := 0) d268_41 rfl rfl (by decide) ?_
    refine hl_gr d268_42 gM_137_64 ?_
    obtain ⟨x1, hx1, h⟩ := hl_bind h
    refine hl_cVv (D := (D + 3)) (z := y62) (n := 1) (av := [.ref 103]) (st := []) d268_45 mlM_260 rfl (Nat.le_of_ble_eq_true rfl) (Nat.le_of_ble_eq_true rfl) rc64 ((p_M_asks D 103 (by decide) σ hx1).dle (by omega)) ?_
    refine hl_goto (tg := 114) d268_48 rfl ?_
    have h := Option.some.inj h
    subst h
    exact hl_vret d268_114 rfl
  have h := hl_neg hc1_0 h
  by_cases hc1_1 : v1 = 1
  · have h := hl_pos hc1_1 h
    refine hl_tabIn (off := 50) (tg := 51) d268_1 (by rw [hc1_1]; decide) (by rw [hc1_1]; decide) (by rw [hc1_1]; rfl) rfl ?_
    refine hl_aload_n (i := 0) d268_51 rfl rfl (by decide) ?_
    refine hl_aload_n (i := 0) d268_52 rfl rfl (by decide) ?_
    refine hl_gr d268_53 gM_140_64 ?_
    obtain ⟨x2, hx2, h⟩ := hl_bind h
    refine hl_cVv (D := (D + 3)) (z := y62) (n := 1) (av := [.ref 104]) (st := []) d268_56 mlM_260 rfl (Nat.le_of_ble_eq_true rfl) (Nat.le_of_ble_eq_true rfl) rc64 ((p_M_asks D 104 (by decide) σ hx2).dle (by omega)) ?_
    refine hl_goto (tg := 114) d268_59 rfl ?_
    have h := Option.some.inj h
    subst h
    exact hl_vret d268_114 rfl
  have h := hl_neg hc1_1 h
  by_cases hc1_2 : v1 = 2
  · have h := hl_pos hc1_2 h
    refine hl_tabIn (off := 61) (tg := 62) d268_1 (by rw [hc1_2]; decide) (by rw [hc1_2]; decide) (by rw [hc1_2]; rfl) rfl ?_
    refine hl_aload_n (i := 0) d268_62 rfl rfl (by decide) ?_
    refine hl_aload_n (i := 0) d268_63 rfl rfl (by decide) ?_
    refine hl_gr d268_64 gM_143_64 ?_
    obtain ⟨x3, hx3, h⟩ := hl_bind h
    refine hl_cVv (D := (D + 3)) (z := y62) (n := 1) (av := [.ref 105]) (st := []) d268_67 mlM_260 rfl (Nat.le_of_ble_eq_true rfl) (Nat.le_of_ble_eq_true rfl) rc64 ((p_M_asks D 105 (by decide) σ hx3).dle (by omega)) ?_
    refine hl_goto (tg := 114) d268_70 rfl ?_
    have h := Option.some.inj h
    subst h
    exact hl_vret d268_114 rfl
  have h := hl_neg hc1_2 h
  by_cases hc1_3 : v1 = 3
  · have h := hl_pos hc1_3 h
    refine hl_tabIn (off := 72) (tg := 73) d268_1 (by rw [hc1_3]; decide) (by rw [hc1_3]; decide) (by rw [hc1_3]; rfl) rfl ?_
    refine hl_aload_n (i := 0) d268_73 rfl rfl (by decide) ?_
    refine hl_aload_n (i := 0) d268_74 rfl rfl (by decide) ?_
    refine hl_gr d268_75 gM_146_64 ?_
    obtain ⟨x4, hx4, h⟩ := hl_bind h
    refine hl_cVv (D := (D + 3)) (z := y62) (n := 1) (av := [.ref 106]) (st := []) d268_78 mlM_260 rfl (Nat.le_of_ble_eq_true rfl) (Nat.le_of_ble_eq_true rfl) rc64 ((p_M_asks D 106 (by decide) σ hx4).dle (by omega)) ?_
    refine hl_goto (tg := 114) d268_81 rfl ?_
    have h := Option.some.inj h
    subst h
    exact hl_vret d268_114 rfl
  have h := hl_neg hc1_3 h
  by_cases hc1_4 : v1 = 4
  · have h := hl_pos hc1_4 h
    refine hl_tabIn (off := 83) (tg := 84) d268_1 (by rw [hc1_4]; decide) (by rw [hc1_4]; decide) (by rw [hc1_4]; rfl) rfl ?_
    refine hl_aload_n (i := 0) d268_84 rfl rfl (by decide) ?_
    refine hl_aload_n (i := 0) d268_85 rfl rfl (by decide) ?_
    refine hl_gr d268_86 gM_149_64 ?_
    obtain ⟨x5, hx5, h⟩ := hl_bind h
    refine hl_cVv (D := (D + 3)) (z := y62) (n := 1) (av := [.ref 107]) (st := []) d268_89 mlM_260 rfl (Nat.le_of_ble_eq_true rfl) (Nat.le_of_ble_eq_true rfl) rc64 ((p_M_asks D 107 (by decide) σ hx5).dle (by omega)) ?_
    refine hl_goto (tg := 114) d268_92 rfl ?_
    have h := Option.some.inj h
    subst h
    exact hl_vret d268_114 rfl
  have h := hl_neg hc1_4 h
  by_cases hc1_5 : v1 = 5
  · have h := hl_pos hc1_5 h
    refine hl_tabIn (off := 94) (tg := 95) d268_1 (by rw [hc1_5]; decide) (by rw [hc1_5]; decide) (by rw [hc1_5]; rfl) rfl ?_
    refine hl_aload_n (i := 0) d268_95 rfl rfl (by decide) ?_
    refine hl_aload_n (i := 0) d268_96 rfl rfl (by decide) ?_
    refine hl_gr d268_97 gM_152_64 ?_
    obtain ⟨x6, hx6, h⟩ := hl_bind h
    refine hl_cVv (D := (D + 3)) (z := y62) (n := 1) (av := [.ref 108]) (st := []) d268_100 mlM_260 rfl (Nat.le_of_ble_eq_true rfl) (Nat.le_of_ble_eq_true rfl) rc64 ((p_M_asks D 108 (by decide) σ hx6).dle (by omega)) ?_
    refine hl_goto (tg := 114) d268_103 rfl ?_
    have h := Option.some.inj h
    subst h
    exact hl_vret d268_114 rfl
  have h := hl_neg hc1_5 h
  refine hl_tabD (tg := 106) d268_1 (fun k g1 g2 e => by
        rcases (by omega : k = 0 ∨ k = 1 ∨ k = 2 ∨ k = 3 ∨ k = 4 ∨ k = 5) with rfl | rfl | rfl | rfl | rfl | rfl
        · exact hc1_0 (Int32.toInt_inj.mp (e.trans (by decide)))
        · exact hc1_1 (Int32.toInt_inj.mp (e.trans (by decide)))
        · exact hc1_2 (Int32.toInt_inj.mp (e.trans (by decide)))
        · exact hc1_3 (Int32.toInt_inj.mp (e.trans (by decide)))
        · exact hc1_4 (Int32.toInt_inj.mp (e.trans (by decide)))
        · exact hc1_5 (Int32.toInt_inj.mp (e.trans (by decide)))
      ) rfl ?_
  refine hl_aload_n (i := 0) d268_106 rfl rfl (by decide) ?_
  refine hl_aload_n (i := 0) d268_107 rfl rfl (by decide) ?_
  refine hl_gr d268_108 gM_155_64 ?_
  obtain ⟨x7, hx7, h⟩ := hl_bind h
  refine hl_cVv (D := (D + 3)) (z := y62) (n := 1) (av := [.ref 109]) (st := []) d268_111 mlM_260 rfl (Nat.le_of_ble_eq_true rfl) (Nat.le_of_ble_eq_true rfl) rc64 ((p_M_asks D 109 (by decide) σ hx7).dle (by omega)) ?_
  have h := Option.some.inj h
  subst h
  exact hl_vret d268_114 rfl
def f_M_qCode (v1 : Int32) (σ : hl_M) : Option (hl_M) :=
  if hl_b (σ.1 64 72) 1700 then
  hl_let (hl_si (hl_si σ 110 (σ.1 64 72).toNatClampNeg v1) 64 72 (((hl_si σ 110 (σ.1 64 72).toNatClampNeg v1).1 64 72) + 1)) (fun σ1 =>
  some σ1) else none
set_option maxRecDepth 20000 in
theorem p_M_qCode {X : hl_X} (D : Nat) (v1 : Int32) (σ : hl_M) {τ : hl_M} (h : f_M_qCode v1 σ = some τ) : hl_R X D y269 0 [(0, .ref 64), (1, .int v1)] [] σ none τ := by
  unfold f_M_qCode at h
  refine hl_aload_n (i := 0) d269_0 rfl rfl (by decide) ?_
  refine hl_gr d269_1 gM_158_64 ?_
  refine hl_aload_n (i := 0) d269_4 rfl rfl (by decide) ?_
  refine hl_gi d269_5 gM_476_64 ?_
  refine hl_iload_n (i := 1) d269_8 rfl rfl ?_
  obtain ⟨hb, h⟩ := hl_gd h
  refine hl_iast (q := 110) d269_9 sh110 (hl_b_in hb) ?_
  refine hl_aload_n (i := 0) d269_10 rfl rfl (by decide) ?_
  refine hl_dup d269_11 rfl ?_
  refine hl_gi d269_12 gM_476_64 ?_
  refine hl_iconst d269_15 ki1 ?_
  refine hl_iadd d269_16 ?_
  refine hl_pi d269_17 qM_476_64 ?_
  refine hl_nmm h (fun σ1 h => ?_)
  have h := Option.some.inj h
  subst h
  exact hl_vret d269_20 rfl
def f_M_qDrops (σ : hl_M) : Option (hl_M) :=
  if hl_b ((hl_si σ 64 74 ((σ.1 64 74) - 1)).1 64 74) 1700 then
  (f_M_qCode ((hl_si σ 64 74 ((σ.1 64 74) - 1)).1 111 ((hl_si σ 64 74 ((σ.1 64 74) - 1)).1 64 74).toNatClampNeg) (hl_si σ 64 74 ((σ.1 64 74) - 1))).bind fun x1 =>
  some x1 else none
set_option maxRecDepth 20000 in
theorem p_M_qDrops {X : hl_X} (D : Nat) (σ : hl_M) {τ : hl_M} (h : f_M_qDrops σ = some τ) : hl_R X (D + 1) y271 0 [(0, .ref 64)] [] σ none τ := by
  unfold f_M_qDrops at h
  refine hl_aload_n (i := 0) d271_0 rfl rfl (by decide) ?_
  refine hl_dup d271_1 rfl ?_
  refine hl_gi d271_2 gM_482_64 ?_
  refine hl_iconst d271_5 ki1 ?_
  refine hl_isub d271_6 ?_
  refine hl_pi d271_7 qM_482_64 ?_
  refine hl_aload_n (i := 0) d271_10 rfl rfl (by decide) ?_
  refine hl_aload_n (i := 0) d271_11 rfl rfl (by decide) ?_
  refine hl_gr d271_12 gM_161_64 ?_
  refine hl_aload_n (i := 0) d271_15 rfl rfl (by decide) ?_
  refine hl_gi d271_16 gM_482_64 ?_
  obtain ⟨hb, h⟩ := hl_gd h
  refine hl_iald d271_19 sh111 (hl_b_in hb) ?_
  obtain ⟨x1, hx1, h⟩ := hl_bind h
  refine hl_cVv (D := D) (z := y269) (n := 1) (av := [.int ((hl_si σ 64 74 ((σ.1 64 74) - 1)).1 111 ((hl_si σ 64 74 ((σ.1 64 74) - 1)).1 64 74).toNatClampNeg)]) (st := []) d271_20 mlM_485 rfl (Nat.le_of_ble_eq_true rfl) (Nat.le_of_ble_eq_true rfl) rc64 ((p_M_qCode D ((hl_si σ 64 74 ((σ.1 64 74) - 1)).1 111 ((hl_si σ 64 74 ((σ.1 64 74) - 1)).1 64 74).toNatClampNeg) (hl_si σ 64 74 ((σ.1 64 74) - 1)) hx1).dle (by omega)) ?_
  have h := Option.some.inj h
  subst h
  exact hl_vret d271_23 rfl
def f_M_qEndsPart_L0 (s : hl_M) : Option ((hl_M) ⊕ (hl_M)) :=
  if (s.1 64 5) = 0 then
  if (s.1 64 74) ≤ (s.1 64 76) then
  some (.inr s) else
  if hl_b ((s.1 64 74) - 1) 1700 then
  if (s.1 111 ((s.1 64 74) - 1).toNatClampNeg) < 60 then
  some (.inr s) else
  (f_M_qDrops (hl_si s 64 75 ((s.1 64 75) - 1))).bind fun x1 =>
  some (.inl x1) else none else
  some (.inr s)
def f_M_qEndsPart (σ : hl_M) : Option (hl_M) :=
  (hl_lp (f_M_qEndsPart_L0) hl_big σ).bind fun x2 =>
  some x2
set_option maxRecDepth 20000 in
theorem p_M_qEndsPart_L0 {X : hl_X} (D : Nat) (s : hl_M) {o : (hl_M) ⊕ (hl_M)} {v : Option Value} {τ : hl_M} (h : f_M_qEndsPart_L0 s = some o) (k1 : ∀ (c0 : hl_M), o = .inl c0 → hl_R X (D + 2) y270 0 [(0, .ref 64)] [] c0 v τ) (k2 : ∀ (a0 : hl_M), o = .inr a0 → hl_R X (D + 2) y270 51 [] [] a0 v τ) : hl_R X (D + 2) y270 0 [(0, .ref 64)] [] s v τ := by
  unfold f_M_qEndsPart_L0 at h
  refine hl_aload_n (i := 0) d270_0 rfl rfl (by decide) ?_
  refine hl_gi d270_1 gM_173_64 ?_
  refine hl_if_ne (tg := 51) d270_4 rfl (fun hc => ?_) (fun hc => ?_)
  · have h := hl_neg hc h
    have h := Option.some.inj h
    subst h
    exact hl_loc (k2 s rfl) trivial
  · have h := hl_pos hc h
    refine hl_aload_n (i := 0) d270_7 rfl rfl (by decide) ?_
    refine hl_gi d270_8 gM_482_64 ?_
    refine hl_aload_n (i := 0) d270_11 rfl rfl (by decide) ?_
    refine hl_gi d270_12 gM_488_64 ?_
    refine hl_icmp_le (tg := 51) d270_15 rfl (fun hc => ?_) (fun hc => ?_)
    · have h := hl_pos hc h
      have h := Option.some.inj h
      subst h
      exact hl_loc (k2 s rfl) trivial
    · have h := hl_neg hc h
      refine hl_aload_n (i := 0) d270_18 rfl rfl (by decide) ?_
      refine hl_gr d270_19 gM_161_64 ?_
      refine hl_aload_n (i := 0) d270_22 rfl rfl (by decide) ?_
      refine hl_gi d270_23 gM_482_64 ?_
      refine hl_iconst d270_26 ki1 ?_
      refine hl_isub d270_27 ?_
      obtain ⟨hb, h⟩ := hl_gd h
      refine hl_iald d270_28 sh111 (hl_b_in hb) ?_
      refine hl_bipush d270_29 kb60 ?_
      refine hl_icmp_lt (tg := 51) d270_31 rfl (fun hc => ?_) (fun hc => ?_)
      · have h := hl_pos hc h
        have h := Option.some.inj h
        subst h
        exact hl_loc (k2 s rfl) trivial
      · have h := hl_neg hc h
        refine hl_aload_n (i := 0) d270_34 rfl rfl (by decide) ?_
        refine hl_dup d270_35 rfl ?_
        refine hl_gi d270_36 gM_479_64 ?_
        refine hl_iconst d270_39 ki1 ?_
        refine hl_isub d270_40 ?_
        refine hl_pi d270_41 qM_479_64 ?_
        refine hl_aload_n (i := 0) d270_44 rfl rfl (by decide) ?_
        obtain ⟨x1, hx1, h⟩ := hl_bind h
        refine hl_cVv (D := (D + 1)) (z := y271) (n := 0) (av := []) (st := []) d270_45 mlM_494 rfl (Nat.le_of_ble_eq_true rfl) (Nat.le_of_ble_eq_true rfl) rc64 ((p_M_qDrops D (hl_si s 64 75 ((s.1 64 75) - 1)) hx1).dle (by omega)) ?_
        refine hl_goto (tg := 0) d270_48 rfl ?_
        have h := Option.some.inj h
        subst h
        exact hl_loc (k1 x1 rfl) ⟨rfl, trivial⟩
set_option maxRecDepth 20000 in
theorem p_M_qEndsPart {X : hl_X} (D : Nat) (σ : hl_M) {τ : hl_M} (h : f_M_qEndsPart σ = some τ) : hl_R X (D + 2) y270 0 [(0, .ref 64)] [] σ none τ := by
  unfold f_M_qEndsPart at h
  obtain ⟨x2, hx2, h⟩ := hl_bind h
  refine hl_R.loc (ls' := [(0, .ref 64)]) ⟨rfl, trivial⟩ ?_
  refine hl_lp_run1 (P := fun (c0 : hl_M) => hl_R X (D + 2) y270 0 [(0, .ref 64)] [] c0 none τ) (fun x : hl_M => hl_R X (D + 2) y270 51 [] [] x none τ) (fun c0 o ho h1 h2 => p_M_qEndsPart_L0 D c0 ho h1 (fun a0 e => h2 a0 e)) hl_big σ x2 hx2 ?_
  have h := Option.some.inj h
  subst h
  exact hl_vret d270_51 rfl
