def f_M_stands_L18 (s : Int32 × hl_M) : Option ((Int32 × hl_M) ⊕ (hl_M)) :=
  if 3 ≤ s.1 then
  some (.inr s.2) else
  if hl_b s.1 6 then
  if hl_b (3 + s.1) 6 then
  some (.inl ((s.1 + 1, hl_si s.2 75 (3 + s.1).toNatClampNeg (s.2.1 75 s.1.toNatClampNeg)))) else none else none
def f_M_stands_L45 (s : Int32 × hl_M) : Option ((Int32 × hl_M) ⊕ (hl_M)) :=
  if 54 ≤ s.1 then
  some (.inr s.2) else
  if hl_b s.1 108 then
  if hl_b (54 + s.1) 108 then
  some (.inl ((s.1 + 1, hl_si s.2 76 (54 + s.1).toNatClampNeg (vp_nar .boolean (s.2.1 76 s.1.toNatClampNeg))))) else none else none
def f_M_stands_L74 (s : Int32 × hl_M) : Option ((Int32 × hl_M) ⊕ (hl_M)) :=
  if 20 ≤ s.1 then
  some (.inr s.2) else
  if hl_b s.1 40 then
  if hl_b (20 + s.1) 40 then
  if hl_b s.1 40 then
  if hl_b (20 + s.1) 40 then
  some (.inl ((s.1 + 1, hl_si (hl_sl s.2 77 (20 + s.1).toNatClampNeg (s.2.2 77 s.1.toNatClampNeg)) 80 (20 + s.1).toNatClampNeg ((hl_sl s.2 77 (20 + s.1).toNatClampNeg (s.2.2 77 s.1.toNatClampNeg)).1 80 s.1.toNatClampNeg)))) else none else none else none else none
def f_M_stands_L118 (s : Int32 × hl_M) : Option ((Int32 × hl_M) ⊕ (hl_M)) :=
  if 150 ≤ s.1 then
  some (.inr s.2) else
  if hl_b s.1 300 then
  if hl_b (150 + s.1) 300 then
  some (.inl ((s.1 + 1, hl_si s.2 78 (150 + s.1).toNatClampNeg (s.2.1 78 s.1.toNatClampNeg)))) else none else none
def f_M_stands_L149 (s : Int32 × hl_M) : Option ((Int32 × hl_M) ⊕ (hl_M)) :=
  if 432 ≤ s.1 then
  some (.inr s.2) else
  if hl_b s.1 864 then
  if hl_b (432 + s.1) 864 then
  some (.inl ((s.1 + 1, hl_si s.2 79 (432 + s.1).toNatClampNeg (s.2.1 79 s.1.toNatClampNeg)))) else none else none
def f_M_stands_L190 (s : Int32 × hl_M) : Option ((Int32 × hl_M) ⊕ (hl_M)) :=
  if (f_M_cells s.2) ≤ s.1 then
  some (.inr s.2) else
  (f_M_reaches s.1 s.2).bind fun x6 =>
  some (.inl ((s.1 + 1, x6)))
def f_M_stands (σ : hl_M) : Option (hl_M) :=
  (hl_lp (f_M_stands_L18) hl_big ((0, hl_si (hl_si σ 64 30 (σ.1 64 20)) 64 31 ((hl_si σ 64 30 (σ.1 64 20)).1 64 21)))).bind fun x1 =>
  (hl_lp (f_M_stands_L45) hl_big ((0, x1))).bind fun x2 =>
  (hl_lp (f_M_stands_L74) hl_big ((0, x2))).bind fun x3 =>
  (hl_lp (f_M_stands_L118) hl_big ((0, x3))).bind fun x4 =>
  (hl_lp (f_M_stands_L149) hl_big ((0, x4))).bind fun x5 =>
  (hl_lp (f_M_stands_L190) hl_big ((0, hl_si (hl_si x5 64 50 0) 64 47 0))).bind fun x7 =>
  (f_M_walks x7).bind fun x8 =>
  some x8
set_option maxRecDepth 20000 in
theorem p_M_stands_L18 {X : hl_X} (D : Nat) (s : Int32 × hl_M) {o : (Int32 × hl_M) ⊕ (hl_M)} {v : Option Value} {τ : hl_M} (h : f_M_stands_L18 s = some o) (k1 : ∀ (c0 : Int32) (c1 : hl_M), o = .inl ((c0, c1)) → hl_R X (D + 3) y88 18 [(0, .ref 64), (1, .int c0)] [] c1 v τ) (k2 : ∀ (a0 : hl_M), o = .inr a0 → hl_R X (D + 3) y88 43 [(0, .ref 64)] [] a0 v τ) : hl_R X (D + 3) y88 18 [(0, .ref 64), (1, .int s.1)] [] s.2 v τ := by
  unfold f_M_stands_L18 at h
  refine hl_iload_n (i := 1) d88_18 rfl rfl ?_
  refine hl_iconst d88_19 ki3 ?_
  refine hl_icmp_ge (tg := 43) d88_20 rfl (fun hc => ?_) (fun hc => ?_)
  · have h := hl_pos hc h
    have h := Option.some.inj h
    subst h
    exact hl_loc (k2 s.2 rfl) ⟨rfl, trivial⟩
  · have h := hl_neg hc h
    refine hl_aload_n (i := 0) d88_23 rfl rfl (by decide) ?_
    refine hl_gr d88_24 gM_45_64 ?_
    refine hl_iconst d88_27 ki3 ?_
    refine hl_iload_n (i := 1) d88_28 rfl rfl ?_
    refine hl_iadd d88_29 ?_
    refine hl_aload_n (i := 0) d88_30 rfl rfl (by decide) ?_
    refine hl_gr d88_31 gM_45_64 ?_
    refine hl_iload_n (i := 1) d88_34 rfl rfl ?_
    obtain ⟨hb, h⟩ := hl_gd h
    refine hl_iald d88_35 sh75 (hl_b_in hb) ?_
    obtain ⟨hb, h⟩ := hl_gd h
    refine hl_iast (q := 75) d88_36 sh75 (hl_b_in hb) ?_
    refine hl_iinc (ls2 := [(1, .int (s.1 + 1)), (0, .ref 64)]) d88_37 rfl kx1 (by decide) rfl ?_
    refine hl_goto (tg := 18) d88_40 rfl ?_
    have h := Option.some.inj h
    subst h
    exact hl_loc (k1 (s.1 + 1) (hl_si s.2 75 (3 + s.1).toNatClampNeg (s.2.1 75 s.1.toNatClampNeg)) rfl) ⟨rfl, rfl, trivial⟩
set_option maxRecDepth 20000 in
theorem p_M_stands_L45 {X : hl_X} (D : Nat) (s : Int32 × hl_M) {o : (Int32 × hl_M) ⊕ (hl_M)} {v : Option Value} {τ : hl_M} (h : f_M_stands_L45 s = some o) (k1 : ∀ (c0 : Int32) (c1 : hl_M), o = .inl ((c0, c1)) → hl_R X (D + 3) y88 45 [(0, .ref 64), (1, .int c0)] [] c1 v τ) (k2 : ∀ (a0 : hl_M), o = .inr a0 → hl_R X (D + 3) y88 72 [(0, .ref 64)] [] a0 v τ) : hl_R X (D + 3) y88 45 [(0, .ref 64), (1, .int s.1)] [] s.2 v τ := by
  unfold f_M_stands_L45 at h
  refine hl_iload_n (i := 1) d88_45 rfl rfl ?_
  refine hl_bipush d88_46 kb54 ?_
  refine hl_icmp_ge (tg := 72) d88_48 rfl (fun hc => ?_) (fun hc => ?_)
  · have h := hl_pos hc h
    have h := Option.some.inj h
    subst h
    exact hl_loc (k2 s.2 rfl) ⟨rfl, trivial⟩
  · have h := hl_neg hc h
    refine hl_aload_n (i := 0) d88_51 rfl rfl (by decide) ?_
    refine hl_gr d88_52 gM_48_64 ?_
    refine hl_bipush d88_55 kb54 ?_
    refine hl_iload_n (i := 1) d88_57 rfl rfl ?_
    refine hl_iadd d88_58 ?_
    refine hl_aload_n (i := 0) d88_59 rfl rfl (by decide) ?_
    refine hl_gr d88_60 gM_48_64 ?_
    refine hl_iload_n (i := 1) d88_63 rfl rfl ?_
    obtain ⟨hb, h⟩ := hl_gd h
    refine hl_zald d88_64 sh76 (hl_b_in hb) ?_
    obtain ⟨hb, h⟩ := hl_gd h
    refine hl_zast (q := 76) d88_65 sh76 (hl_b_in hb) ?_
    refine hl_iinc (ls2 := [(1, .int (s.1 + 1)), (0, .ref 64)]) d88_66 rfl kx1 (by decide) rfl ?_
    refine hl_goto (tg := 45) d88_69 rfl ?_
    have h := Option.some.inj h
    subst h
    exact hl_loc (k1 (s.1 + 1) (hl_si s.2 76 (54 + s.1).toNatClampNeg (vp_nar .boolean (s.2.1 76 s.1.toNatClampNeg))) rfl) ⟨rfl, rfl, trivial⟩
set_option maxRecDepth 20000 in
theorem p_M_stands_L74 {X : hl_X} (D : Nat) (s : Int32 × hl_M) {o : (Int32 × hl_M) ⊕ (hl_M)} {v : Option Value} {τ : hl_M} (h : f_M_stands_L74 s = some o) (k1 : ∀ (c0 : Int32) (c1 : hl_M), o = .inl ((c0, c1)) → hl_R X (D + 3) y88 74 [(0, .ref 64), (1, .int c0)] [] c1 v τ) (k2 : ∀ (a0 : hl_M), o = .inr a0 → hl_R X (D + 3) y88 116 [(0, .ref 64)] [] a0 v τ) : hl_R X (D + 3) y88 74 [(0, .ref 64), (1, .int s.1)] [] s.2 v τ := by
  unfold f_M_stands_L74 at h
  refine hl_iload_n (i := 1) d88_74 rfl rfl ?_
  refine hl_bipush d88_75 kb20 ?_
  refine hl_icmp_ge (tg := 116) d88_77 rfl (fun hc => ?_) (fun hc => ?_)
  · have h := hl_pos hc h
    have h := Option.some.inj h
    subst h
    exact hl_loc (k2 s.2 rfl) ⟨rfl, trivial⟩
  · have h := hl_neg hc h
    refine hl_aload_n (i := 0) d88_80 rfl rfl (by decide) ?_
    refine hl_gr d88_81 gM_52_64 ?_
    refine hl_bipush d88_84 kb20 ?_
    refine hl_iload_n (i := 1) d88_86 rfl rfl ?_
    refine hl_iadd d88_87 ?_
    refine hl_aload_n (i := 0) d88_88 rfl rfl (by decide) ?_
    refine hl_gr d88_89 gM_52_64 ?_
    refine hl_iload_n (i := 1) d88_92 rfl rfl ?_
    obtain ⟨hb, h⟩ := hl_gd h
    refine hl_lald d88_93 sh77 (hl_b_in hb) ?_
    obtain ⟨hb, h⟩ := hl_gd h
    refine hl_last (q := 77) d88_94 sh77 (hl_b_in hb) ?_
    refine hl_aload_n (i := 0) d88_95 rfl rfl (by decide) ?_
    refine hl_gr d88_96 gM_62_64 ?_
    refine hl_bipush d88_99 kb20 ?_
    refine hl_iload_n (i := 1) d88_101 rfl rfl ?_
    refine hl_iadd d88_102 ?_
    refine hl_aload_n (i := 0) d88_103 rfl rfl (by decide) ?_
    refine hl_gr d88_104 gM_62_64 ?_
    refine hl_iload_n (i := 1) d88_107 rfl rfl ?_
    obtain ⟨hb, h⟩ := hl_gd h
    refine hl_iald d88_108 sh80 (hl_b_in hb) ?_
    obtain ⟨hb, h⟩ := hl_gd h
    refine hl_iast (q := 80) d88_109 sh80 (hl_b_in hb) ?_
    refine hl_iinc (ls2 := [(1, .int (s.1 + 1)), (0, .ref 64)]) d88_110 rfl kx1 (by decide) rfl ?_
    refine hl_goto (tg := 74) d88_113 rfl ?_
    have h := Option.some.inj h
    subst h
    exact hl_loc (k1 (s.1 + 1) (hl_si (hl_sl s.2 77 (20 + s.1).toNatClampNeg (s.2.2 77 s.1.toNatClampNeg)) 80 (20 + s.1).toNatClampNeg ((hl_sl s.2 77 (20 + s.1).toNatClampNeg (s.2.2 77 s.1.toNatClampNeg)).1 80 s.1.toNatClampNeg)) rfl) ⟨rfl, rfl, trivial⟩
set_option maxRecDepth 20000 in
theorem p_M_stands_L118 {X : hl_X} (D : Nat) (s : Int32 × hl_M) {o : (Int32 × hl_M) ⊕ (hl_M)} {v : Option Value} {τ : hl_M} (h : f_M_stands_L118 s = some o) (k1 : ∀ (c0 : Int32) (c1 : hl_M), o = .inl ((c0, c1)) → hl_R X (D + 3) y88 118 [(0, .ref 64), (1, .int c0)] [] c1 v τ) (k2 : ∀ (a0 : hl_M), o = .inr a0 → hl_R X (D + 3) y88 147 [(0, .ref 64)] [] a0 v τ) : hl_R X (D + 3) y88 118 [(0, .ref 64), (1, .int s.1)] [] s.2 v τ := by
  unfold f_M_stands_L118 at h
  refine hl_iload_n (i := 1) d88_118 rfl rfl ?_
  refine hl_sipush d88_119 ks150 ?_
  refine hl_icmp_ge (tg := 147) d88_122 rfl (fun hc => ?_) (fun hc => ?_)
  · have h := hl_pos hc h
    have h := Option.some.inj h
    subst h
    exact hl_loc (k2 s.2 rfl) ⟨rfl, trivial⟩
  · have h := hl_neg hc h
    refine hl_aload_n (i := 0) d88_125 rfl rfl (by decide) ?_
    refine hl_gr d88_126 gM_56_64 ?_
    refine hl_sipush d88_129 ks150 ?_
    refine hl_iload_n (i := 1) d88_132 rfl rfl ?_
    refine hl_iadd d88_133 ?_
    refine hl_aload_n (i := 0) d88_134 rfl rfl (by decide) ?_
    refine hl_gr d88_135 gM_56_64 ?_
    refine hl_iload_n (i := 1) d88_138 rfl rfl ?_
    obtain ⟨hb, h⟩ := hl_gd h
    refine hl_iald d88_139 sh78 (hl_b_in hb) ?_
    obtain ⟨hb, h⟩ := hl_gd h
    refine hl_iast (q := 78) d88_140 sh78 (hl_b_in hb) ?_
    refine hl_iinc (ls2 := [(1, .int (s.1 + 1)), (0, .ref 64)]) d88_141 rfl kx1 (by decide) rfl ?_
    refine hl_goto (tg := 118) d88_144 rfl ?_
    have h := Option.some.inj h
    subst h
    exact hl_loc (k1 (s.1 + 1) (hl_si s.2 78 (150 + s.1).toNatClampNeg (s.2.1 78 s.1.toNatClampNeg)) rfl) ⟨rfl, rfl, trivial⟩
set_option maxRecDepth 20000 in
theorem p_M_stands_L149 {X : hl_X} (D : Nat) (s : Int32 × hl_M) {o : (Int32 × hl_M) ⊕ (hl_M)} {v : Option Value} {τ : hl_M} (h : f_M_stands_L149 s = some o) (k1 : ∀ (c0 : Int32) (c1 : hl_M), o = .inl ((c0, c1)) → hl_R X (D + 3) y88 149 [(0, .ref 64), (1, .int c0)] [] c1 v τ) (k2 : ∀ (a0 : hl_M), o = .inr a0 → hl_R X (D + 3) y88 178 [(0, .ref 64)] [] a0 v τ) : hl_R X (D + 3) y88 149 [(0, .ref 64), (1, .int s.1)] [] s.2 v τ := by
  unfold f_M_stands_L149 at h
  refine hl_iload_n (i := 1) d88_149 rfl rfl ?_
  refine hl_sipush d88_150 ks432 ?_
  refine hl_icmp_ge (tg := 178) d88_153 rfl (fun hc => ?_) (fun hc => ?_)
  · have h := hl_pos hc h
    have h := Option.some.inj h
    subst h
    exact hl_loc (k2 s.2 rfl) ⟨rfl, trivial⟩
  · have h := hl_neg hc h
    refine hl_aload_n (i := 0) d88_156 rfl rfl (by decide) ?_
    refine hl_gr d88_157 gM_59_64 ?_
    refine hl_sipush d88_160 ks432 ?_
    refine hl_iload_n (i := 1) d88_163 rfl rfl ?_
    refine hl_iadd d88_164 ?_
    refine hl_aload_n (i := 0) d88_165 rfl rfl (by decide) ?_
    refine hl_gr d88_166 gM_59_64 ?_
    refine hl_iload_n (i := 1) d88_169 rfl rfl ?_
    obtain ⟨hb, h⟩ := hl_gd h
    refine hl_iald d88_170 sh79 (hl_b_in hb) ?_
    obtain ⟨hb, h⟩ := hl_gd h
    refine hl_iast (q := 79) d88_171 sh79 (hl_b_in hb) ?_
    refine hl_iinc (ls2 := [(1, .int (s.1 + 1)), (0, .ref 64)]) d88_172 rfl kx1 (by decide) rfl ?_
    refine hl_goto (tg := 149) d88_175 rfl ?_
    have h := Option.some.inj h
    subst h
    exact hl_loc (k1 (s.1 + 1) (hl_si s.2 79 (432 + s.1).toNatClampNeg (s.2.1 79 s.1.toNatClampNeg)) rfl) ⟨rfl, rfl, trivial⟩
set_option maxRecDepth 20000 in
theorem p_M_stands_L190 {X : hl_X} (D : Nat) (s : Int32 × hl_M) {o : (Int32 × hl_M) ⊕ (hl_M)} {v : Option Value} {τ : hl_M} (h : f_M_stands_L190 s = some o) (k1 : ∀ (c0 : Int32) (c1 : hl_M), o = .inl ((c0, c1)) → hl_R X (D + 3) y88 190 [(0, .ref 64), (1, .int c0)] [] c1 v τ) (k2 : ∀ (a0 : hl_M), o = .inr a0 → hl_R X (D + 3) y88 209 [(0, .ref 64)] [] a0 v τ) : hl_R X (D + 3) y88 190 [(0, .ref 64), (1, .int s.1)] [] s.2 v τ := by
  unfold f_M_stands_L190 at h
  refine hl_iload_n (i := 1) d88_190 rfl rfl ?_
  refine hl_aload_n (i := 0) d88_191 rfl rfl (by decide) ?_
  refine hl_cVi (D := (D + 2)) (z := y89) (n := 0) (av := []) (st := [.int s.1]) d88_192 mlM_320 rfl (Nat.le_of_ble_eq_true rfl) (Nat.le_of_ble_eq_true rfl) rc64 ((p_M_cells D s.2 rfl).dle (by omega)) ?_
  refine hl_icmp_ge (tg := 209) d88_195 rfl (fun hc => ?_) (fun hc => ?_)
  · have h := hl_pos hc h
    have h := Option.some.inj h
    subst h
    exact hl_loc (k2 s.2 rfl) ⟨rfl, trivial⟩
  · have h := hl_neg hc h
    refine hl_aload_n (i := 0) d88_198 rfl rfl (by decide) ?_
    refine hl_iload_n (i := 1) d88_199 rfl rfl ?_
    obtain ⟨x6, hx6, h⟩ := hl_bind h
    refine hl_cVv (D := (D + 2)) (z := y90) (n := 1) (av := [.int s.1]) (st := []) d88_200 mlM_323 rfl (Nat.le_of_ble_eq_true rfl) (Nat.le_of_ble_eq_true rfl) rc64 ((p_M_reaches D s.1 s.2 hx6).dle (by omega)) ?_
    refine hl_iinc (ls2 := [(1, .int (s.1 + 1)), (0, .ref 64)]) d88_203 rfl kx1 (by decide) rfl ?_
    refine hl_goto (tg := 190) d88_206 rfl ?_
    have h := Option.some.inj h
    subst h
    exact hl_loc (k1 (s.1 + 1) x6 rfl) ⟨rfl, rfl, trivial⟩
set_option maxRecDepth 20000 in
theorem p_M_stands {X : hl_X} (D : Nat) (σ : hl_M) {τ : hl_M} (h : f_M_stands σ = some τ) : hl_R X (D + 3) y88 0 [(0, .ref 64)] [] σ none τ := by
  unfold f_M_stands at h
  refine hl_aload_n (i := 0) d88_0 rfl rfl (by decide) ?_
  refine hl_aload_n (i := 0) d88_1 rfl rfl (by decide) ?_
  refine hl_gi d88_2 gM_239_64 ?_
  refine hl_pi d88_5 qM_307_64 ?_
  refine hl_aload_n (i := 0) d88_8 rfl rfl (by decide) ?_
  refine hl_aload_n (i := 0) d88_9 rfl rfl (by decide) ?_
  refine hl_gi d88_10 gM_246_64 ?_
  refine hl_pi d88_13 qM_310_64 ?_
  refine hl_iconst d88_16 ki0 ?_
  refine hl_istore_n (i := 1) (ls2 := [(1, .int 0), (0, .ref 64)]) d88_17 rfl (by decide) rfl ?_
  obtain ⟨x1, hx1, h⟩ := hl_bind h
  refine hl_R.loc (ls' := [(0, .ref 64), (1, .int 0)]) ⟨rfl, rfl, trivial⟩ ?_
  refine hl_lp_run2 (P := fun (c0 : Int32) (c1 : hl_M) => hl_R X (D + 3) y88 18 [(0, .ref 64), (1, .int c0)] [] c1 none τ) (fun x : hl_M => hl_R X (D + 3) y88 43 [(0, .ref 64)] [] x none τ) (fun c0 c1 o ho h1 h2 => p_M_stands_L18 D (c0, c1) ho h1 (fun a0 e => h2 a0 e)) hl_big 0 (hl_si (hl_si σ 64 30 (σ.1 64 20)) 64 31 ((hl_si σ 64 30 (σ.1 64 20)).1 64 21)) x1 hx1 ?_
  refine hl_iconst d88_43 ki0 ?_
  refine hl_istore_n (i := 1) (ls2 := [(1, .int 0), (0, .ref 64)]) d88_44 rfl (by decide) rfl ?_
  obtain ⟨x2, hx2, h⟩ := hl_bind h
  refine hl_R.loc (ls' := [(0, .ref 64), (1, .int 0)]) ⟨rfl, rfl, trivial⟩ ?_
  refine hl_lp_run2 (P := fun (c0 : Int32) (c1 : hl_M) => hl_R X (D + 3) y88 45 [(0, .ref 64), (1, .int c0)] [] c1 none τ) (fun x : hl_M => hl_R X (D + 3) y88 72 [(0, .ref 64)] [] x none τ) (fun c0 c1 o ho h1 h2 => p_M_stands_L45 D (c0, c1) ho h1 (fun a0 e => h2 a0 e)) hl_big 0 x1 x2 hx2 ?_
  refine hl_iconst d88_72 ki0 ?_
  refine hl_istore_n (i := 1) (ls2 := [(1, .int 0), (0, .ref 64)]) d88_73 rfl (by decide) rfl ?_
  obtain ⟨x3, hx3, h⟩ := hl_bind h
  refine hl_R.loc (ls' := [(0, .ref 64), (1, .int 0)]) ⟨rfl, rfl, trivial⟩ ?_
  refine hl_lp_run2 (P := fun (c0 : Int32) (c1 : hl_M) => hl_R X (D + 3) y88 74 [(0, .ref 64), (1, .int c0)] [] c1 none τ) (fun x : hl_M => hl_R X (D + 3) y88 116 [(0, .ref 64)] [] x none τ) (fun c0 c1 o ho h1 h2 => p_M_stands_L74 D (c0, c1) ho h1 (fun a0 e => h2 a0 e)) hl_big 0 x2 x3 hx3 ?_
  refine hl_iconst d88_116 ki0 ?_
  refine hl_istore_n (i := 1) (ls2 := [(1, .int 0), (0, .ref 64)]) d88_117 rfl (by decide) rfl ?_
  obtain ⟨x4, hx4, h⟩ := hl_bind h
  refine hl_R.loc (ls' := [(0, .ref 64), (1, .int 0)]) ⟨rfl, rfl, trivial⟩ ?_
  refine hl_lp_run2 (P := fun (c0 : Int32) (c1 : hl_M) => hl_R X (D + 3) y88 118 [(0, .ref 64), (1, .int c0)] [] c1 none τ) (fun x : hl_M => hl_R X (D + 3) y88 147 [(0, .ref 64)] [] x none τ) (fun c0 c1 o ho h1 h2 => p_M_stands_L118 D (c0, c1) ho h1 (fun a0 e => h2 a0 e)) hl_big 0 x3 x4 hx4 ?_
  refine hl_iconst d88_147 ki0 ?_
  refine hl_istore_n (i := 1) (ls2 := [(1, .int 0), (0, .ref 64)]) d88_148 rfl (by decide) rfl ?_
  obtain ⟨x5, hx5, h⟩ := hl_bind h
  refine hl_R.loc (ls' := [(0, .ref 64), (1, .int 0)]) ⟨rfl, rfl, trivial⟩ ?_
  refine hl_lp_run2 (P := fun (c0 : Int32) (c1 : hl_M) => hl_R X (D + 3) y88 149 [(0, .ref 64), (1, .int c0)] [] c1 none τ) (fun x : hl_M => hl_R X (D + 3) y88 178 [(0, .ref 64)] [] x none τ) (fun c0 c1 o ho h1 h2 => p_M_stands_L149 D (c0, c1) ho h1 (fun a0 e => h2 a0 e)) hl_big 0 x4 x5 hx5 ?_
  refine hl_aload_n (i := 0) d88_178 rfl rfl (by decide) ?_
  refine hl_iconst d88_179 ki0 ?_
  refine hl_pi d88_180 qM_313_64 ?_
  refine hl_aload_n (i := 0) d88_183 rfl rfl (by decide) ?_
  refine hl_iconst d88_184 ki0 ?_
  refine hl_pz d88_185 qM_316_64 (Or.inl rfl) ?_
  refine hl_iconst d88_188 ki0 ?_
  refine hl_istore_n (i := 1) (ls2 := [(1, .int 0), (0, .ref 64)]) d88_189 rfl (by decide) rfl ?_
  obtain ⟨x7, hx7, h⟩ := hl_bind h
  refine hl_R.loc (ls' := [(0, .ref 64), (1, .int 0)]) ⟨rfl, rfl, trivial⟩ ?_
  refine hl_lp_run2 (P := fun (c0 : Int32) (c1 : hl_M) => hl_R X (D + 3) y88 190 [(0, .ref 64), (1, .int c0)] [] c1 none τ) (fun x : hl_M => hl_R X (D + 3) y88 209 [(0, .ref 64)] [] x none τ) (fun c0 c1 o ho h1 h2 => p_M_stands_L190 D (c0, c1) ho h1 (fun a0 e => h2 a0 e)) hl_big 0 (hl_si (hl_si x5 64 50 0) 64 47 0) x7 hx7 ?_
  refine hl_aload_n (i := 0) d88_209 rfl rfl (by decide) ?_
  obtain ⟨x8, hx8, h⟩ := hl_bind h
  refine hl_cVv (D := (D + 2)) (z := y92) (n := 0) (av := []) (st := []) d88_210 mlM_326 rfl (Nat.le_of_ble_eq_true rfl) (Nat.le_of_ble_eq_true rfl) rc64 ((p_M_walks D x7 hx8).dle (by omega)) ?_
  have h := Option.some.inj h
  subst h
  exact hl_vret d88_213 rfl
def f_M_text_L40 (s : Int32 × hl_M) : Option ((Int32 × hl_M) ⊕ (hl_M)) :=
  if 3 ≤ s.1 then
  some (.inr s.2) else
  if hl_b s.1 6 then
  some (.inl ((s.1 + 1, hl_si s.2 75 s.1.toNatClampNeg 0))) else none
def f_M_text_L60 (s : Int32 × hl_M) : Option ((Int32 × hl_M) ⊕ (hl_M)) :=
  if 54 ≤ s.1 then
  some (.inr s.2) else
  if hl_b s.1 108 then
  some (.inl ((s.1 + 1, hl_si s.2 76 s.1.toNatClampNeg (vp_nar .boolean 0)))) else none
def f_M_text_L120 (s : hl_M) : Option ((hl_M) ⊕ (hl_M)) :=
  if (s.1 64 5) = 0 then
  (f_M_look s).bind fun x8 =>
  if x8.1 = ((-1)) then
  some (.inr x8.2) else
  (f_M_statementTold x8.2).bind fun x9 =>
  some (.inl x9) else
  some (.inr s)
def f_M_text (σ : hl_M) : Option (Int32 × hl_M) :=
  hl_let (hl_si (hl_si (hl_si (hl_si (hl_si (hl_si (hl_si σ 64 3 (σ.1 64 1)) 64 1 0) 64 2 0) 64 4 ((-1))) 64 5 0) 64 6 ((-1))) 64 22 0) (fun σ1 =>
  (hl_lp (f_M_text_L40) hl_big ((0, σ1))).bind fun x2 =>
  (hl_lp (f_M_text_L60) hl_big ((0, x2))).bind fun x3 =>
  (f_M_asks 66 x3).bind fun x4 =>
  (f_M_number 3 9 x4).bind fun x5 =>
  (f_M_number 3 6 (hl_si x5.2 64 20 x5.1)).bind fun x6 =>
  (f_M_asksSign 59 (hl_si x6.2 64 21 x6.1)).bind fun x7 =>
  (hl_lp (f_M_text_L120) hl_big (hl_si x7 64 29 1)).bind fun x10 =>
  if ((hl_si (hl_si x10 64 7 (x10.1 64 5)) 64 8 ((hl_si x10 64 7 (x10.1 64 5)).1 64 6)).1 64 5) = 0 then
  (f_M_stands (hl_si (hl_si x10 64 7 (x10.1 64 5)) 64 8 ((hl_si x10 64 7 (x10.1 64 5)).1 64 6))).bind fun x11 =>
  some ((x11.1 64 29, x11)) else
  some (((-1), hl_si (hl_si x10 64 7 (x10.1 64 5)) 64 8 ((hl_si x10 64 7 (x10.1 64 5)).1 64 6))))
set_option maxRecDepth 20000 in
theorem p_M_text_L40 {X : hl_X} (D : Nat) (s : Int32 × hl_M) {o : (Int32 × hl_M) ⊕ (hl_M)} {v : Option Value} {τ : hl_M} (h : f_M_text_L40 s = some o) (k1 : ∀ (c0 : Int32) (c1 : hl_M), o = .inl ((c0, c1)) → hl_R X (D + 7) y61 40 [(0, .ref 64), (1, .int c0)] [] c1 v τ) (k2 : ∀ (a0 : hl_M), o = .inr a0 → hl_R X (D + 7) y61 58 [(0, .ref 64)] [] a0 v τ) : hl_R X (D + 7) y61 40 [(0, .ref 64), (1, .int s.1)] [] s.2 v τ := by
  unfold f_M_text_L40 at h
  refine hl_iload_n (i := 1) d61_40 rfl rfl ?_
  refine hl_iconst d61_41 ki3 ?_
  refine hl_icmp_ge (tg := 58) d61_42 rfl (fun hc => ?_) (fun hc => ?_)
  · have h := hl_pos hc h
    have h := Option.some.inj h
    subst h
    exact hl_loc (k2 s.2 rfl) ⟨rfl, trivial⟩
  · have h := hl_neg hc h
    refine hl_aload_n (i := 0) d61_45 rfl rfl (by decide) ?_
    refine hl_gr d61_46 gM_45_64 ?_
    refine hl_iload_n (i := 1) d61_49 rfl rfl ?_
    refine hl_iconst d61_50 ki0 ?_
    obtain ⟨hb, h⟩ := hl_gd h
    refine hl_iast (q := 75) d61_51 sh75 (hl_b_in hb) ?_
    refine hl_iinc (ls2 := [(1, .int (s.1 + 1)), (0, .ref 64)]) d61_52 rfl kx1 (by decide) rfl ?_
    refine hl_goto (tg := 40) d61_55 rfl ?_
    have h := Option.some.inj h
    subst h
    exact hl_loc (k1 (s.1 + 1) (hl_si s.2 75 s.1.toNatClampNeg 0) rfl) ⟨rfl, rfl, trivial⟩
set_option maxRecDepth 20000 in
theorem p_M_text_L60 {X : hl_X} (D : Nat) (s : Int32 × hl_M) {o : (Int32 × hl_M) ⊕ (hl_M)} {v : Option Value} {τ : hl_M} (h : f_M_text_L60 s = some o) (k1 : ∀ (c0 : Int32) (c1 : hl_M), o = .inl ((c0, c1)) → hl_R X (D + 7) y61 60 [(0, .ref 64), (1, .int c0)] [] c1 v τ) (k2 : ∀ (a0 : hl_M), o = .inr a0 → hl_R X (D + 7) y61 79 [(0, .ref 64)] [] a0 v τ) : hl_R X (D + 7) y61 60 [(0, .ref 64), (1, .int s.1)] [] s.2 v τ := by
  unfold f_M_text_L60 at h
  refine hl_iload_n (i := 1) d61_60 rfl rfl ?_
  refine hl_bipush d61_61 kb54 ?_
  refine hl_icmp_ge (tg := 79) d61_63 rfl (fun hc => ?_) (fun hc => ?_)
  · have h := hl_pos hc h
    have h := Option.some.inj h
    subst h
    exact hl_loc (k2 s.2 rfl) ⟨rfl, trivial⟩
  · have h := hl_neg hc h
    refine hl_aload_n (i := 0) d61_66 rfl rfl (by decide) ?_
    refine hl_gr d61_67 gM_48_64 ?_
    refine hl_iload_n (i := 1) d61_70 rfl rfl ?_
    refine hl_iconst d61_71 ki0 ?_
    obtain ⟨hb, h⟩ := hl_gd h
    refine hl_zast (q := 76) d61_72 sh76 (hl_b_in hb) ?_
    refine hl_iinc (ls2 := [(1, .int (s.1 + 1)), (0, .ref 64)]) d61_73 rfl kx1 (by decide) rfl ?_
    refine hl_goto (tg := 60) d61_76 rfl ?_
    have h := Option.some.inj h
    subst h
    exact hl_loc (k1 (s.1 + 1) (hl_si s.2 76 s.1.toNatClampNeg (vp_nar .boolean 0)) rfl) ⟨rfl, rfl, trivial⟩
set_option maxRecDepth 20000 in
theorem p_M_text_L120 {X : hl_X} (D : Nat) (s : hl_M) {o : (hl_M) ⊕ (hl_M)} {v : Option Value} {τ : hl_M} (h : f_M_text_L120 s = some o) (k1 : ∀ (c0 : hl_M), o = .inl c0 → hl_R X (D + 7) y61 120 [(0, .ref 64)] [] c0 v τ) (k2 : ∀ (a0 : hl_M), o = .inr a0 → hl_R X (D + 7) y61 142 [(0, .ref 64)] [] a0 v τ) : hl_R X (D + 7) y61 120 [(0, .ref 64)] [] s v τ := by
  unfold f_M_text_L120 at h
  refine hl_aload_n (i := 0) d61_120 rfl rfl (by decide) ?_
  refine hl_gi d61_121 gM_173_64 ?_
  refine hl_if_ne (tg := 142) d61_124 rfl (fun hc => ?_) (fun hc => ?_)
  · have h := hl_neg hc h
    have h := Option.some.inj h
    subst h
    exact hl_loc (k2 s rfl) ⟨rfl, trivial⟩
  · have h := hl_pos hc h
    refine hl_aload_n (i := 0) d61_127 rfl rfl (by decide) ?_
    obtain ⟨x8, hx8, h⟩ := hl_bind h
    refine hl_cVi (D := (D + 6)) (z := y65) (n := 0) (av := []) (st := []) d61_128 mlM_185 rfl (Nat.le_of_ble_eq_true rfl) (Nat.le_of_ble_eq_true rfl) rc64 ((p_M_look D s hx8).dle (by omega)) ?_
    refine hl_iconst d61_131 kim1 ?_
    refine hl_icmp_eq (tg := 142) d61_132 rfl (fun hc => ?_) (fun hc => ?_)
    · have h := hl_pos hc h
      have h := Option.some.inj h
      subst h
      exact hl_loc (k2 x8.2 rfl) ⟨rfl, trivial⟩
    · have h := hl_neg hc h
      refine hl_aload_n (i := 0) d61_135 rfl rfl (by decide) ?_
      obtain ⟨x9, hx9, h⟩ := hl_bind h
      refine hl_cVv (D := (D + 6)) (z := y73) (n := 0) (av := []) (st := []) d61_136 mlM_298 rfl (Nat.le_of_ble_eq_true rfl) (Nat.le_of_ble_eq_true rfl) rc64 ((p_M_statementTold D x8.2 hx9).dle (by omega)) ?_
      refine hl_goto (tg := 120) d61_139 rfl ?_
      have h := Option.some.inj h
      subst h
      exact hl_loc (k1 x9 rfl) ⟨rfl, trivial⟩
set_option maxRecDepth 20000 in
theorem p_M_text {X : hl_X} (D : Nat) (σ : hl_M) {r : Int32} {τ : hl_M} (h : f_M_text σ = some (r, τ)) : hl_R X (D + 7) y61 0 [(0, .ref 64)] [] σ (some (.int r)) τ := by
  unfold f_M_text at h
  refine hl_aload_n (i := 0) d61_0 rfl rfl (by decide) ?_
  refine hl_aload_n (i := 0) d61_1 rfl rfl (by decide) ?_
  refine hl_gi d61_2 gM_170_64 ?_
  refine hl_pi d61_5 qM_182_64 ?_
  refine hl_aload_n (i := 0) d61_8 rfl rfl (by decide) ?_
  refine hl_iconst d61_9 ki0 ?_
  refine hl_pi d61_10 qM_170_64 ?_
  refine hl_aload_n (i := 0) d61_13 rfl rfl (by decide) ?_
  refine hl_iconst d61_14 ki0 ?_
  refine hl_pi d61_15 qM_179_64 ?_
  refine hl_aload_n (i := 0) d61_18 rfl rfl (by decide) ?_
  refine hl_iconst d61_19 kim1 ?_
  refine hl_pi d61_20 qM_193_64 ?_
  refine hl_aload_n (i := 0) d61_23 rfl rfl (by decide) ?_
  refine hl_iconst d61_24 ki0 ?_
  refine hl_pi d61_25 qM_173_64 ?_
  refine hl_aload_n (i := 0) d61_28 rfl rfl (by decide) ?_
  refine hl_iconst d61_29 kim1 ?_
  refine hl_pi d61_30 qM_176_64 ?_
  refine hl_aload_n (i := 0) d61_33 rfl rfl (by decide) ?_
  refine hl_iconst d61_34 ki0 ?_
  refine hl_pi d61_35 qM_273_64 ?_
  refine hl_nmm h (fun σ1 h => ?_)
  refine hl_iconst d61_38 ki0 ?_
  refine hl_istore_n (i := 1) (ls2 := [(1, .int 0), (0, .ref 64)]) d61_39 rfl (by decide) rfl ?_
  obtain ⟨x2, hx2, h⟩ := hl_bind h
  refine hl_R.loc (ls' := [(0, .ref 64), (1, .int 0)]) ⟨rfl, rfl, trivial⟩ ?_
  refine hl_lp_run2 (P := fun (c0 : Int32) (c1 : hl_M) => hl_R X (D + 7) y61 40 [(0, .ref 64), (1, .int c0)] [] c1 (some (.int r)) τ) (fun x : hl_M => hl_R X (D + 7) y61 58 [(0, .ref 64)] [] x (some (.int r)) τ) (fun c0 c1 o ho h1 h2 => p_M_text_L40 D (c0, c1) ho h1 (fun a0 e => h2 a0 e)) hl_big 0 σ1 x2 hx2 ?_
  refine hl_iconst d61_58 ki0 ?_
  refine hl_istore_n (i := 1) (ls2 := [(1, .int 0), (0, .ref 64)]) d61_59 rfl (by decide) rfl ?_
  obtain ⟨x3, hx3, h⟩ := hl_bind h
  refine hl_R.loc (ls' := [(0, .ref 64), (1, .int 0)]) ⟨rfl, rfl, trivial⟩ ?_
  refine hl_lp_run2 (P := fun (c0 : Int32) (c1 : hl_M) => hl_R X (D + 7) y61 60 [(0, .ref 64), (1, .int c0)] [] c1 (some (.int r)) τ) (fun x : hl_M => hl_R X (D + 7) y61 79 [(0, .ref 64)] [] x (some (.int r)) τ) (fun c0 c1 o ho h1 h2 => p_M_text_L60 D (c0, c1) ho h1 (fun a0 e => h2 a0 e)) hl_big 0 x2 x3 hx3 ?_
  refine hl_aload_n (i := 0) d61_79 rfl rfl (by decide) ?_
  refine hl_aload_n (i := 0) d61_80 rfl rfl (by decide) ?_
  refine hl_gr d61_81 gM_17_64 ?_
  obtain ⟨x4, hx4, h⟩ := hl_bind h
  refine hl_cVv (D := (D + 6)) (z := y62) (n := 1) (av := [.ref 66]) (st := []) d61_84 mlM_260 rfl (Nat.le_of_ble_eq_true rfl) (Nat.le_of_ble_eq_true rfl) rc64 ((p_M_asks D 66 (by decide) x3 hx4).dle (by omega)) ?_
  refine hl_aload_n (i := 0) d61_87 rfl rfl (by decide) ?_
  refine hl_aload_n (i := 0) d61_88 rfl rfl (by decide) ?_
  refine hl_iconst d61_89 ki3 ?_
  refine hl_bipush d61_90 kb9 ?_
  obtain ⟨x5, hx5, h⟩ := hl_bind h
  refine hl_cVi (D := (D + 6)) (z := y68) (n := 2) (av := [.int 3, .int 9]) (st := [.ref 64]) d61_92 mlM_242 rfl (Nat.le_of_ble_eq_true rfl) (Nat.le_of_ble_eq_true rfl) rc64 ((p_M_number D 3 9 x4 hx5).dle (by omega)) ?_
  refine hl_pi d61_95 qM_239_64 ?_
  refine hl_aload_n (i := 0) d61_98 rfl rfl (by decide) ?_
  refine hl_aload_n (i := 0) d61_99 rfl rfl (by decide) ?_
  refine hl_iconst d61_100 ki3 ?_
  refine hl_bipush d61_101 kb6 ?_
  obtain ⟨x6, hx6, h⟩ := hl_bind h
  refine hl_cVi (D := (D + 6)) (z := y68) (n := 2) (av := [.int 3, .int 6]) (st := [.ref 64]) d61_103 mlM_242 rfl (Nat.le_of_ble_eq_true rfl) (Nat.le_of_ble_eq_true rfl) rc64 ((p_M_number D 3 6 (hl_si x5.2 64 20 x5.1) hx6).dle (by omega)) ?_
  refine hl_pi d61_106 qM_246_64 ?_
  refine hl_aload_n (i := 0) d61_109 rfl rfl (by decide) ?_
  refine hl_bipush d61_110 kb59 ?_
  obtain ⟨x7, hx7, h⟩ := hl_bind h
  refine hl_cVv (D := (D + 6)) (z := y71) (n := 1) (av := [.int 59]) (st := []) d61_112 mlM_295 rfl (Nat.le_of_ble_eq_true rfl) (Nat.le_of_ble_eq_true rfl) rc64 ((p_M_asksSign D 59 (hl_si x6.2 64 21 x6.1) hx7).dle (by omega)) ?_
  refine hl_aload_n (i := 0) d61_115 rfl rfl (by decide) ?_
  refine hl_iconst d61_116 ki1 ?_
  refine hl_pi d61_117 qM_280_64 ?_
  obtain ⟨x10, hx10, h⟩ := hl_bind h
  refine hl_R.loc (ls' := [(0, .ref 64)]) ⟨rfl, trivial⟩ ?_
  refine hl_lp_run1 (P := fun (c0 : hl_M) => hl_R X (D + 7) y61 120 [(0, .ref 64)] [] c0 (some (.int r)) τ) (fun x : hl_M => hl_R X (D + 7) y61 142 [(0, .ref 64)] [] x (some (.int r)) τ) (fun c0 o ho h1 h2 => p_M_text_L120 D c0 ho h1 (fun a0 e => h2 a0 e)) hl_big (hl_si x7 64 29 1) x10 hx10 ?_
  refine hl_aload_n (i := 0) d61_142 rfl rfl (by decide) ?_
  refine hl_aload_n (i := 0) d61_143 rfl rfl (by decide) ?_
  refine hl_gi d61_144 gM_173_64 ?_
  refine hl_pi d61_147 qM_301_64 ?_
  refine hl_aload_n (i := 0) d61_150 rfl rfl (by decide) ?_
  refine hl_aload_n (i := 0) d61_151 rfl rfl (by decide) ?_
  refine hl_gi d61_152 gM_176_64 ?_
  refine hl_pi d61_155 qM_13_64 ?_
  refine hl_aload_n (i := 0) d61_158 rfl rfl (by decide) ?_
  refine hl_gi d61_159 gM_173_64 ?_
  refine hl_if_eq (tg := 167) d61_162 rfl (fun hc => ?_) (fun hc => ?_)
  · have h := hl_pos hc h
    refine hl_aload_n (i := 0) d61_167 rfl rfl (by decide) ?_
    obtain ⟨x11, hx11, h⟩ := hl_bind h
    refine hl_cVv (D := (D + 6)) (z := y88) (n := 0) (av := []) (st := []) d61_168 mlM_304 rfl (Nat.le_of_ble_eq_true rfl) (Nat.le_of_ble_eq_true rfl) rc64 ((p_M_stands D (hl_si (hl_si x10 64 7 (x10.1 64 5)) 64 8 ((hl_si x10 64 7 (x10.1 64 5)).1 64 6)) hx11).dle (by omega)) ?_
    refine hl_aload_n (i := 0) d61_171 rfl rfl (by decide) ?_
    refine hl_gi d61_172 gM_280_64 ?_
    obtain ⟨e1, e2⟩ := hl_some2 h
    subst e1; subst e2
    exact hl_iret d61_175 rfl
  · have h := hl_neg hc h
    refine hl_iconst d61_165 kim1 ?_
    obtain ⟨e1, e2⟩ := hl_some2 h
    subst e1; subst e2
    exact hl_iret d61_166 rfl
def f_X_fault (v1 : Int32) (σ : hl_M) : Int32 :=
  if v1 = 0 then
  σ.1 3 4 else
  if v1 = 1 then
  σ.1 3 5 else
  (-1)
set_option maxRecDepth 20000 in
theorem p_X_fault {X : hl_X} (D : Nat) (v1 : Int32) (σ : hl_M) {r : Int32} (h : f_X_fault v1 σ = r) : hl_R X D y96 0 [(0, .ref 0), (1, .int v1)] [] σ (some (.int r)) σ := by
  unfold f_X_fault at h
  refine hl_iload_n (i := 1) d96_0 rfl rfl ?_
  refine hl_if_ne (tg := 12) d96_1 rfl (fun hc => ?_) (fun hc => ?_)
  · have h := hl_neg hc h
    refine hl_iload_n (i := 1) d96_12 rfl rfl ?_
    refine hl_iconst d96_13 ki1 ?_
    refine hl_icmp_ne (tg := 27) d96_14 rfl (fun hc => ?_) (fun hc => ?_)
    · have h := hl_neg hc h
      refine hl_iconst d96_27 kim1 ?_
      subst h
      exact hl_iret d96_28 rfl
    · have h := hl_pos hc h
      refine hl_aload_n (i := 0) d96_17 rfl rfl (by decide) ?_
      refine hl_gr d96_18 gX_21_0 ?_
      refine hl_gi d96_21 gX_120_3 ?_
      refine hl_goto (tg := 28) d96_24 rfl ?_
      subst h
      exact hl_iret d96_28 rfl
  · have h := hl_pos hc h
    refine hl_aload_n (i := 0) d96_4 rfl rfl (by decide) ?_
    refine hl_gr d96_5 gX_21_0 ?_
    refine hl_gi d96_8 gX_117_3 ?_
    subst h
    exact hl_iret d96_11 rfl
def f_M_fault (v1 : Int32) (σ : hl_M) : Int32 :=
  if v1 = 0 then
  σ.1 64 7 else
  if v1 = 1 then
  σ.1 64 8 else
  (-1)
set_option maxRecDepth 20000 in
theorem p_M_fault {X : hl_X} (D : Nat) (v1 : Int32) (σ : hl_M) {r : Int32} (h : f_M_fault v1 σ = r) : hl_R X D y97 0 [(0, .ref 64), (1, .int v1)] [] σ (some (.int r)) σ := by
  unfold f_M_fault at h
  refine hl_iload_n (i := 1) d97_0 rfl rfl ?_
  refine hl_if_ne (tg := 11) d97_1 rfl (fun hc => ?_) (fun hc => ?_)
  · have h := hl_neg hc h
    refine hl_iload_n (i := 1) d97_11 rfl rfl ?_
    refine hl_iconst d97_12 ki1 ?_
    refine hl_icmp_ne (tg := 23) d97_13 rfl (fun hc => ?_) (fun hc => ?_)
    · have h := hl_neg hc h
      refine hl_iconst d97_23 kim1 ?_
      subst h
      exact hl_iret d97_24 rfl
    · have h := hl_pos hc h
      refine hl_aload_n (i := 0) d97_16 rfl rfl (by decide) ?_
      refine hl_gi d97_17 gM_13_64 ?_
      refine hl_goto (tg := 24) d97_20 rfl ?_
      subst h
      exact hl_iret d97_24 rfl
  · have h := hl_pos hc h
    refine hl_aload_n (i := 0) d97_4 rfl rfl (by decide) ?_
    refine hl_gi d97_5 gM_301_64 ?_
    refine hl_goto (tg := 24) d97_8 rfl ?_
    subst h
    exact hl_iret d97_24 rfl
def f_Long_bitCount (v0 : Int64) : Int32 :=
  hl_let (v0 - (((v0.toUInt64 >>> ((1 : Int32).toInt64.toUInt64 &&& Int64.toUInt64 63)).toInt64) &&& 6148914691236517205)) (fun w1 =>
  hl_let ((w1 &&& 3689348814741910323) + (((w1.toUInt64 >>> ((2 : Int32).toInt64.toUInt64 &&& Int64.toUInt64 63)).toInt64) &&& 3689348814741910323)) (fun w2 =>
  hl_let ((w2 + ((w2.toUInt64 >>> ((4 : Int32).toInt64.toUInt64 &&& Int64.toUInt64 63)).toInt64)) &&& 1085102592571150095) (fun w3 =>
  hl_let (w3 + ((w3.toUInt64 >>> ((8 : Int32).toInt64.toUInt64 &&& Int64.toUInt64 63)).toInt64)) (fun w4 =>
  hl_let (w4 + ((w4.toUInt64 >>> ((16 : Int32).toInt64.toUInt64 &&& Int64.toUInt64 63)).toInt64)) (fun w5 =>
  hl_let (w5 + ((w5.toUInt64 >>> ((32 : Int32).toInt64.toUInt64 &&& Int64.toUInt64 63)).toInt64)) (fun w6 =>
  w6.toInt32 &&& 127))))))
set_option maxRecDepth 20000 in
theorem p_Long_bitCount {X : hl_X} (D : Nat) (v0 : Int64) (σ : hl_M) {r : Int32} (h : f_Long_bitCount v0 = r) : hl_R X D y99 0 [(0, .long v0)] [] σ (some (.int r)) σ := by
  unfold f_Long_bitCount at h
  refine hl_lload_n (i := 0) d99_0 rfl rfl ?_
  refine hl_lload_n (i := 0) d99_1 rfl rfl ?_
  refine hl_iconst d99_2 ki1 ?_
  refine hl_lushr d99_3 ?_
  refine hl_ldc2 d99_4 wlLong_314 ?_
  refine hl_land d99_7 ?_
  refine hl_lsub d99_8 ?_
  refine hl_nml h (fun w1 h => ?_)
  refine hl_lstore_n (i := 0) (ls2 := [(0, .long w1)]) d99_9 rfl (by decide) rfl ?_
  refine hl_lload_n (i := 0) d99_10 rfl rfl ?_
  refine hl_ldc2 d99_11 wlLong_316 ?_
  refine hl_land d99_14 ?_
  refine hl_lload_n (i := 0) d99_15 rfl rfl ?_
  refine hl_iconst d99_16 ki2 ?_
  refine hl_lushr d99_17 ?_
  refine hl_ldc2 d99_18 wlLong_316 ?_
  refine hl_land d99_21 ?_
  refine hl_ladd d99_22 ?_
  refine hl_nml h (fun w2 h => ?_)
  refine hl_lstore_n (i := 0) (ls2 := [(0, .long w2)]) d99_23 rfl (by decide) rfl ?_
  refine hl_lload_n (i := 0) d99_24 rfl rfl ?_
  refine hl_lload_n (i := 0) d99_25 rfl rfl ?_
  refine hl_iconst d99_26 ki4 ?_
  refine hl_lushr d99_27 ?_
  refine hl_ladd d99_28 ?_
  refine hl_ldc2 d99_29 wlLong_318 ?_
  refine hl_land d99_32 ?_
  refine hl_nml h (fun w3 h => ?_)
  refine hl_lstore_n (i := 0) (ls2 := [(0, .long w3)]) d99_33 rfl (by decide) rfl ?_
  refine hl_lload_n (i := 0) d99_34 rfl rfl ?_
  refine hl_lload_n (i := 0) d99_35 rfl rfl ?_
  refine hl_bipush d99_36 kb8 ?_
  refine hl_lushr d99_38 ?_
  refine hl_ladd d99_39 ?_
  refine hl_nml h (fun w4 h => ?_)
  refine hl_lstore_n (i := 0) (ls2 := [(0, .long w4)]) d99_40 rfl (by decide) rfl ?_
  refine hl_lload_n (i := 0) d99_41 rfl rfl ?_
  refine hl_lload_n (i := 0) d99_42 rfl rfl ?_
  refine hl_bipush d99_43 kb16 ?_
  refine hl_lushr d99_45 ?_
  refine hl_ladd d99_46 ?_
  refine hl_nml h (fun w5 h => ?_)
  refine hl_lstore_n (i := 0) (ls2 := [(0, .long w5)]) d99_47 rfl (by decide) rfl ?_
  refine hl_lload_n (i := 0) d99_48 rfl rfl ?_
  refine hl_lload_n (i := 0) d99_49 rfl rfl ?_
  refine hl_bipush d99_50 kb32 ?_
  refine hl_lushr d99_52 ?_
  refine hl_ladd d99_53 ?_
  refine hl_nml h (fun w6 h => ?_)
  refine hl_lstore_n (i := 0) (ls2 := [(0, .long w6)]) d99_54 rfl (by decide) rfl ?_
  refine hl_lload_n (i := 0) d99_55 rfl rfl ?_
  refine hl_l2i d99_56 ?_
  refine hl_bipush d99_57 kb127 ?_
  refine hl_iand d99_59 ?_
  subst h
  exact hl_iret d99_60 rfl
def f_Gr_bearers_L4 (σ : hl_M) (s : Int32 × Int32) : Option ((Int32 × Int32) ⊕ (Int32)) :=
  if (σ.1 4 3) ≤ s.2 then
  some (.inr s.1) else
  if hl_b s.2 10 then
  if (σ.1 7 s.2.toNatClampNeg) = 0 then
  some (.inl ((s.1, s.2 + 1))) else
  some (.inl ((s.1 + 1, s.2 + 1))) else none
def f_Gr_bearers (σ : hl_M) : Option (Int32) :=
  (hl_lp (f_Gr_bearers_L4 σ) hl_big ((0, 0))).bind fun x1 =>
  some x1
set_option maxRecDepth 20000 in
theorem p_Gr_bearers_L4 {X : hl_X} (D : Nat) (σ : hl_M) (s : Int32 × Int32) {o : (Int32 × Int32) ⊕ (Int32)} {v : Option Value} (h : f_Gr_bearers_L4 σ s = some o) (k1 : ∀ (c0 : Int32) (c1 : Int32), o = .inl ((c0, c1)) → hl_R X D y100 4 [(0, .ref 4), (1, .int c0), (2, .int c1)] [] σ v σ) (k2 : ∀ (a0 : Int32), o = .inr a0 → hl_R X D y100 30 [(1, .int a0)] [] σ v σ) : hl_R X D y100 4 [(0, .ref 4), (1, .int s.1), (2, .int s.2)] [] σ v σ := by
  unfold f_Gr_bearers_L4 at h
  refine hl_iload_n (i := 2) d100_4 rfl rfl ?_
  refine hl_aload_n (i := 0) d100_5 rfl rfl (by decide) ?_
  refine hl_gi d100_6 gGr_51_4 ?_
  refine hl_icmp_ge (tg := 30) d100_9 rfl (fun hc => ?_) (fun hc => ?_)
  · have h := hl_pos hc h
    have h := Option.some.inj h
    subst h
    exact hl_loc (k2 s.1 rfl) ⟨rfl, trivial⟩
  · have h := hl_neg hc h
    refine hl_aload_n (i := 0) d100_12 rfl rfl (by decide) ?_
    refine hl_gr d100_13 gGr_18_4 ?_
    refine hl_iload_n (i := 2) d100_16 rfl rfl ?_
    obtain ⟨hb, h⟩ := hl_gd h
    refine hl_iald d100_17 sh7 (hl_b_in hb) ?_
    refine hl_if_eq (tg := 24) d100_18 rfl (fun hc => ?_) (fun hc => ?_)
    · have h := hl_pos hc h
      refine hl_iinc (ls2 := [(2, .int (s.2 + 1)), (0, .ref 4), (1, .int s.1)]) d100_24 rfl kx1 (by decide) rfl ?_
      refine hl_goto (tg := 4) d100_27 rfl ?_
      have h := Option.some.inj h
      subst h
      exact hl_loc (k1 s.1 (s.2 + 1) rfl) ⟨rfl, rfl, rfl, trivial⟩
    · have h := hl_neg hc h
      refine hl_iinc (ls2 := [(1, .int (s.1 + 1)), (0, .ref 4), (2, .int s.2)]) d100_21 rfl kx1 (by decide) rfl ?_
      refine hl_iinc (ls2 := [(2, .int (s.2 + 1)), (1, .int (s.1 + 1)), (0, .ref 4)]) d100_24 rfl kx1 (by decide) rfl ?_
      refine hl_goto (tg := 4) d100_27 rfl ?_
      have h := Option.some.inj h
      subst h
      exact hl_loc (k1 (s.1 + 1) (s.2 + 1) rfl) ⟨rfl, rfl, rfl, trivial⟩
set_option maxRecDepth 20000 in
theorem p_Gr_bearers {X : hl_X} (D : Nat) (σ : hl_M) {r : Int32} (h : f_Gr_bearers σ = some r) : hl_R X D y100 0 [(0, .ref 4)] [] σ (some (.int r)) σ := by
  unfold f_Gr_bearers at h
  refine hl_iconst d100_0 ki0 ?_
  refine hl_istore_n (i := 1) (ls2 := [(1, .int 0), (0, .ref 4)]) d100_1 rfl (by decide) rfl ?_
  refine hl_iconst d100_2 ki0 ?_
  refine hl_istore_n (i := 2) (ls2 := [(2, .int 0), (1, .int 0), (0, .ref 4)]) d100_3 rfl (by decide) rfl ?_
  obtain ⟨x1, hx1, h⟩ := hl_bind h
  refine hl_R.loc (ls' := [(0, .ref 4), (1, .int 0), (2, .int 0)]) ⟨rfl, rfl, rfl, trivial⟩ ?_
  refine hl_lp_run2 (P := fun (c0 : Int32) (c1 : Int32) => hl_R X D y100 4 [(0, .ref 4), (1, .int c0), (2, .int c1)] [] σ (some (.int r)) σ) (fun x : Int32 => hl_R X D y100 30 [(1, .int x)] [] σ (some (.int r)) σ) (fun c0 c1 o ho h1 h2 => p_Gr_bearers_L4 D σ (c0, c1) ho h1 (fun a0 e => h2 a0 e)) hl_big 0 0 x1 hx1 ?_
  refine hl_iload_n (i := 1) d100_30 rfl rfl ?_
  have h := Option.some.inj h
  subst h
  exact hl_iret d100_31 rfl
def f_Wk_cellOf (v1 : Int32) (v2 : Int32) (σ : hl_M) : Option (Int32) :=
  if (f_X_within v1 (σ.1 4 3)) = 0 then
  some ((-1)) else
  if (f_X_within v2 100) = 0 then
  some ((-1)) else
  if hl_b v1 10 then
  if (hl_shp (26 + 1 + v1.toNatClampNeg)).1 = 100 ∧ hl_b v2 (hl_shp (26 + 1 + v1.toNatClampNeg)).2 then
  some (σ.1 (26 + 1 + v1.toNatClampNeg) v2.toNatClampNeg) else none else none
set_option maxRecDepth 20000 in
theorem p_Wk_cellOf {X : hl_X} (D : Nat) (v1 : Int32) (v2 : Int32) (σ : hl_M) {r : Int32} (h : f_Wk_cellOf v1 v2 σ = some r) : hl_R X (D + 1) y104 0 [(0, .ref 25), (1, .int v1), (2, .int v2)] [] σ (some (.int r)) σ := by
  unfold f_Wk_cellOf at h
  refine hl_iload_n (i := 1) d104_0 rfl rfl ?_
  refine hl_aload_n (i := 0) d104_1 rfl rfl (by decide) ?_
  refine hl_gr d104_2 gWk_16_25 ?_
  refine hl_gi d104_5 gWk_20_4 ?_
  refine hl_cNi (D := D) (z := y2) (n := 2) (av := [.int v1, .int (σ.1 4 3)]) (st := []) d104_8 mlWk_30 rfl (Nat.le_of_ble_eq_true rfl) (Nat.le_of_ble_eq_true rfl) ((p_X_within D v1 (σ.1 4 3) σ rfl).dle (by omega)) ?_
  refine hl_if_eq (tg := 34) d104_11 rfl (fun hc => ?_) (fun hc => ?_)
  · have h := hl_pos hc h
    refine hl_iconst d104_34 kim1 ?_
    have h := Option.some.inj h
    subst h
    exact hl_iret d104_35 rfl
  · have h := hl_neg hc h
    refine hl_iload_n (i := 2) d104_14 rfl rfl ?_
    refine hl_bipush d104_15 kb100 ?_
    refine hl_cNi (D := D) (z := y2) (n := 2) (av := [.int v2, .int 100]) (st := []) d104_17 mlWk_30 rfl (Nat.le_of_ble_eq_true rfl) (Nat.le_of_ble_eq_true rfl) ((p_X_within D v2 100 σ rfl).dle (by omega)) ?_
    refine hl_if_eq (tg := 34) d104_20 rfl (fun hc => ?_) (fun hc => ?_)
    · have h := hl_pos hc h
      refine hl_iconst d104_34 kim1 ?_
      have h := Option.some.inj h
      subst h
      exact hl_iret d104_35 rfl
    · have h := hl_neg hc h
      refine hl_aload_n (i := 0) d104_23 rfl rfl (by decide) ?_
      refine hl_gr d104_24 gWk_11_25 ?_
      refine hl_iload_n (i := 1) d104_27 rfl rfl ?_
      obtain ⟨hb, h⟩ := hl_gd h
      refine hl_aald d104_28 sh26 (hl_b_in hb) (by decide) ?_
      have hq28 := hl_row9 (q := 26) hb (by decide)
      refine hl_iload_n (i := 2) d104_29 rfl rfl ?_
      obtain ⟨hb, h⟩ := hl_gd h
      refine hl_iald (q := (26 + 1 + v1.toNatClampNeg)) d104_30 (hl_shx hb.1) (hl_b_in hb.2) ?_
      refine hl_goto (tg := 35) d104_31 rfl ?_
      have h := Option.some.inj h
      subst h
      exact hl_iret d104_35 rfl
def f_Vw_addLamp_j47 (σ : hl_M) : hl_M :=
  hl_sl σ 37 2 ((σ.2 37 2) &&& ((σ.2 37 3) ^^^ ((-1))))
def f_Vw_addLamp (v1 : Int32) (v2 : Int32) (σ : hl_M) : hl_M :=
  if (f_X_within v1 54) = 0 then
  σ else
  if v2 = 2 then
  f_Vw_addLamp_j47 (hl_sl σ 37 3 ((σ.2 37 3) ||| ((1 : Int64) <<< (v1.toInt64 &&& 63)))) else
  if v2 = 1 then
  f_Vw_addLamp_j47 (hl_sl σ 37 2 ((σ.2 37 2) ||| ((1 : Int64) <<< (v1.toInt64 &&& 63)))) else
  f_Vw_addLamp_j47 σ
set_option maxRecDepth 20000 in
theorem p_Vw_addLamp_j47 {X : hl_X} (D : Nat) (σ : hl_M) {τ : hl_M} (h : f_Vw_addLamp_j47 σ = τ) : hl_R X (D + 1) y105 47 [(0, .ref 37)] [] σ none τ := by
  unfold f_Vw_addLamp_j47 at h
  refine hl_aload_n (i := 0) d105_47 rfl rfl (by decide) ?_
  refine hl_dup d105_48 rfl ?_
  refine hl_gl d105_49 gVw_19_37 ?_
  refine hl_aload_n (i := 0) d105_52 rfl rfl (by decide) ?_
  refine hl_gl d105_53 gVw_23_37 ?_
  refine hl_ldc2 d105_56 wlVw_50 ?_
  refine hl_lxor d105_59 ?_
  refine hl_land d105_60 ?_
  refine hl_pl d105_61 qVw_19_37 ?_
  subst h
  exact hl_vret d105_64 rfl
set_option maxRecDepth 20000 in
theorem p_Vw_addLamp {X : hl_X} (D : Nat) (v1 : Int32) (v2 : Int32) (σ : hl_M) {τ : hl_M} (h : f_Vw_addLamp v1 v2 σ = τ) : hl_R X (D + 1) y105 0 [(0, .ref 37), (1, .int v1), (2, .int v2)] [] σ none τ := by
  unfold f_Vw_addLamp at h
  refine hl_iload_n (i := 1) d105_0 rfl rfl ?_
  refine hl_bipush d105_1 kb54 ?_
  refine hl_cNi (D := D) (z := y2) (n := 2) (av := [.int v1, .int 54]) (st := []) d105_3 mlVw_46 rfl (Nat.le_of_ble_eq_true rfl) (Nat.le_of_ble_eq_true rfl) ((p_X_within D v1 54 σ rfl).dle (by omega)) ?_
  refine hl_if_ne (tg := 10) d105_6 rfl (fun hc => ?_) (fun hc => ?_)
  · have h := hl_neg hc h
    refine hl_lconst (x := 1) d105_10 (by decide) ?_
    refine hl_iload_n (i := 1) d105_11 rfl rfl ?_
    refine hl_lshl d105_12 ?_
    refine hl_lstore_n (i := 3) (ls2 := [(3, .long ((1 : Int64) <<< (v1.toInt64 &&& 63))), (0, .ref 37), (1, .int v1), (2, .int v2)]) d105_13 rfl (by decide) rfl ?_
    refine hl_iload_n (i := 2) d105_14 rfl rfl ?_
    refine hl_iconst d105_15 ki2 ?_
    refine hl_icmp_ne (tg := 32) d105_16 rfl (fun hc => ?_) (fun hc => ?_)
    · have h := hl_neg hc h
      refine hl_iload_n (i := 2) d105_32 rfl rfl ?_
      refine hl_iconst d105_33 ki1 ?_
      refine hl_icmp_ne (tg := 47) d105_34 rfl (fun hc => ?_) (fun hc => ?_)
      · have h := hl_neg hc h
        exact hl_loc (p_Vw_addLamp_j47 D σ h) ⟨rfl, trivial⟩
      · have h := hl_pos hc h
        refine hl_aload_n (i := 0) d105_37 rfl rfl (by decide) ?_
        refine hl_dup d105_38 rfl ?_
        refine hl_gl d105_39 gVw_19_37 ?_
        refine hl_lload_n (i := 3) d105_42 rfl rfl ?_
        refine hl_lor d105_43 ?_
        refine hl_pl d105_44 qVw_19_37 ?_
        exact hl_loc (p_Vw_addLamp_j47 D (hl_sl σ 37 2 ((σ.2 37 2) ||| ((1 : Int64) <<< (v1.toInt64 &&& 63)))) h) ⟨rfl, trivial⟩
    · have h := hl_pos hc h
      refine hl_aload_n (i := 0) d105_19 rfl rfl (by decide) ?_
      refine hl_dup d105_20 rfl ?_
      refine hl_gl d105_21 gVw_23_37 ?_
      refine hl_lload_n (i := 3) d105_24 rfl rfl ?_
      refine hl_lor d105_25 ?_
      refine hl_pl d105_26 qVw_23_37 ?_
      refine hl_goto (tg := 47) d105_29 rfl ?_
      exact hl_loc (p_Vw_addLamp_j47 D (hl_sl σ 37 3 ((σ.2 37 3) ||| ((1 : Int64) <<< (v1.toInt64 &&& 63)))) h) ⟨rfl, trivial⟩
  · have h := hl_pos hc h
    subst h
    exact hl_vret d105_9 rfl
def f_Vw_look_L12 (v1 : Int32) (v2 : Int32) (s : Int32 × hl_M) : Option ((Int32 × hl_M) ⊕ (hl_M)) :=
  if (s.2.1 4 3) ≤ s.1 then
  some (.inr s.2) else
  if s.1 = v2 then
  some (.inl ((s.1 + 1, s.2))) else
  (f_Wk_cellOf s.1 v1 s.2).bind fun x1 =>
  if hl_b s.1 10 then
  some (.inl ((s.1 + 1, f_Vw_addLamp x1 (s.2.1 7 s.1.toNatClampNeg) s.2))) else none
def f_Vw_look (v1 : Int32) (v2 : Int32) (σ : hl_M) : Option (hl_M) :=
  (hl_lp (f_Vw_look_L12 v1 v2) hl_big ((0, hl_sl (hl_sl σ 37 2 0) 37 3 0))).bind fun x2 =>
  some x2
set_option maxRecDepth 20000 in
theorem p_Vw_look_L12 {X : hl_X} (D : Nat) (v1 : Int32) (v2 : Int32) (s : Int32 × hl_M) {o : (Int32 × hl_M) ⊕ (hl_M)} {v : Option Value} {τ : hl_M} (h : f_Vw_look_L12 v1 v2 s = some o) (k1 : ∀ (c0 : Int32) (c1 : hl_M), o = .inl ((c0, c1)) → hl_R X (D + 2) y103 12 [(0, .ref 37), (1, .int v1), (2, .int v2), (3, .int c0)] [] c1 v τ) (k2 : ∀ (a0 : hl_M), o = .inr a0 → hl_R X (D + 2) y103 56 [] [] a0 v τ) : hl_R X (D + 2) y103 12 [(0, .ref 37), (1, .int v1), (2, .int v2), (3, .int s.1)] [] s.2 v τ := by
  unfold f_Vw_look_L12 at h
  refine hl_iload_n (i := 3) d103_12 rfl rfl ?_
  refine hl_aload_n (i := 0) d103_13 rfl rfl (by decide) ?_
  refine hl_gr d103_14 gVw_9_37 ?_
  refine hl_gi d103_17 gVw_26_4 ?_
  refine hl_icmp_ge (tg := 56) d103_20 rfl (fun hc => ?_) (fun hc => ?_)
  · have h := hl_pos hc h
    have h := Option.some.inj h
    subst h
    exact hl_loc (k2 s.2 rfl) trivial
  · have h := hl_neg hc h
    refine hl_iload_n (i := 3) d103_23 rfl rfl ?_
    refine hl_iload_n (i := 2) d103_24 rfl rfl ?_
    refine hl_icmp_eq (tg := 50) d103_25 rfl (fun hc => ?_) (fun hc => ?_)
    · have h := hl_pos hc h
      refine hl_iinc (ls2 := [(3, .int (s.1 + 1)), (0, .ref 37), (1, .int v1), (2, .int v2)]) d103_50 rfl kx1 (by decide) rfl ?_
      refine hl_goto (tg := 12) d103_53 rfl ?_
      have h := Option.some.inj h
      subst h
      exact hl_loc (k1 (s.1 + 1) s.2 rfl) ⟨rfl, rfl, rfl, rfl, trivial⟩
    · have h := hl_neg hc h
      refine hl_aload_n (i := 0) d103_28 rfl rfl (by decide) ?_
      refine hl_aload_n (i := 0) d103_29 rfl rfl (by decide) ?_
      refine hl_gr d103_30 gVw_15_37 ?_
      refine hl_iload_n (i := 3) d103_33 rfl rfl ?_
      refine hl_iload_n (i := 1) d103_34 rfl rfl ?_
      obtain ⟨x1, hx1, h⟩ := hl_bind h
      refine hl_cVi (D := (D + 1)) (z := y104) (n := 2) (av := [.int s.1, .int v1]) (st := [.ref 37]) d103_35 mlVw_32 rfl (Nat.le_of_ble_eq_true rfl) (Nat.le_of_ble_eq_true rfl) rc25 ((p_Wk_cellOf D s.1 v1 s.2 hx1).dle (by omega)) ?_
      refine hl_aload_n (i := 0) d103_38 rfl rfl (by decide) ?_
      refine hl_gr d103_39 gVw_9_37 ?_
      refine hl_gr d103_42 gVw_38_4 ?_
      refine hl_iload_n (i := 3) d103_45 rfl rfl ?_
      obtain ⟨hb, h⟩ := hl_gd h
      refine hl_iald d103_46 sh7 (hl_b_in hb) ?_
      refine hl_cVv (D := (D + 1)) (z := y105) (n := 2) (av := [.int x1, .int (s.2.1 7 s.1.toNatClampNeg)]) (st := []) d103_47 mlVw_42 rfl (Nat.le_of_ble_eq_true rfl) (Nat.le_of_ble_eq_true rfl) rc37 ((p_Vw_addLamp D x1 (s.2.1 7 s.1.toNatClampNeg) s.2 rfl).dle (by omega)) ?_
      refine hl_iinc (ls2 := [(3, .int (s.1 + 1)), (0, .ref 37), (1, .int v1), (2, .int v2)]) d103_50 rfl kx1 (by decide) rfl ?_
      refine hl_goto (tg := 12) d103_53 rfl ?_
      have h := Option.some.inj h
      subst h
      exact hl_loc (k1 (s.1 + 1) (f_Vw_addLamp x1 (s.2.1 7 s.1.toNatClampNeg) s.2) rfl) ⟨rfl, rfl, rfl, rfl, trivial⟩
set_option maxRecDepth 20000 in
theorem p_Vw_look {X : hl_X} (D : Nat) (v1 : Int32) (v2 : Int32) (σ : hl_M) {τ : hl_M} (h : f_Vw_look v1 v2 σ = some τ) : hl_R X (D + 2) y103 0 [(0, .ref 37), (1, .int v1), (2, .int v2)] [] σ none τ := by
  unfold f_Vw_look at h
  refine hl_aload_n (i := 0) d103_0 rfl rfl (by decide) ?_
  refine hl_lconst (x := 0) d103_1 (by decide) ?_
  refine hl_pl d103_2 qVw_19_37 ?_
  refine hl_aload_n (i := 0) d103_5 rfl rfl (by decide) ?_
  refine hl_lconst (x := 0) d103_6 (by decide) ?_
  refine hl_pl d103_7 qVw_23_37 ?_
  refine hl_iconst d103_10 ki0 ?_
  refine hl_istore_n (i := 3) (ls2 := [(3, .int 0), (0, .ref 37), (1, .int v1), (2, .int v2)]) d103_11 rfl (by decide) rfl ?_
  obtain ⟨x2, hx2, h⟩ := hl_bind h
  refine hl_R.loc (ls' := [(0, .ref 37), (1, .int v1), (2, .int v2), (3, .int 0)]) ⟨rfl, rfl, rfl, rfl, trivial⟩ ?_
  refine hl_lp_run2 (P := fun (c0 : Int32) (c1 : hl_M) => hl_R X (D + 2) y103 12 [(0, .ref 37), (1, .int v1), (2, .int v2), (3, .int c0)] [] c1 none τ) (fun x : hl_M => hl_R X (D + 2) y103 56 [] [] x none τ) (fun c0 c1 o ho h1 h2 => p_Vw_look_L12 D v1 v2 (c0, c1) ho h1 (fun a0 e => h2 a0 e)) hl_big 0 (hl_sl (hl_sl σ 37 2 0) 37 3 0) x2 hx2 ?_
  have h := Option.some.inj h
  subst h
  exact hl_vret d103_56 rfl
def f_Vw_farFrom (v1 : Int32) (σ : hl_M) : Option (Int32) :=
  if (f_X_within v1 (σ.1 4 8)) = 0 then
  some ((-1)) else
  if hl_b v1 8 then
  if hl_b v1 8 then
  some (f_Long_bitCount (((σ.2 37 2) ^^^ (σ.2 10 v1.toNatClampNeg)) ||| ((σ.2 37 3) ^^^ (σ.2 11 v1.toNatClampNeg)))) else none else none
set_option maxRecDepth 20000 in
theorem p_Vw_farFrom {X : hl_X} (D : Nat) (v1 : Int32) (σ : hl_M) {r : Int32} (h : f_Vw_farFrom v1 σ = some r) : hl_R X (D + 1) y106 0 [(0, .ref 37), (1, .int v1)] [] σ (some (.int r)) σ := by
  unfold f_Vw_farFrom at h
  refine hl_iload_n (i := 1) d106_0 rfl rfl ?_
  refine hl_aload_n (i := 0) d106_1 rfl rfl (by decide) ?_
  refine hl_gr d106_2 gVw_9_37 ?_
  refine hl_gi d106_5 gVw_76_4 ?_
  refine hl_cNi (D := D) (z := y2) (n := 2) (av := [.int v1, .int (σ.1 4 8)]) (st := []) d106_8 mlVw_46 rfl (Nat.le_of_ble_eq_true rfl) (Nat.le_of_ble_eq_true rfl) ((p_X_within D v1 (σ.1 4 8) σ rfl).dle (by omega)) ?_
  refine hl_if_ne (tg := 16) d106_11 rfl (fun hc => ?_) (fun hc => ?_)
  · have h := hl_neg hc h
    refine hl_aload_n (i := 0) d106_16 rfl rfl (by decide) ?_
    refine hl_gl d106_17 gVw_19_37 ?_
    refine hl_aload_n (i := 0) d106_20 rfl rfl (by decide) ?_
    refine hl_gr d106_21 gVw_9_37 ?_
    refine hl_gr d106_24 gVw_79_4 ?_
    refine hl_iload_n (i := 1) d106_27 rfl rfl ?_
    obtain ⟨hb, h⟩ := hl_gd h
    refine hl_lald d106_28 sh10 (hl_b_in hb) ?_
    refine hl_lxor d106_29 ?_
    refine hl_aload_n (i := 0) d106_30 rfl rfl (by decide) ?_
    refine hl_gl d106_31 gVw_23_37 ?_
    refine hl_aload_n (i := 0) d106_34 rfl rfl (by decide) ?_
    refine hl_gr d106_35 gVw_9_37 ?_
    refine hl_gr d106_38 gVw_83_4 ?_
    refine hl_iload_n (i := 1) d106_41 rfl rfl ?_
    obtain ⟨hb, h⟩ := hl_gd h
    refine hl_lald d106_42 sh11 (hl_b_in hb) ?_
    refine hl_lxor d106_43 ?_
    refine hl_lor d106_44 ?_
    refine hl_cSi (D := D) (z := y99) (n := 1) (av := [.long (((σ.2 37 2) ^^^ (σ.2 10 v1.toNatClampNeg)) ||| ((σ.2 37 3) ^^^ (σ.2 11 v1.toNatClampNeg)))]) (st := []) d106_45 mlVw_70 rfl (Nat.le_of_ble_eq_true rfl) (Nat.le_of_ble_eq_true rfl) ((p_Long_bitCount D (((σ.2 37 2) ^^^ (σ.2 10 v1.toNatClampNeg)) ||| ((σ.2 37 3) ^^^ (σ.2 11 v1.toNatClampNeg))) σ rfl).dle (by omega)) ?_
    have h := Option.some.inj h
    subst h
    exact hl_iret d106_48 rfl
  · have h := hl_pos hc h
    refine hl_iconst d106_14 kim1 ?_
    have h := Option.some.inj h
    subst h
    exact hl_iret d106_15 rfl
def f_X_missingOf (v1 : Int32) (v2 : Int32) (σ : hl_M) : Option (Int32 × hl_M) :=
  if (f_X_within v1 (σ.1 4 12)) = 0 then
  some (((-1), σ)) else
  if hl_b v1 10 then
  (f_Vw_look (σ.1 13 v1.toNatClampNeg) v2 σ).bind fun x1 =>
  if hl_b v1 10 then
  (f_Vw_farFrom (x1.1 12 v1.toNatClampNeg) x1).bind fun x2 =>
  some ((x2, x1)) else none else none
set_option maxRecDepth 20000 in
theorem p_X_missingOf {X : hl_X} (D : Nat) (v1 : Int32) (v2 : Int32) (σ : hl_M) {r : Int32} {τ : hl_M} (h : f_X_missingOf v1 v2 σ = some (r, τ)) : hl_R X (D + 3) y102 0 [(0, .ref 0), (1, .int v1), (2, .int v2)] [] σ (some (.int r)) τ := by
  unfold f_X_missingOf at h
  refine hl_iload_n (i := 1) d102_0 rfl rfl ?_
  refine hl_aload_n (i := 0) d102_1 rfl rfl (by decide) ?_
  refine hl_gr d102_2 gX_28_0 ?_
  refine hl_gi d102_5 gX_148_4 ?_
  refine hl_cSi (D := (D + 2)) (z := y2) (n := 2) (av := [.int v1, .int (σ.1 4 12)]) (st := []) d102_8 mlX_154 rfl (Nat.le_of_ble_eq_true rfl) (Nat.le_of_ble_eq_true rfl) ((p_X_within D v1 (σ.1 4 12) σ rfl).dle (by omega)) ?_
  refine hl_if_ne (tg := 16) d102_11 rfl (fun hc => ?_) (fun hc => ?_)
  · have h := hl_neg hc h
    refine hl_aload_n (i := 0) d102_16 rfl rfl (by decide) ?_
    refine hl_gr d102_17 gX_58_0 ?_
    refine hl_aload_n (i := 0) d102_20 rfl rfl (by decide) ?_
    refine hl_gr d102_21 gX_28_0 ?_
    refine hl_gr d102_24 gX_210_4 ?_
    refine hl_iload_n (i := 1) d102_27 rfl rfl ?_
    obtain ⟨hb, h⟩ := hl_gd h
    refine hl_iald d102_28 sh13 (hl_b_in hb) ?_
    refine hl_iload_n (i := 2) d102_29 rfl rfl ?_
    obtain ⟨x1, hx1, h⟩ := hl_bind h
    refine hl_cVv (D := (D + 2)) (z := y103) (n := 2) (av := [.int (σ.1 13 v1.toNatClampNeg), .int v2]) (st := []) d102_30 mlX_219 rfl (Nat.le_of_ble_eq_true rfl) (Nat.le_of_ble_eq_true rfl) rc37 ((p_Vw_look D (σ.1 13 v1.toNatClampNeg) v2 σ hx1).dle (by omega)) ?_
    refine hl_aload_n (i := 0) d102_33 rfl rfl (by decide) ?_
    refine hl_gr d102_34 gX_58_0 ?_
    refine hl_aload_n (i := 0) d102_37 rfl rfl (by decide) ?_
    refine hl_gr d102_38 gX_28_0 ?_
    refine hl_gr d102_41 gX_207_4 ?_
    refine hl_iload_n (i := 1) d102_44 rfl rfl ?_
    obtain ⟨hb, h⟩ := hl_gd h
    refine hl_iald d102_45 sh12 (hl_b_in hb) ?_
    obtain ⟨x2, hx2, h⟩ := hl_bind h
    refine hl_cVi (D := (D + 2)) (z := y106) (n := 1) (av := [.int (x1.1 12 v1.toNatClampNeg)]) (st := []) d102_46 mlX_238 rfl (Nat.le_of_ble_eq_true rfl) (Nat.le_of_ble_eq_true rfl) rc37 ((p_Vw_farFrom D (x1.1 12 v1.toNatClampNeg) x1 hx2).dle (by omega)) ?_
    obtain ⟨e1, e2⟩ := hl_some2 h
    subst e1; subst e2
    exact hl_iret d102_49 rfl
  · have h := hl_pos hc h
    refine hl_iconst d102_14 kim1 ?_
    obtain ⟨e1, e2⟩ := hl_some2 h
    subst e1; subst e2
    exact hl_iret d102_15 rfl
def f_X_sungHymns_L4 (s : Int32 × Int32 × hl_M) : Option ((Int32 × Int32 × hl_M) ⊕ (Int32 × hl_M)) :=
  if (s.2.2.1 4 12) ≤ s.2.1 then
  some (.inr (((s.1, s.2.2)))) else
  (f_X_missingOf s.2.1 ((-1)) s.2.2).bind fun x1 =>
  if x1.1 = 0 then
  some (.inl ((s.1 + 1, s.2.1 + 1, x1.2))) else
  some (.inl ((s.1, s.2.1 + 1, x1.2)))
def f_X_sungHymns (σ : hl_M) : Option (Int32 × hl_M) :=
  (hl_lp (f_X_sungHymns_L4) hl_big ((0, 0, σ))).bind fun x2 =>
  some ((x2.1, x2.2))
set_option maxRecDepth 20000 in
theorem p_X_sungHymns_L4 {X : hl_X} (D : Nat) (s : Int32 × Int32 × hl_M) {o : (Int32 × Int32 × hl_M) ⊕ (Int32 × hl_M)} {v : Option Value} {τ : hl_M} (h : f_X_sungHymns_L4 s = some o) (k1 : ∀ (c0 : Int32) (c1 : Int32) (c2 : hl_M), o = .inl ((c0, c1, c2)) → hl_R X (D + 4) y101 4 [(0, .ref 0), (1, .int c0), (2, .int c1)] [] c2 v τ) (k2 : ∀ (a0 : Int32) (a1 : hl_M), o = .inr ((a0, a1)) → hl_R X (D + 4) y101 33 [(1, .int a0)] [] a1 v τ) : hl_R X (D + 4) y101 4 [(0, .ref 0), (1, .int s.1), (2, .int s.2.1)] [] s.2.2 v τ := by
  unfold f_X_sungHymns_L4 at h
  refine hl_iload_n (i := 2) d101_4 rfl rfl ?_
  refine hl_aload_n (i := 0) d101_5 rfl rfl (by decide) ?_
  refine hl_gr d101_6 gX_28_0 ?_
  refine hl_gi d101_9 gX_148_4 ?_
  refine hl_icmp_ge (tg := 33) d101_12 rfl (fun hc => ?_) (fun hc => ?_)
  · have h := hl_pos hc h
    have h := Option.some.inj h
    subst h
    exact hl_loc (k2 s.1 s.2.2 rfl) ⟨rfl, trivial⟩
  · have h := hl_neg hc h
    refine hl_aload_n (i := 0) d101_15 rfl rfl (by decide) ?_
    refine hl_iload_n (i := 2) d101_16 rfl rfl ?_
    refine hl_iconst d101_17 kim1 ?_
    obtain ⟨x1, hx1, h⟩ := hl_bind h
    refine hl_cVi (D := (D + 3)) (z := y102) (n := 2) (av := [.int s.2.1, .int ((-1))]) (st := []) d101_18 mlX_213 rfl (Nat.le_of_ble_eq_true rfl) (Nat.le_of_ble_eq_true rfl) rc0 ((p_X_missingOf D s.2.1 ((-1)) s.2.2 hx1).dle (by omega)) ?_
    refine hl_if_ne (tg := 27) d101_21 rfl (fun hc => ?_) (fun hc => ?_)
    · have h := hl_neg hc h
      refine hl_iinc (ls2 := [(2, .int (s.2.1 + 1)), (0, .ref 0), (1, .int s.1)]) d101_27 rfl kx1 (by decide) rfl ?_
      refine hl_goto (tg := 4) d101_30 rfl ?_
      have h := Option.some.inj h
      subst h
      exact hl_loc (k1 s.1 (s.2.1 + 1) x1.2 rfl) ⟨rfl, rfl, rfl, trivial⟩
    · have h := hl_pos hc h
      refine hl_iinc (ls2 := [(1, .int (s.1 + 1)), (0, .ref 0), (2, .int s.2.1)]) d101_24 rfl kx1 (by decide) rfl ?_
      refine hl_iinc (ls2 := [(2, .int (s.2.1 + 1)), (1, .int (s.1 + 1)), (0, .ref 0)]) d101_27 rfl kx1 (by decide) rfl ?_
      refine hl_goto (tg := 4) d101_30 rfl ?_
      have h := Option.some.inj h
      subst h
      exact hl_loc (k1 (s.1 + 1) (s.2.1 + 1) x1.2 rfl) ⟨rfl, rfl, rfl, trivial⟩
set_option maxRecDepth 20000 in
theorem p_X_sungHymns {X : hl_X} (D : Nat) (σ : hl_M) {r : Int32} {τ : hl_M} (h : f_X_sungHymns σ = some (r, τ)) : hl_R X (D + 4) y101 0 [(0, .ref 0)] [] σ (some (.int r)) τ := by
  unfold f_X_sungHymns at h
  refine hl_iconst d101_0 ki0 ?_
  refine hl_istore_n (i := 1) (ls2 := [(1, .int 0), (0, .ref 0)]) d101_1 rfl (by decide) rfl ?_
  refine hl_iconst d101_2 ki0 ?_
  refine hl_istore_n (i := 2) (ls2 := [(2, .int 0), (1, .int 0), (0, .ref 0)]) d101_3 rfl (by decide) rfl ?_
  obtain ⟨x2, hx2, h⟩ := hl_bind h
  refine hl_R.loc (ls' := [(0, .ref 0), (1, .int 0), (2, .int 0)]) ⟨rfl, rfl, rfl, trivial⟩ ?_
  refine hl_lp_run3 (P := fun (c0 : Int32) (c1 : Int32) (c2 : hl_M) => hl_R X (D + 4) y101 4 [(0, .ref 0), (1, .int c0), (2, .int c1)] [] c2 (some (.int r)) τ) (fun x : Int32 × hl_M => hl_R X (D + 4) y101 33 [(1, .int x.1)] [] x.2 (some (.int r)) τ) (fun c0 c1 c2 o ho h1 h2 => p_X_sungHymns_L4 D (c0, c1, c2) ho h1 (fun a0 a1 e => h2 ((a0, a1)) e)) hl_big 0 0 σ x2 hx2 ?_
  refine hl_iload_n (i := 1) d101_33 rfl rfl ?_
  obtain ⟨e1, e2⟩ := hl_some2 h
  subst e1; subst e2
  exact hl_iret d101_34 rfl
def f_X_ground (v1 : Int32) (σ : hl_M) : Option (Int32 × hl_M) :=
  if v1 = 0 then
  some ((σ.1 4 0, σ)) else
  if v1 = 1 then
  some ((σ.1 4 1, σ)) else
  if v1 = 2 then
  some ((f_Long_bitCount (σ.2 4 2), σ)) else
  if v1 = 3 then
  some ((σ.1 4 3, σ)) else
  if v1 = 4 then
  (f_Gr_bearers σ).bind fun x1 =>
  some ((x1, σ)) else
  if v1 = 5 then
  some ((σ.1 4 8, σ)) else
  if v1 = 6 then
  some ((σ.1 4 12, σ)) else
  if v1 = 7 then
  (f_X_sungHymns σ).bind fun x2 =>
  some ((x2.1, x2.2)) else
  if v1 = 8 then
  some ((σ.1 58 3, σ)) else
  some (((-1), σ))
set_option maxRecDepth 20000 in
theorem p_X_ground {X : hl_X} (D : Nat) (v1 : Int32) (σ : hl_M) {r : Int32} {τ : hl_M} (h : f_X_ground v1 σ = some (r, τ)) : hl_R X (D + 5) y98 0 [(0, .ref 0), (1, .int v1)] [] σ (some (.int r)) τ := by
  unfold f_X_ground at h
  refine hl_iload_n (i := 1) d98_0 rfl rfl ?_
  by_cases hc1_0 : v1 = 0
  · have h := hl_pos hc1_0 h
    refine hl_tabIn (off := 51) (tg := 52) d98_1 (by rw [hc1_0]; decide) (by rw [hc1_0]; decide) (by rw [hc1_0]; rfl) rfl ?_
    refine hl_aload_n (i := 0) d98_52 rfl rfl (by decide) ?_
    refine hl_gr d98_53 gX_28_0 ?_
    refine hl_gi d98_56 gX_123_4 ?_
    obtain ⟨e1, e2⟩ := hl_some2 h
    subst e1; subst e2
    exact hl_iret d98_59 rfl
  have h := hl_neg hc1_0 h
  by_cases hc1_1 : v1 = 1
  · have h := hl_pos hc1_1 h
    refine hl_tabIn (off := 59) (tg := 60) d98_1 (by rw [hc1_1]; decide) (by rw [hc1_1]; decide) (by rw [hc1_1]; rfl) rfl ?_
    refine hl_aload_n (i := 0) d98_60 rfl rfl (by decide) ?_
    refine hl_gr d98_61 gX_28_0 ?_
    refine hl_gi d98_64 gX_126_4 ?_
    obtain ⟨e1, e2⟩ := hl_some2 h
    subst e1; subst e2
    exact hl_iret d98_67 rfl
  have h := hl_neg hc1_1 h
  by_cases hc1_2 : v1 = 2
  · have h := hl_pos hc1_2 h
    refine hl_tabIn (off := 67) (tg := 68) d98_1 (by rw [hc1_2]; decide) (by rw [hc1_2]; decide) (by rw [hc1_2]; rfl) rfl ?_
    refine hl_aload_n (i := 0) d98_68 rfl rfl (by decide) ?_
    refine hl_gr d98_69 gX_28_0 ?_
    refine hl_gl d98_72 gX_129_4 ?_
    refine hl_cSi (D := (D + 4)) (z := y99) (n := 1) (av := [.long (σ.2 4 2)]) (st := []) d98_75 mlX_133 rfl (Nat.le_of_ble_eq_true rfl) (Nat.le_of_ble_eq_true rfl) ((p_Long_bitCount D (σ.2 4 2) σ rfl).dle (by omega)) ?_
    obtain ⟨e1, e2⟩ := hl_some2 h
    subst e1; subst e2
    exact hl_iret d98_78 rfl
  have h := hl_neg hc1_2 h
  by_cases hc1_3 : v1 = 3
  · have h := hl_pos hc1_3 h
    refine hl_tabIn (off := 78) (tg := 79) d98_1 (by rw [hc1_3]; decide) (by rw [hc1_3]; decide) (by rw [hc1_3]; rfl) rfl ?_
    refine hl_aload_n (i := 0) d98_79 rfl rfl (by decide) ?_
    refine hl_gr d98_80 gX_28_0 ?_
    refine hl_gi d98_83 gX_139_4 ?_
    obtain ⟨e1, e2⟩ := hl_some2 h
    subst e1; subst e2
    exact hl_iret d98_86 rfl
  have h := hl_neg hc1_3 h
  by_cases hc1_4 : v1 = 4
  · have h := hl_pos hc1_4 h
    refine hl_tabIn (off := 86) (tg := 87) d98_1 (by rw [hc1_4]; decide) (by rw [hc1_4]; decide) (by rw [hc1_4]; rfl) rfl ?_
    refine hl_aload_n (i := 0) d98_87 rfl rfl (by decide) ?_
    refine hl_gr d98_88 gX_28_0 ?_
    obtain ⟨x1, hx1, h⟩ := hl_bind h
    refine hl_cVi (D := (D + 4)) (z := y100) (n := 0) (av := []) (st := []) d98_91 mlX_142 rfl (Nat.le_of_ble_eq_true rfl) (Nat.le_of_ble_eq_true rfl) rc4 ((p_Gr_bearers D σ hx1).dle (by omega)) ?_
    obtain ⟨e1, e2⟩ := hl_some2 h
    subst e1; subst e2
    exact hl_iret d98_94 rfl
  have h := hl_neg hc1_4 h
  by_cases hc1_5 : v1 = 5
  · have h := hl_pos hc1_5 h
    refine hl_tabIn (off := 94) (tg := 95) d98_1 (by rw [hc1_5]; decide) (by rw [hc1_5]; decide) (by rw [hc1_5]; rfl) rfl ?_
    refine hl_aload_n (i := 0) d98_95 rfl rfl (by decide) ?_
    refine hl_gr d98_96 gX_28_0 ?_
    refine hl_gi d98_99 gX_145_4 ?_
    obtain ⟨e1, e2⟩ := hl_some2 h
    subst e1; subst e2
    exact hl_iret d98_102 rfl
  have h := hl_neg hc1_5 h
  by_cases hc1_6 : v1 = 6
  · have h := hl_pos hc1_6 h
    refine hl_tabIn (off := 102) (tg := 103) d98_1 (by rw [hc1_6]; decide) (by rw [hc1_6]; decide) (by rw [hc1_6]; rfl) rfl ?_
    refine hl_aload_n (i := 0) d98_103 rfl rfl (by decide) ?_
    refine hl_gr d98_104 gX_28_0 ?_
    refine hl_gi d98_107 gX_148_4 ?_
    obtain ⟨e1, e2⟩ := hl_some2 h
    subst e1; subst e2
    exact hl_iret d98_110 rfl
  have h := hl_neg hc1_6 h
  by_cases hc1_7 : v1 = 7
  · have h := hl_pos hc1_7 h
    refine hl_tabIn (off := 110) (tg := 111) d98_1 (by rw [hc1_7]; decide) (by rw [hc1_7]; decide) (by rw [hc1_7]; rfl) rfl ?_
    refine hl_aload_n (i := 0) d98_111 rfl rfl (by decide) ?_
    obtain ⟨x2, hx2, h⟩ := hl_bind h
    refine hl_cVi (D := (D + 4)) (z := y101) (n := 0) (av := []) (st := []) d98_112 mlX_151 rfl (Nat.le_of_ble_eq_true rfl) (Nat.le_of_ble_eq_true rfl) rc0 ((p_X_sungHymns D σ hx2).dle (by omega)) ?_
    obtain ⟨e1, e2⟩ := hl_some2 h
    subst e1; subst e2
    exact hl_iret d98_115 rfl
  have h := hl_neg hc1_7 h
  by_cases hc1_8 : v1 = 8
  · have h := hl_pos hc1_8 h
    refine hl_tabIn (off := 115) (tg := 116) d98_1 (by rw [hc1_8]; decide) (by rw [hc1_8]; decide) (by rw [hc1_8]; rfl) rfl ?_
    refine hl_aload_n (i := 0) d98_116 rfl rfl (by decide) ?_
    refine hl_gr d98_117 gX_81_0 ?_
    refine hl_gi d98_120 gX_110_58 ?_
    obtain ⟨e1, e2⟩ := hl_some2 h
    subst e1; subst e2
    exact hl_iret d98_123 rfl
  have h := hl_neg hc1_8 h
  refine hl_tabD (tg := 124) d98_1 (fun k g1 g2 e => by
        rcases (by omega : k = 0 ∨ k = 1 ∨ k = 2 ∨ k = 3 ∨ k = 4 ∨ k = 5 ∨ k = 6 ∨ k = 7 ∨ k = 8) with rfl | rfl | rfl | rfl | rfl | rfl | rfl | rfl | rfl
        · exact hc1_0 (Int32.toInt_inj.mp (e.trans (by decide)))
        · exact hc1_1 (Int32.toInt_inj.mp (e.trans (by decide)))
        · exact hc1_2 (Int32.toInt_inj.mp (e.trans (by decide)))
        · exact hc1_3 (Int32.toInt_inj.mp (e.trans (by decide)))
        · exact hc1_4 (Int32.toInt_inj.mp (e.trans (by decide)))
        · exact hc1_5 (Int32.toInt_inj.mp (e.trans (by decide)))
        · exact hc1_6 (Int32.toInt_inj.mp (e.trans (by decide)))
        · exact hc1_7 (Int32.toInt_inj.mp (e.trans (by decide)))
        · exact hc1_8 (Int32.toInt_inj.mp (e.trans (by decide)))
      ) rfl ?_
  refine hl_iconst d98_124 kim1 ?_
  obtain ⟨e1, e2⟩ := hl_some2 h
  subst e1; subst e2
  exact hl_iret d98_125 rfl
def f_M_wallMany_L4 (σ : hl_M) (s : Int32 × Int32) : Option ((Int32 × Int32) ⊕ (Int32)) :=
  if (f_M_cells σ) ≤ s.2 then
  some (.inr s.1) else
  if hl_b (54 + s.2) 108 then
  if (σ.1 76 (54 + s.2).toNatClampNeg) = 0 then
  some (.inl ((s.1, s.2 + 1))) else
  some (.inl ((s.1 + 1, s.2 + 1))) else none
def f_M_wallMany (σ : hl_M) : Option (Int32) :=
  (hl_lp (f_M_wallMany_L4 σ) hl_big ((0, 0))).bind fun x1 =>
  some x1
set_option maxRecDepth 20000 in
theorem p_M_wallMany_L4 {X : hl_X} (D : Nat) (σ : hl_M) (s : Int32 × Int32) {o : (Int32 × Int32) ⊕ (Int32)} {v : Option Value} (h : f_M_wallMany_L4 σ s = some o) (k1 : ∀ (c0 : Int32) (c1 : Int32), o = .inl ((c0, c1)) → hl_R X (D + 1) y108 4 [(0, .ref 64), (1, .int c0), (2, .int c1)] [] σ v σ) (k2 : ∀ (a0 : Int32), o = .inr a0 → hl_R X (D + 1) y108 33 [(1, .int a0)] [] σ v σ) : hl_R X (D + 1) y108 4 [(0, .ref 64), (1, .int s.1), (2, .int s.2)] [] σ v σ := by
  unfold f_M_wallMany_L4 at h
  refine hl_iload_n (i := 2) d108_4 rfl rfl ?_
  refine hl_aload_n (i := 0) d108_5 rfl rfl (by decide) ?_
  refine hl_cVi (D := D) (z := y89) (n := 0) (av := []) (st := [.int s.2]) d108_6 mlM_320 rfl (Nat.le_of_ble_eq_true rfl) (Nat.le_of_ble_eq_true rfl) rc64 ((p_M_cells D σ rfl).dle (by omega)) ?_
  refine hl_icmp_ge (tg := 33) d108_9 rfl (fun hc => ?_) (fun hc => ?_)
  · have h := hl_pos hc h
    have h := Option.some.inj h
    subst h
    exact hl_loc (k2 s.1 rfl) ⟨rfl, trivial⟩
  · have h := hl_neg hc h
    refine hl_aload_n (i := 0) d108_12 rfl rfl (by decide) ?_
    refine hl_gr d108_13 gM_48_64 ?_
    refine hl_bipush d108_16 kb54 ?_
    refine hl_iload_n (i := 2) d108_18 rfl rfl ?_
    refine hl_iadd d108_19 ?_
    obtain ⟨hb, h⟩ := hl_gd h
    refine hl_zald d108_20 sh76 (hl_b_in hb) ?_
    refine hl_if_eq (tg := 27) d108_21 rfl (fun hc => ?_) (fun hc => ?_)
    · have h := hl_pos hc h
      refine hl_iinc (ls2 := [(2, .int (s.2 + 1)), (0, .ref 64), (1, .int s.1)]) d108_27 rfl kx1 (by decide) rfl ?_
      refine hl_goto (tg := 4) d108_30 rfl ?_
      have h := Option.some.inj h
      subst h
      exact hl_loc (k1 s.1 (s.2 + 1) rfl) ⟨rfl, rfl, rfl, trivial⟩
    · have h := hl_neg hc h
      refine hl_iinc (ls2 := [(1, .int (s.1 + 1)), (0, .ref 64), (2, .int s.2)]) d108_24 rfl kx1 (by decide) rfl ?_
      refine hl_iinc (ls2 := [(2, .int (s.2 + 1)), (1, .int (s.1 + 1)), (0, .ref 64)]) d108_27 rfl kx1 (by decide) rfl ?_
      refine hl_goto (tg := 4) d108_30 rfl ?_
      have h := Option.some.inj h
      subst h
      exact hl_loc (k1 (s.1 + 1) (s.2 + 1) rfl) ⟨rfl, rfl, rfl, trivial⟩
set_option maxRecDepth 20000 in
theorem p_M_wallMany {X : hl_X} (D : Nat) (σ : hl_M) {r : Int32} (h : f_M_wallMany σ = some r) : hl_R X (D + 1) y108 0 [(0, .ref 64)] [] σ (some (.int r)) σ := by
  unfold f_M_wallMany at h
  refine hl_iconst d108_0 ki0 ?_
  refine hl_istore_n (i := 1) (ls2 := [(1, .int 0), (0, .ref 64)]) d108_1 rfl (by decide) rfl ?_
  refine hl_iconst d108_2 ki0 ?_
  refine hl_istore_n (i := 2) (ls2 := [(2, .int 0), (1, .int 0), (0, .ref 64)]) d108_3 rfl (by decide) rfl ?_
  obtain ⟨x1, hx1, h⟩ := hl_bind h
  refine hl_R.loc (ls' := [(0, .ref 64), (1, .int 0), (2, .int 0)]) ⟨rfl, rfl, rfl, trivial⟩ ?_
  refine hl_lp_run2 (P := fun (c0 : Int32) (c1 : Int32) => hl_R X (D + 1) y108 4 [(0, .ref 64), (1, .int c0), (2, .int c1)] [] σ (some (.int r)) σ) (fun x : Int32 => hl_R X (D + 1) y108 33 [(1, .int x)] [] σ (some (.int r)) σ) (fun c0 c1 o ho h1 h2 => p_M_wallMany_L4 D σ (c0, c1) ho h1 (fun a0 e => h2 a0 e)) hl_big 0 0 x1 hx1 ?_
  refine hl_iload_n (i := 1) d108_33 rfl rfl ?_
  have h := Option.some.inj h
  subst h
  exact hl_iret d108_34 rfl
def f_M_lampOf (v1 : Int32) (σ : hl_M) : Option (Int32) :=
  if hl_b (151 + (15 * v1)) 300 then
  some (σ.1 78 (151 + (15 * v1)).toNatClampNeg) else none
set_option maxRecDepth 20000 in
theorem p_M_lampOf {X : hl_X} (D : Nat) (v1 : Int32) (σ : hl_M) {r : Int32} (h : f_M_lampOf v1 σ = some r) : hl_R X D y110 0 [(0, .ref 64), (1, .int v1)] [] σ (some (.int r)) σ := by
  unfold f_M_lampOf at h
  refine hl_aload_n (i := 0) d110_0 rfl rfl (by decide) ?_
  refine hl_gr d110_1 gM_56_64 ?_
  refine hl_sipush d110_4 ks151 ?_
  refine hl_bipush d110_7 kb15 ?_
  refine hl_iload_n (i := 1) d110_9 rfl rfl ?_
  refine hl_imul d110_10 ?_
  refine hl_iadd d110_11 ?_
  obtain ⟨hb, h⟩ := hl_gd h
  refine hl_iald d110_12 sh78 (hl_b_in hb) ?_
  have h := Option.some.inj h
  subst h
  exact hl_iret d110_13 rfl
def f_M_lampMany_L4 (σ : hl_M) (s : Int32 × Int32) : Option ((Int32 × Int32) ⊕ (Int32)) :=
  (f_M_personMany σ).bind fun x1 =>
  if x1 ≤ s.2 then
  some (.inr s.1) else
  (f_M_lampOf s.2 σ).bind fun x2 =>
  if x2 ≤ 0 then
  some (.inl ((s.1, s.2 + 1))) else
  some (.inl ((s.1 + 1, s.2 + 1)))
def f_M_lampMany (σ : hl_M) : Option (Int32) :=
  (hl_lp (f_M_lampMany_L4 σ) hl_big ((0, 0))).bind fun x3 =>
  some x3
set_option maxRecDepth 20000 in
theorem p_M_lampMany_L4 {X : hl_X} (D : Nat) (σ : hl_M) (s : Int32 × Int32) {o : (Int32 × Int32) ⊕ (Int32)} {v : Option Value} (h : f_M_lampMany_L4 σ s = some o) (k1 : ∀ (c0 : Int32) (c1 : Int32), o = .inl ((c0, c1)) → hl_R X (D + 1) y109 4 [(0, .ref 64), (1, .int c0), (2, .int c1)] [] σ v σ) (k2 : ∀ (a0 : Int32), o = .inr a0 → hl_R X (D + 1) y109 29 [(1, .int a0)] [] σ v σ) : hl_R X (D + 1) y109 4 [(0, .ref 64), (1, .int s.1), (2, .int s.2)] [] σ v σ := by
  unfold f_M_lampMany_L4 at h
  refine hl_iload_n (i := 2) d109_4 rfl rfl ?_
  refine hl_aload_n (i := 0) d109_5 rfl rfl (by decide) ?_
  obtain ⟨x1, hx1, h⟩ := hl_bind h
  refine hl_cVi (D := D) (z := y93) (n := 0) (av := []) (st := [.int s.2]) d109_6 mlM_335 rfl (Nat.le_of_ble_eq_true rfl) (Nat.le_of_ble_eq_true rfl) rc64 ((p_M_personMany D σ hx1).dle (by omega)) ?_
  refine hl_icmp_ge (tg := 29) d109_9 rfl (fun hc => ?_) (fun hc => ?_)
  · have h := hl_pos hc h
    have h := Option.some.inj h
    subst h
    exact hl_loc (k2 s.1 rfl) ⟨rfl, trivial⟩
  · have h := hl_neg hc h
    refine hl_aload_n (i := 0) d109_12 rfl rfl (by decide) ?_
    refine hl_iload_n (i := 2) d109_13 rfl rfl ?_
    obtain ⟨x2, hx2, h⟩ := hl_bind h
    refine hl_cVi (D := D) (z := y110) (n := 1) (av := [.int s.2]) (st := []) d109_14 mlM_358 rfl (Nat.le_of_ble_eq_true rfl) (Nat.le_of_ble_eq_true rfl) rc64 ((p_M_lampOf D s.2 σ hx2).dle (by omega)) ?_
    refine hl_if_le (tg := 23) d109_17 rfl (fun hc => ?_) (fun hc => ?_)
    · have h := hl_pos hc h
      refine hl_iinc (ls2 := [(2, .int (s.2 + 1)), (0, .ref 64), (1, .int s.1)]) d109_23 rfl kx1 (by decide) rfl ?_
      refine hl_goto (tg := 4) d109_26 rfl ?_
      have h := Option.some.inj h
      subst h
      exact hl_loc (k1 s.1 (s.2 + 1) rfl) ⟨rfl, rfl, rfl, trivial⟩
    · have h := hl_neg hc h
      refine hl_iinc (ls2 := [(1, .int (s.1 + 1)), (0, .ref 64), (2, .int s.2)]) d109_20 rfl kx1 (by decide) rfl ?_
      refine hl_iinc (ls2 := [(2, .int (s.2 + 1)), (1, .int (s.1 + 1)), (0, .ref 64)]) d109_23 rfl kx1 (by decide) rfl ?_
      refine hl_goto (tg := 4) d109_26 rfl ?_
      have h := Option.some.inj h
      subst h
      exact hl_loc (k1 (s.1 + 1) (s.2 + 1) rfl) ⟨rfl, rfl, rfl, trivial⟩
set_option maxRecDepth 20000 in
theorem p_M_lampMany {X : hl_X} (D : Nat) (σ : hl_M) {r : Int32} (h : f_M_lampMany σ = some r) : hl_R X (D + 1) y109 0 [(0, .ref 64)] [] σ (some (.int r)) σ := by
  unfold f_M_lampMany at h
  refine hl_iconst d109_0 ki0 ?_
  refine hl_istore_n (i := 1) (ls2 := [(1, .int 0), (0, .ref 64)]) d109_1 rfl (by decide) rfl ?_
  refine hl_iconst d109_2 ki0 ?_
  refine hl_istore_n (i := 2) (ls2 := [(2, .int 0), (1, .int 0), (0, .ref 64)]) d109_3 rfl (by decide) rfl ?_
  obtain ⟨x3, hx3, h⟩ := hl_bind h
  refine hl_R.loc (ls' := [(0, .ref 64), (1, .int 0), (2, .int 0)]) ⟨rfl, rfl, rfl, trivial⟩ ?_
  refine hl_lp_run2 (P := fun (c0 : Int32) (c1 : Int32) => hl_R X (D + 1) y109 4 [(0, .ref 64), (1, .int c0), (2, .int c1)] [] σ (some (.int r)) σ) (fun x : Int32 => hl_R X (D + 1) y109 29 [(1, .int x)] [] σ (some (.int r)) σ) (fun c0 c1 o ho h1 h2 => p_M_lampMany_L4 D σ (c0, c1) ho h1 (fun a0 e => h2 a0 e)) hl_big 0 0 x3 hx3 ?_
  refine hl_iload_n (i := 1) d109_29 rfl rfl ?_
  have h := Option.some.inj h
  subst h
  exact hl_iret d109_30 rfl
def f_M_wordMany (σ : hl_M) : Option (Int32) :=
  if hl_b (4 : Int32) 6 then
  some (σ.1 75 (4 : Int32).toNatClampNeg) else none
set_option maxRecDepth 20000 in
theorem p_M_wordMany {X : hl_X} (D : Nat) (σ : hl_M) {r : Int32} (h : f_M_wordMany σ = some r) : hl_R X D y111 0 [(0, .ref 64)] [] σ (some (.int r)) σ := by
  unfold f_M_wordMany at h
  refine hl_aload_n (i := 0) d111_0 rfl rfl (by decide) ?_
  refine hl_gr d111_1 gM_45_64 ?_
  refine hl_iconst d111_4 ki4 ?_
  obtain ⟨hb, h⟩ := hl_gd h
  refine hl_iald d111_5 sh75 (hl_b_in hb) ?_
  have h := Option.some.inj h
  subst h
  exact hl_iret d111_6 rfl
def f_M_hymnMany (σ : hl_M) : Option (Int32) :=
  if hl_b (5 : Int32) 6 then
  some (σ.1 75 (5 : Int32).toNatClampNeg) else none
set_option maxRecDepth 20000 in
theorem p_M_hymnMany {X : hl_X} (D : Nat) (σ : hl_M) {r : Int32} (h : f_M_hymnMany σ = some r) : hl_R X D y112 0 [(0, .ref 64)] [] σ (some (.int r)) σ := by
  unfold f_M_hymnMany at h
  refine hl_aload_n (i := 0) d112_0 rfl rfl (by decide) ?_
  refine hl_gr d112_1 gM_45_64 ?_
  refine hl_iconst d112_4 ki5 ?_
  obtain ⟨hb, h⟩ := hl_gd h
  refine hl_iald d112_5 sh75 (hl_b_in hb) ?_
  have h := Option.some.inj h
  subst h
  exact hl_iret d112_6 rfl
def f_M_whereIn (v1 : Int32) (v2 : Int32) (σ : hl_M) : Option (Int32) :=
  if hl_b ((100 * v1) + v2) 1000 then
  some (σ.1 83 ((100 * v1) + v2).toNatClampNeg) else none
set_option maxRecDepth 20000 in
theorem p_M_whereIn {X : hl_X} (D : Nat) (v1 : Int32) (v2 : Int32) (σ : hl_M) {r : Int32} (h : f_M_whereIn v1 v2 σ = some r) : hl_R X D y117 0 [(0, .ref 64), (1, .int v1), (2, .int v2)] [] σ (some (.int r)) σ := by
  unfold f_M_whereIn at h
  refine hl_aload_n (i := 0) d117_0 rfl rfl (by decide) ?_
  refine hl_gr d117_1 gM_71_64 ?_
  refine hl_bipush d117_4 kb100 ?_
  refine hl_iload_n (i := 1) d117_6 rfl rfl ?_
  refine hl_imul d117_7 ?_
  refine hl_iload_n (i := 2) d117_8 rfl rfl ?_
  refine hl_iadd d117_9 ?_
  obtain ⟨hb, h⟩ := hl_gd h
  refine hl_iald d117_10 sh83 (hl_b_in hb) ?_
  have h := Option.some.inj h
  subst h
  exact hl_iret d117_11 rfl
def f_M_litIn_j37 (v1 : Int32) (v2 : Int32) (v3 : Int32) (v4 : Int32) (s0 : Int32) (σ : hl_M) : Option ((Int32 × Int32) ⊕ (Int32)) :=
  if v4 = (σ.1 64 35) then
  some (.inl ((v3, v4 + 1))) else
  if s0 = v2 then
  (f_M_lampOf v4 σ).bind fun x3 =>
  if x3 ≤ v3 then
  some (.inl ((v3, v4 + 1))) else
  (f_M_lampOf v4 σ).bind fun x4 =>
  some (.inl ((x4, v4 + 1))) else
  some (.inl ((v3, v4 + 1)))
def f_M_litIn_L5 (v1 : Int32) (v2 : Int32) (σ : hl_M) (s : Int32 × Int32) : Option ((Int32 × Int32) ⊕ (Int32)) :=
  (f_M_personMany σ).bind fun x1 =>
  if x1 ≤ s.2 then
  some (.inr s.1) else
  if s.2 = (σ.1 64 36) then
  f_M_litIn_j37 v1 v2 s.1 s.2 (σ.1 64 37) σ else
  (f_M_whereIn s.2 v1 σ).bind fun x2 =>
  f_M_litIn_j37 v1 v2 s.1 s.2 x2 σ
def f_M_litIn (v1 : Int32) (v2 : Int32) (σ : hl_M) : Option (Int32) :=
  (hl_lp (f_M_litIn_L5 v1 v2 σ) hl_big ((0, 0))).bind fun x5 =>
  some x5
set_option maxRecDepth 20000 in
theorem p_M_litIn_j37 {X : hl_X} (D : Nat) (v1 : Int32) (v2 : Int32) (v3 : Int32) (v4 : Int32) (s0 : Int32) (σ : hl_M) {o : (Int32 × Int32) ⊕ (Int32)} {v : Option Value} (h : f_M_litIn_j37 v1 v2 v3 v4 s0 σ = some o) (k1 : ∀ (c0 : Int32) (c1 : Int32), o = .inl ((c0, c1)) → hl_R X (D + 1) y116 5 [(0, .ref 64), (1, .int v1), (2, .int v2), (3, .int c0), (4, .int c1)] [] σ v σ) (k2 : ∀ (a0 : Int32), o = .inr a0 → hl_R X (D + 1) y116 77 [(3, .int a0)] [] σ v σ) : hl_R X (D + 1) y116 37 [(0, .ref 64), (1, .int v1), (2, .int v2), (3, .int v3), (4, .int v4)] [.int s0] σ v σ := by
  unfold f_M_litIn_j37 at h
  refine hl_istore (ls2 := [(5, .int s0), (0, .ref 64), (1, .int v1), (2, .int v2), (3, .int v3), (4, .int v4)]) d116_37 (by decide) rfl ?_
  refine hl_iload d116_39 rfl ?_
  refine hl_aload_n (i := 0) d116_41 rfl rfl (by decide) ?_
  refine hl_gi d116_42 gM_74_64 ?_
  refine hl_icmp_eq (tg := 71) d116_45 rfl (fun hc => ?_) (fun hc => ?_)
  · have h := hl_pos hc h
    refine hl_iinc (ls2 := [(4, .int (v4 + 1)), (5, .int s0), (0, .ref 64), (1, .int v1), (2, .int v2), (3, .int v3)]) d116_71 rfl kx1 (by decide) rfl ?_
    refine hl_goto (tg := 5) d116_74 rfl ?_
    have h := Option.some.inj h
    subst h
    exact hl_loc (k1 v3 (v4 + 1) rfl) ⟨rfl, rfl, rfl, rfl, rfl, trivial⟩
  · have h := hl_neg hc h
    refine hl_iload d116_48 rfl ?_
    refine hl_iload_n (i := 2) d116_50 rfl rfl ?_
    refine hl_icmp_ne (tg := 71) d116_51 rfl (fun hc => ?_) (fun hc => ?_)
    · have h := hl_neg hc h
      refine hl_iinc (ls2 := [(4, .int (v4 + 1)), (5, .int s0), (0, .ref 64), (1, .int v1), (2, .int v2), (3, .int v3)]) d116_71 rfl kx1 (by decide) rfl ?_
      refine hl_goto (tg := 5) d116_74 rfl ?_
      have h := Option.some.inj h
      subst h
      exact hl_loc (k1 v3 (v4 + 1) rfl) ⟨rfl, rfl, rfl, rfl, rfl, trivial⟩
    · have h := hl_pos hc h
      refine hl_aload_n (i := 0) d116_54 rfl rfl (by decide) ?_
      refine hl_iload d116_55 rfl ?_
      obtain ⟨x3, hx3, h⟩ := hl_bind h
      refine hl_cVi (D := D) (z := y110) (n := 1) (av := [.int v4]) (st := []) d116_57 mlM_358 rfl (Nat.le_of_ble_eq_true rfl) (Nat.le_of_ble_eq_true rfl) rc64 ((p_M_lampOf D v4 σ hx3).dle (by omega)) ?_
      refine hl_iload_n (i := 3) d116_60 rfl rfl ?_
      refine hl_icmp_le (tg := 71) d116_61 rfl (fun hc => ?_) (fun hc => ?_)
      · have h := hl_pos hc h
        refine hl_iinc (ls2 := [(4, .int (v4 + 1)), (5, .int s0), (0, .ref 64), (1, .int v1), (2, .int v2), (3, .int v3)]) d116_71 rfl kx1 (by decide) rfl ?_
        refine hl_goto (tg := 5) d116_74 rfl ?_
        have h := Option.some.inj h
        subst h
        exact hl_loc (k1 v3 (v4 + 1) rfl) ⟨rfl, rfl, rfl, rfl, rfl, trivial⟩
      · have h := hl_neg hc h
        refine hl_aload_n (i := 0) d116_64 rfl rfl (by decide) ?_
        refine hl_iload d116_65 rfl ?_
        obtain ⟨x4, hx4, h⟩ := hl_bind h
        refine hl_cVi (D := D) (z := y110) (n := 1) (av := [.int v4]) (st := []) d116_67 mlM_358 rfl (Nat.le_of_ble_eq_true rfl) (Nat.le_of_ble_eq_true rfl) rc64 ((p_M_lampOf D v4 σ hx4).dle (by omega)) ?_
        refine hl_istore_n (i := 3) (ls2 := [(3, .int x4), (5, .int s0), (0, .ref 64), (1, .int v1), (2, .int v2), (4, .int v4)]) d116_70 rfl (by decide) rfl ?_
        refine hl_iinc (ls2 := [(4, .int (v4 + 1)), (3, .int x4), (5, .int s0), (0, .ref 64), (1, .int v1), (2, .int v2)]) d116_71 rfl kx1 (by decide) rfl ?_
        refine hl_goto (tg := 5) d116_74 rfl ?_
        have h := Option.some.inj h
        subst h
        exact hl_loc (k1 x4 (v4 + 1) rfl) ⟨rfl, rfl, rfl, rfl, rfl, trivial⟩
set_option maxRecDepth 20000 in
theorem p_M_litIn_L5 {X : hl_X} (D : Nat) (v1 : Int32) (v2 : Int32) (σ : hl_M) (s : Int32 × Int32) {o : (Int32 × Int32) ⊕ (Int32)} {v : Option Value} (h : f_M_litIn_L5 v1 v2 σ s = some o) (k1 : ∀ (c0 : Int32) (c1 : Int32), o = .inl ((c0, c1)) → hl_R X (D + 1) y116 5 [(0, .ref 64), (1, .int v1), (2, .int v2), (3, .int c0), (4, .int c1)] [] σ v σ) (k2 : ∀ (a0 : Int32), o = .inr a0 → hl_R X (D + 1) y116 77 [(3, .int a0)] [] σ v σ) : hl_R X (D + 1) y116 5 [(0, .ref 64), (1, .int v1), (2, .int v2), (3, .int s.1), (4, .int s.2)] [] σ v σ := by
  unfold f_M_litIn_L5 at h
  refine hl_iload d116_5 rfl ?_
  refine hl_aload_n (i := 0) d116_7 rfl rfl (by decide) ?_
  obtain ⟨x1, hx1, h⟩ := hl_bind h
  refine hl_cVi (D := D) (z := y93) (n := 0) (av := []) (st := [.int s.2]) d116_8 mlM_335 rfl (Nat.le_of_ble_eq_true rfl) (Nat.le_of_ble_eq_true rfl) rc64 ((p_M_personMany D σ hx1).dle (by omega)) ?_
  refine hl_icmp_ge (tg := 77) d116_11 rfl (fun hc => ?_) (fun hc => ?_)
  · have h := hl_pos hc h
    have h := Option.some.inj h
    subst h
    exact hl_loc (k2 s.1 rfl) ⟨rfl, trivial⟩
  · have h := hl_neg hc h
    refine hl_iload d116_14 rfl ?_
    refine hl_aload_n (i := 0) d116_16 rfl rfl (by decide) ?_
    refine hl_gi d116_17 gM_77_64 ?_
    refine hl_icmp_ne (tg := 30) d116_20 rfl (fun hc => ?_) (fun hc => ?_)
    · have h := hl_neg hc h
      refine hl_aload_n (i := 0) d116_30 rfl rfl (by decide) ?_
      refine hl_iload d116_31 rfl ?_
      refine hl_iload_n (i := 1) d116_33 rfl rfl ?_
      obtain ⟨x2, hx2, h⟩ := hl_bind h
      refine hl_cVi (D := D) (z := y117) (n := 2) (av := [.int s.2, .int v1]) (st := []) d116_34 mlM_349 rfl (Nat.le_of_ble_eq_true rfl) (Nat.le_of_ble_eq_true rfl) rc64 ((p_M_whereIn D s.2 v1 σ hx2).dle (by omega)) ?_
      exact hl_loc (p_M_litIn_j37 D v1 v2 s.1 s.2 x2 σ h k1 k2) ⟨rfl, rfl, rfl, rfl, rfl, trivial⟩
    · have h := hl_pos hc h
      refine hl_aload_n (i := 0) d116_23 rfl rfl (by decide) ?_
      refine hl_gi d116_24 gM_355_64 ?_
      refine hl_goto (tg := 37) d116_27 rfl ?_
      exact hl_loc (p_M_litIn_j37 D v1 v2 s.1 s.2 (σ.1 64 37) σ h k1 k2) ⟨rfl, rfl, rfl, rfl, rfl, trivial⟩
set_option maxRecDepth 20000 in
theorem p_M_litIn {X : hl_X} (D : Nat) (v1 : Int32) (v2 : Int32) (σ : hl_M) {r : Int32} (h : f_M_litIn v1 v2 σ = some r) : hl_R X (D + 1) y116 0 [(0, .ref 64), (1, .int v1), (2, .int v2)] [] σ (some (.int r)) σ := by
  unfold f_M_litIn at h
  refine hl_iconst d116_0 ki0 ?_
  refine hl_istore_n (i := 3) (ls2 := [(3, .int 0), (0, .ref 64), (1, .int v1), (2, .int v2)]) d116_1 rfl (by decide) rfl ?_
  refine hl_iconst d116_2 ki0 ?_
  refine hl_istore (ls2 := [(4, .int 0), (3, .int 0), (0, .ref 64), (1, .int v1), (2, .int v2)]) d116_3 (by decide) rfl ?_
  obtain ⟨x5, hx5, h⟩ := hl_bind h
  refine hl_R.loc (ls' := [(0, .ref 64), (1, .int v1), (2, .int v2), (3, .int 0), (4, .int 0)]) ⟨rfl, rfl, rfl, rfl, rfl, trivial⟩ ?_
  refine hl_lp_run2 (P := fun (c0 : Int32) (c1 : Int32) => hl_R X (D + 1) y116 5 [(0, .ref 64), (1, .int v1), (2, .int v2), (3, .int c0), (4, .int c1)] [] σ (some (.int r)) σ) (fun x : Int32 => hl_R X (D + 1) y116 77 [(3, .int x)] [] σ (some (.int r)) σ) (fun c0 c1 o ho h1 h2 => p_M_litIn_L5 D v1 v2 σ (c0, c1) ho h1 (fun a0 e => h2 a0 e)) hl_big 0 0 x5 hx5 ?_
  refine hl_iload_n (i := 3) d116_77 rfl rfl ?_
  have h := Option.some.inj h
  subst h
  exact hl_iret d116_78 rfl
def f_M_farFrom_j51 (v1 : Int32) (v2 : Int32) (v3 : Int32) (v4 : Int32) (v5 : Int32) (s0 : Int32) (σ : hl_M) : Option ((Int32 × Int32) ⊕ (Int32)) :=
  (f_M_litIn v1 s0 σ).bind fun x1 =>
  if hl_b ((432 + (54 * v2)) + v5) 864 then
  if x1 = (σ.1 79 ((432 + (54 * v2)) + v5).toNatClampNeg) then
  some (.inl ((v4, v5 + 1))) else
  some (.inl ((v4 + 1, v5 + 1))) else none
def f_M_farFrom_L6 (v1 : Int32) (v2 : Int32) (v3 : Int32) (σ : hl_M) (s : Int32 × Int32) : Option ((Int32 × Int32) ⊕ (Int32)) :=
  if (f_M_cells σ) ≤ s.2 then
  some (.inr s.1) else
  if v3 = 0 then
  f_M_farFrom_j51 v1 v2 v3 s.1 s.2 s.2 σ else
  if (σ.1 64 30) = 0 then none else
  if (σ.1 64 30) = 0 then none else
  f_M_farFrom_j51 v1 v2 v3 s.1 s.2 (((σ.1 64 30) * (((σ.1 64 31) - 1) - (s.2 / (σ.1 64 30)))) + (s.2 - s.2 / (σ.1 64 30) * (σ.1 64 30))) σ
def f_M_farFrom (v1 : Int32) (v2 : Int32) (v3 : Int32) (σ : hl_M) : Option (Int32) :=
  (hl_lp (f_M_farFrom_L6 v1 v2 v3 σ) hl_big ((0, 0))).bind fun x2 =>
  some x2
set_option maxRecDepth 20000 in
theorem p_M_farFrom_j51 {X : hl_X} (D : Nat) (v1 : Int32) (v2 : Int32) (v3 : Int32) (v4 : Int32) (v5 : Int32) (s0 : Int32) (σ : hl_M) {o : (Int32 × Int32) ⊕ (Int32)} {v : Option Value} (h : f_M_farFrom_j51 v1 v2 v3 v4 v5 s0 σ = some o) (k1 : ∀ (c0 : Int32) (c1 : Int32), o = .inl ((c0, c1)) → hl_R X (D + 2) y115 6 [(0, .ref 64), (1, .int v1), (2, .int v2), (3, .int v3), (4, .int c0), (5, .int c1)] [] σ v σ) (k2 : ∀ (a0 : Int32), o = .inr a0 → hl_R X (D + 2) y115 88 [(4, .int a0)] [] σ v σ) : hl_R X (D + 2) y115 51 [(0, .ref 64), (1, .int v1), (2, .int v2), (3, .int v3), (4, .int v4), (5, .int v5)] [.int s0] σ v σ := by
  unfold f_M_farFrom_j51 at h
  refine hl_istore (ls2 := [(6, .int s0), (0, .ref 64), (1, .int v1), (2, .int v2), (3, .int v3), (4, .int v4), (5, .int v5)]) d115_51 (by decide) rfl ?_
  refine hl_aload_n (i := 0) d115_53 rfl rfl (by decide) ?_
  refine hl_iload_n (i := 1) d115_54 rfl rfl ?_
  refine hl_iload d115_55 rfl ?_
  obtain ⟨x1, hx1, h⟩ := hl_bind h
  refine hl_cVi (D := (D + 1)) (z := y116) (n := 2) (av := [.int v1, .int s0]) (st := []) d115_57 mlM_361 rfl (Nat.le_of_ble_eq_true rfl) (Nat.le_of_ble_eq_true rfl) rc64 ((p_M_litIn D v1 s0 σ hx1).dle (by omega)) ?_
  refine hl_aload_n (i := 0) d115_60 rfl rfl (by decide) ?_
  refine hl_gr d115_61 gM_59_64 ?_
  refine hl_sipush d115_64 ks432 ?_
  refine hl_bipush d115_67 kb54 ?_
  refine hl_iload_n (i := 2) d115_69 rfl rfl ?_
  refine hl_imul d115_70 ?_
  refine hl_iadd d115_71 ?_
  refine hl_iload d115_72 rfl ?_
  refine hl_iadd d115_74 ?_
  obtain ⟨hb, h⟩ := hl_gd h
  refine hl_iald d115_75 sh79 (hl_b_in hb) ?_
  refine hl_icmp_eq (tg := 82) d115_76 rfl (fun hc => ?_) (fun hc => ?_)
  · have h := hl_pos hc h
    refine hl_iinc (ls2 := [(5, .int (v5 + 1)), (6, .int s0), (0, .ref 64), (1, .int v1), (2, .int v2), (3, .int v3), (4, .int v4)]) d115_82 rfl kx1 (by decide) rfl ?_
    refine hl_goto (tg := 6) d115_85 rfl ?_
    have h := Option.some.inj h
    subst h
    exact hl_loc (k1 v4 (v5 + 1) rfl) ⟨rfl, rfl, rfl, rfl, rfl, rfl, trivial⟩
  · have h := hl_neg hc h
    refine hl_iinc (ls2 := [(4, .int (v4 + 1)), (6, .int s0), (0, .ref 64), (1, .int v1), (2, .int v2), (3, .int v3), (5, .int v5)]) d115_79 rfl kx1 (by decide) rfl ?_
    refine hl_iinc (ls2 := [(5, .int (v5 + 1)), (4, .int (v4 + 1)), (6, .int s0), (0, .ref 64), (1, .int v1), (2, .int v2), (3, .int v3)]) d115_82 rfl kx1 (by decide) rfl ?_
    refine hl_goto (tg := 6) d115_85 rfl ?_
    have h := Option.some.inj h
    subst h
    exact hl_loc (k1 (v4 + 1) (v5 + 1) rfl) ⟨rfl, rfl, rfl, rfl, rfl, rfl, trivial⟩
set_option maxRecDepth 20000 in
theorem p_M_farFrom_L6 {X : hl_X} (D : Nat) (v1 : Int32) (v2 : Int32) (v3 : Int32) (σ : hl_M) (s : Int32 × Int32) {o : (Int32 × Int32) ⊕ (Int32)} {v : Option Value} (h : f_M_farFrom_L6 v1 v2 v3 σ s = some o) (k1 : ∀ (c0 : Int32) (c1 : Int32), o = .inl ((c0, c1)) → hl_R X (D + 2) y115 6 [(0, .ref 64), (1, .int v1), (2, .int v2), (3, .int v3), (4, .int c0), (5, .int c1)] [] σ v σ) (k2 : ∀ (a0 : Int32), o = .inr a0 → hl_R X (D + 2) y115 88 [(4, .int a0)] [] σ v σ) : hl_R X (D + 2) y115 6 [(0, .ref 64), (1, .int v1), (2, .int v2), (3, .int v3), (4, .int s.1), (5, .int s.2)] [] σ v σ := by
  unfold f_M_farFrom_L6 at h
  refine hl_iload d115_6 rfl ?_
  refine hl_aload_n (i := 0) d115_8 rfl rfl (by decide) ?_
  refine hl_cVi (D := (D + 1)) (z := y89) (n := 0) (av := []) (st := [.int s.2]) d115_9 mlM_320 rfl (Nat.le_of_ble_eq_true rfl) (Nat.le_of_ble_eq_true rfl) rc64 ((p_M_cells D σ rfl).dle (by omega)) ?_
  refine hl_icmp_ge (tg := 88) d115_12 rfl (fun hc => ?_) (fun hc => ?_)
  · have h := hl_pos hc h
    have h := Option.some.inj h
    subst h
    exact hl_loc (k2 s.1 rfl) ⟨rfl, trivial⟩
  · have h := hl_neg hc h
    refine hl_iload_n (i := 3) d115_15 rfl rfl ?_
    refine hl_if_eq (tg := 49) d115_16 rfl (fun hc => ?_) (fun hc => ?_)
    · have h := hl_pos hc h
      refine hl_iload d115_49 rfl ?_
      exact hl_loc (p_M_farFrom_j51 D v1 v2 v3 s.1 s.2 s.2 σ h k1 k2) ⟨rfl, rfl, rfl, rfl, rfl, rfl, trivial⟩
    · have h := hl_neg hc h
      refine hl_aload_n (i := 0) d115_19 rfl rfl (by decide) ?_
      refine hl_gi d115_20 gM_307_64 ?_
      refine hl_aload_n (i := 0) d115_23 rfl rfl (by decide) ?_
      refine hl_gi d115_24 gM_310_64 ?_
      refine hl_iconst d115_27 ki1 ?_
      refine hl_isub d115_28 ?_
      refine hl_iload d115_29 rfl ?_
      refine hl_aload_n (i := 0) d115_31 rfl rfl (by decide) ?_
      refine hl_gi d115_32 gM_307_64 ?_
      obtain ⟨hb, h⟩ := hl_gn h
      refine hl_idiv d115_35 hb ?_
      refine hl_isub d115_36 ?_
      refine hl_imul d115_37 ?_
      refine hl_iload d115_38 rfl ?_
      refine hl_aload_n (i := 0) d115_40 rfl rfl (by decide) ?_
      refine hl_gi d115_41 gM_307_64 ?_
      obtain ⟨hb, h⟩ := hl_gn h
      refine hl_irem d115_44 hb ?_
      refine hl_iadd d115_45 ?_
      refine hl_goto (tg := 51) d115_46 rfl ?_
      exact hl_loc (p_M_farFrom_j51 D v1 v2 v3 s.1 s.2 (((σ.1 64 30) * (((σ.1 64 31) - 1) - (s.2 / (σ.1 64 30)))) + (s.2 - s.2 / (σ.1 64 30) * (σ.1 64 30))) σ h k1 k2) ⟨rfl, rfl, rfl, rfl, rfl, rfl, trivial⟩
set_option maxRecDepth 20000 in
theorem p_M_farFrom {X : hl_X} (D : Nat) (v1 : Int32) (v2 : Int32) (v3 : Int32) (σ : hl_M) {r : Int32} (h : f_M_farFrom v1 v2 v3 σ = some r) : hl_R X (D + 2) y115 0 [(0, .ref 64), (1, .int v1), (2, .int v2), (3, .int v3)] [] σ (some (.int r)) σ := by
  unfold f_M_farFrom at h
  refine hl_iconst d115_0 ki0 ?_
  refine hl_istore (ls2 := [(4, .int 0), (0, .ref 64), (1, .int v1), (2, .int v2), (3, .int v3)]) d115_1 (by decide) rfl ?_
  refine hl_iconst d115_3 ki0 ?_
  refine hl_istore (ls2 := [(5, .int 0), (4, .int 0), (0, .ref 64), (1, .int v1), (2, .int v2), (3, .int v3)]) d115_4 (by decide) rfl ?_
  obtain ⟨x2, hx2, h⟩ := hl_bind h
  refine hl_R.loc (ls' := [(0, .ref 64), (1, .int v1), (2, .int v2), (3, .int v3), (4, .int 0), (5, .int 0)]) ⟨rfl, rfl, rfl, rfl, rfl, rfl, trivial⟩ ?_
  refine hl_lp_run2 (P := fun (c0 : Int32) (c1 : Int32) => hl_R X (D + 2) y115 6 [(0, .ref 64), (1, .int v1), (2, .int v2), (3, .int v3), (4, .int c0), (5, .int c1)] [] σ (some (.int r)) σ) (fun x : Int32 => hl_R X (D + 2) y115 88 [(4, .int x)] [] σ (some (.int r)) σ) (fun c0 c1 o ho h1 h2 => p_M_farFrom_L6 D v1 v2 v3 σ (c0, c1) ho h1 (fun a0 e => h2 a0 e)) hl_big 0 0 x2 hx2 ?_
  refine hl_iload d115_88 rfl ?_
  have h := Option.some.inj h
  subst h
  exact hl_iret d115_90 rfl
def f_M_isSung (v1 : Int32) (σ : hl_M) : Option (Int32) :=
  if hl_b ((20 + (2 * v1)) + 1) 40 then
  if hl_b (20 + (2 * v1)) 40 then
  (f_M_farFrom (σ.1 80 ((20 + (2 * v1)) + 1).toNatClampNeg) (σ.1 80 (20 + (2 * v1)).toNatClampNeg) 0 σ).bind fun x1 =>
  if x1 = 0 then
  some 1 else
  some 0 else none else none
set_option maxRecDepth 20000 in
theorem p_M_isSung {X : hl_X} (D : Nat) (v1 : Int32) (σ : hl_M) {r : Int32} (h : f_M_isSung v1 σ = some r) : hl_R X (D + 3) y114 0 [(0, .ref 64), (1, .int v1)] [] σ (some (.int r)) σ := by
  unfold f_M_isSung at h
  refine hl_aload_n (i := 0) d114_0 rfl rfl (by decide) ?_
  refine hl_aload_n (i := 0) d114_1 rfl rfl (by decide) ?_
  refine hl_gr d114_2 gM_62_64 ?_
  refine hl_bipush d114_5 kb20 ?_
  refine hl_iconst d114_7 ki2 ?_
  refine hl_iload_n (i := 1) d114_8 rfl rfl ?_
  refine hl_imul d114_9 ?_
  refine hl_iadd d114_10 ?_
  refine hl_iconst d114_11 ki1 ?_
  refine hl_iadd d114_12 ?_
  obtain ⟨hb, h⟩ := hl_gd h
  refine hl_iald d114_13 sh80 (hl_b_in hb) ?_
  refine hl_aload_n (i := 0) d114_14 rfl rfl (by decide) ?_
  refine hl_gr d114_15 gM_62_64 ?_
  refine hl_bipush d114_18 kb20 ?_
  refine hl_iconst d114_20 ki2 ?_
  refine hl_iload_n (i := 1) d114_21 rfl rfl ?_
  refine hl_imul d114_22 ?_
  refine hl_iadd d114_23 ?_
  obtain ⟨hb, h⟩ := hl_gd h
  refine hl_iald d114_24 sh80 (hl_b_in hb) ?_
  refine hl_iconst d114_25 ki0 ?_
  obtain ⟨x1, hx1, h⟩ := hl_bind h
  refine hl_cVi (D := (D + 2)) (z := y115) (n := 3) (av := [.int (σ.1 80 ((20 + (2 * v1)) + 1).toNatClampNeg), .int (σ.1 80 (20 + (2 * v1)).toNatClampNeg), .int 0]) (st := []) d114_26 mlM_364 rfl (Nat.le_of_ble_eq_true rfl) (Nat.le_of_ble_eq_true rfl) rc64 ((p_M_farFrom D (σ.1 80 ((20 + (2 * v1)) + 1).toNatClampNeg) (σ.1 80 (20 + (2 * v1)).toNatClampNeg) 0 σ hx1).dle (by omega)) ?_
  refine hl_if_ne (tg := 36) d114_29 rfl (fun hc => ?_) (fun hc => ?_)
  · have h := hl_neg hc h
    refine hl_iconst d114_36 ki0 ?_
    have h := Option.some.inj h
    subst h
    exact hl_zret d114_37 rfl (by decide)
  · have h := hl_pos hc h
    refine hl_iconst d114_32 ki1 ?_
    refine hl_goto (tg := 37) d114_33 rfl ?_
    have h := Option.some.inj h
    subst h
    exact hl_zret d114_37 rfl (by decide)
def f_M_sungMany_L4 (σ : hl_M) (s : Int32 × Int32) : Option ((Int32 × Int32) ⊕ (Int32)) :=
  (f_M_hymnMany σ).bind fun x1 =>
  if x1 ≤ s.2 then
  some (.inr s.1) else
  (f_M_isSung s.2 σ).bind fun x2 =>
  if x2 = 0 then
  some (.inl ((s.1, s.2 + 1))) else
  some (.inl ((s.1 + 1, s.2 + 1)))
def f_M_sungMany (σ : hl_M) : Option (Int32) :=
  (hl_lp (f_M_sungMany_L4 σ) hl_big ((0, 0))).bind fun x3 =>
  some x3
set_option maxRecDepth 20000 in
theorem p_M_sungMany_L4 {X : hl_X} (D : Nat) (σ : hl_M) (s : Int32 × Int32) {o : (Int32 × Int32) ⊕ (Int32)} {v : Option Value} (h : f_M_sungMany_L4 σ s = some o) (k1 : ∀ (c0 : Int32) (c1 : Int32), o = .inl ((c0, c1)) → hl_R X (D + 4) y113 4 [(0, .ref 64), (1, .int c0), (2, .int c1)] [] σ v σ) (k2 : ∀ (a0 : Int32), o = .inr a0 → hl_R X (D + 4) y113 29 [(1, .int a0)] [] σ v σ) : hl_R X (D + 4) y113 4 [(0, .ref 64), (1, .int s.1), (2, .int s.2)] [] σ v σ := by
  unfold f_M_sungMany_L4 at h
  refine hl_iload_n (i := 2) d113_4 rfl rfl ?_
  refine hl_aload_n (i := 0) d113_5 rfl rfl (by decide) ?_
  obtain ⟨x1, hx1, h⟩ := hl_bind h
  refine hl_cVi (D := (D + 3)) (z := y112) (n := 0) (av := []) (st := [.int s.2]) d113_6 mlM_374 rfl (Nat.le_of_ble_eq_true rfl) (Nat.le_of_ble_eq_true rfl) rc64 ((p_M_hymnMany D σ hx1).dle (by omega)) ?_
  refine hl_icmp_ge (tg := 29) d113_9 rfl (fun hc => ?_) (fun hc => ?_)
  · have h := hl_pos hc h
    have h := Option.some.inj h
    subst h
    exact hl_loc (k2 s.1 rfl) ⟨rfl, trivial⟩
  · have h := hl_neg hc h
    refine hl_aload_n (i := 0) d113_12 rfl rfl (by decide) ?_
    refine hl_iload_n (i := 2) d113_13 rfl rfl ?_
    obtain ⟨x2, hx2, h⟩ := hl_bind h
    refine hl_cVi (D := (D + 3)) (z := y114) (n := 1) (av := [.int s.2]) (st := []) d113_14 mlM_377 rfl (Nat.le_of_ble_eq_true rfl) (Nat.le_of_ble_eq_true rfl) rc64 ((p_M_isSung D s.2 σ hx2).dle (by omega)) ?_
    refine hl_if_eq (tg := 23) d113_17 rfl (fun hc => ?_) (fun hc => ?_)
    · have h := hl_pos hc h
      refine hl_iinc (ls2 := [(2, .int (s.2 + 1)), (0, .ref 64), (1, .int s.1)]) d113_23 rfl kx1 (by decide) rfl ?_
      refine hl_goto (tg := 4) d113_26 rfl ?_
      have h := Option.some.inj h
      subst h
      exact hl_loc (k1 s.1 (s.2 + 1) rfl) ⟨rfl, rfl, rfl, trivial⟩
    · have h := hl_neg hc h
      refine hl_iinc (ls2 := [(1, .int (s.1 + 1)), (0, .ref 64), (2, .int s.2)]) d113_20 rfl kx1 (by decide) rfl ?_
      refine hl_iinc (ls2 := [(2, .int (s.2 + 1)), (1, .int (s.1 + 1)), (0, .ref 64)]) d113_23 rfl kx1 (by decide) rfl ?_
      refine hl_goto (tg := 4) d113_26 rfl ?_
      have h := Option.some.inj h
      subst h
      exact hl_loc (k1 (s.1 + 1) (s.2 + 1) rfl) ⟨rfl, rfl, rfl, trivial⟩
set_option maxRecDepth 20000 in
theorem p_M_sungMany {X : hl_X} (D : Nat) (σ : hl_M) {r : Int32} (h : f_M_sungMany σ = some r) : hl_R X (D + 4) y113 0 [(0, .ref 64)] [] σ (some (.int r)) σ := by
  unfold f_M_sungMany at h
  refine hl_iconst d113_0 ki0 ?_
  refine hl_istore_n (i := 1) (ls2 := [(1, .int 0), (0, .ref 64)]) d113_1 rfl (by decide) rfl ?_
  refine hl_iconst d113_2 ki0 ?_
  refine hl_istore_n (i := 2) (ls2 := [(2, .int 0), (1, .int 0), (0, .ref 64)]) d113_3 rfl (by decide) rfl ?_
  obtain ⟨x3, hx3, h⟩ := hl_bind h
  refine hl_R.loc (ls' := [(0, .ref 64), (1, .int 0), (2, .int 0)]) ⟨rfl, rfl, rfl, trivial⟩ ?_
  refine hl_lp_run2 (P := fun (c0 : Int32) (c1 : Int32) => hl_R X (D + 4) y113 4 [(0, .ref 64), (1, .int c0), (2, .int c1)] [] σ (some (.int r)) σ) (fun x : Int32 => hl_R X (D + 4) y113 29 [(1, .int x)] [] σ (some (.int r)) σ) (fun c0 c1 o ho h1 h2 => p_M_sungMany_L4 D σ (c0, c1) ho h1 (fun a0 e => h2 a0 e)) hl_big 0 0 x3 hx3 ?_
  refine hl_iload_n (i := 1) d113_29 rfl rfl ?_
  have h := Option.some.inj h
  subst h
  exact hl_iret d113_30 rfl
def f_M_ground (v1 : Int32) (σ : hl_M) : Option (Int32) :=
  if v1 = 0 then
  some (σ.1 64 30) else
  if v1 = 1 then
  some (σ.1 64 31) else
  if v1 = 2 then
  (f_M_wallMany σ).bind fun x1 =>
  some x1 else
  if v1 = 3 then
  (f_M_personMany σ).bind fun x2 =>
  some x2 else
  if v1 = 4 then
  (f_M_lampMany σ).bind fun x3 =>
  some x3 else
  if v1 = 5 then
  (f_M_wordMany σ).bind fun x4 =>
  some x4 else
  if v1 = 6 then
  (f_M_hymnMany σ).bind fun x5 =>
  some x5 else
  if v1 = 7 then
  (f_M_sungMany σ).bind fun x6 =>
  some x6 else
  if v1 = 8 then
  some (σ.1 64 50) else
  some ((-1))
set_option maxRecDepth 20000 in
theorem p_M_ground {X : hl_X} (D : Nat) (v1 : Int32) (σ : hl_M) {r : Int32} (h : f_M_ground v1 σ = some r) : hl_R X (D + 5) y107 0 [(0, .ref 64), (1, .int v1)] [] σ (some (.int r)) σ := by
  unfold f_M_ground at h
  refine hl_iload_n (i := 1) d107_0 rfl rfl ?_
  by_cases hc1_0 : v1 = 0
  · have h := hl_pos hc1_0 h
    refine hl_tabIn (off := 51) (tg := 52) d107_1 (by rw [hc1_0]; decide) (by rw [hc1_0]; decide) (by rw [hc1_0]; rfl) rfl ?_
    refine hl_aload_n (i := 0) d107_52 rfl rfl (by decide) ?_
    refine hl_gi d107_53 gM_307_64 ?_
    have h := Option.some.inj h
    subst h
    exact hl_iret d107_56 rfl
  have h := hl_neg hc1_0 h
  by_cases hc1_1 : v1 = 1
  · have h := hl_pos hc1_1 h
    refine hl_tabIn (off := 56) (tg := 57) d107_1 (by rw [hc1_1]; decide) (by rw [hc1_1]; decide) (by rw [hc1_1]; rfl) rfl ?_
    refine hl_aload_n (i := 0) d107_57 rfl rfl (by decide) ?_
    refine hl_gi d107_58 gM_310_64 ?_
    have h := Option.some.inj h
    subst h
    exact hl_iret d107_61 rfl
  have h := hl_neg hc1_1 h
  by_cases hc1_2 : v1 = 2
  · have h := hl_pos hc1_2 h
    refine hl_tabIn (off := 61) (tg := 62) d107_1 (by rw [hc1_2]; decide) (by rw [hc1_2]; decide) (by rw [hc1_2]; rfl) rfl ?_
    refine hl_aload_n (i := 0) d107_62 rfl rfl (by decide) ?_
    obtain ⟨x1, hx1, h⟩ := hl_bind h
    refine hl_cVi (D := (D + 4)) (z := y108) (n := 0) (av := []) (st := []) d107_63 mlM_380 rfl (Nat.le_of_ble_eq_true rfl) (Nat.le_of_ble_eq_true rfl) rc64 ((p_M_wallMany D σ hx1).dle (by omega)) ?_
    have h := Option.some.inj h
    subst h
    exact hl_iret d107_66 rfl
  have h := hl_neg hc1_2 h
  by_cases hc1_3 : v1 = 3
  · have h := hl_pos hc1_3 h
    refine hl_tabIn (off := 66) (tg := 67) d107_1 (by rw [hc1_3]; decide) (by rw [hc1_3]; decide) (by rw [hc1_3]; rfl) rfl ?_
    refine hl_aload_n (i := 0) d107_67 rfl rfl (by decide) ?_
    obtain ⟨x2, hx2, h⟩ := hl_bind h
    refine hl_cVi (D := (D + 4)) (z := y93) (n := 0) (av := []) (st := []) d107_68 mlM_335 rfl (Nat.le_of_ble_eq_true rfl) (Nat.le_of_ble_eq_true rfl) rc64 ((p_M_personMany D σ hx2).dle (by omega)) ?_
    have h := Option.some.inj h
    subst h
    exact hl_iret d107_71 rfl
  have h := hl_neg hc1_3 h
  by_cases hc1_4 : v1 = 4
  · have h := hl_pos hc1_4 h
    refine hl_tabIn (off := 71) (tg := 72) d107_1 (by rw [hc1_4]; decide) (by rw [hc1_4]; decide) (by rw [hc1_4]; rfl) rfl ?_
    refine hl_aload_n (i := 0) d107_72 rfl rfl (by decide) ?_
    obtain ⟨x3, hx3, h⟩ := hl_bind h
    refine hl_cVi (D := (D + 4)) (z := y109) (n := 0) (av := []) (st := []) d107_73 mlM_383 rfl (Nat.le_of_ble_eq_true rfl) (Nat.le_of_ble_eq_true rfl) rc64 ((p_M_lampMany D σ hx3).dle (by omega)) ?_
    have h := Option.some.inj h
    subst h
    exact hl_iret d107_76 rfl
  have h := hl_neg hc1_4 h
  by_cases hc1_5 : v1 = 5
  · have h := hl_pos hc1_5 h
    refine hl_tabIn (off := 76) (tg := 77) d107_1 (by rw [hc1_5]; decide) (by rw [hc1_5]; decide) (by rw [hc1_5]; rfl) rfl ?_
    refine hl_aload_n (i := 0) d107_77 rfl rfl (by decide) ?_
    obtain ⟨x4, hx4, h⟩ := hl_bind h
    refine hl_cVi (D := (D + 4)) (z := y111) (n := 0) (av := []) (st := []) d107_78 mlM_338 rfl (Nat.le_of_ble_eq_true rfl) (Nat.le_of_ble_eq_true rfl) rc64 ((p_M_wordMany D σ hx4).dle (by omega)) ?_
    have h := Option.some.inj h
    subst h
    exact hl_iret d107_81 rfl
  have h := hl_neg hc1_5 h
  by_cases hc1_6 : v1 = 6
  · have h := hl_pos hc1_6 h
    refine hl_tabIn (off := 81) (tg := 82) d107_1 (by rw [hc1_6]; decide) (by rw [hc1_6]; decide) (by rw [hc1_6]; rfl) rfl ?_
    refine hl_aload_n (i := 0) d107_82 rfl rfl (by decide) ?_
    obtain ⟨x5, hx5, h⟩ := hl_bind h
    refine hl_cVi (D := (D + 4)) (z := y112) (n := 0) (av := []) (st := []) d107_83 mlM_374 rfl (Nat.le_of_ble_eq_true rfl) (Nat.le_of_ble_eq_true rfl) rc64 ((p_M_hymnMany D σ hx5).dle (by omega)) ?_
    have h := Option.some.inj h
    subst h
    exact hl_iret d107_86 rfl
  have h := hl_neg hc1_6 h
  by_cases hc1_7 : v1 = 7
  · have h := hl_pos hc1_7 h
    refine hl_tabIn (off := 86) (tg := 87) d107_1 (by rw [hc1_7]; decide) (by rw [hc1_7]; decide) (by rw [hc1_7]; rfl) rfl ?_
    refine hl_aload_n (i := 0) d107_87 rfl rfl (by decide) ?_
    obtain ⟨x6, hx6, h⟩ := hl_bind h
    refine hl_cVi (D := (D + 4)) (z := y113) (n := 0) (av := []) (st := []) d107_88 mlM_386 rfl (Nat.le_of_ble_eq_true rfl) (Nat.le_of_ble_eq_true rfl) rc64 ((p_M_sungMany D σ hx6).dle (by omega)) ?_
    have h := Option.some.inj h
    subst h
    exact hl_iret d107_91 rfl
  have h := hl_neg hc1_7 h
  by_cases hc1_8 : v1 = 8
  · have h := hl_pos hc1_8 h
    refine hl_tabIn (off := 91) (tg := 92) d107_1 (by rw [hc1_8]; decide) (by rw [hc1_8]; decide) (by rw [hc1_8]; rfl) rfl ?_
    refine hl_aload_n (i := 0) d107_92 rfl rfl (by decide) ?_
    refine hl_gi d107_93 gM_313_64 ?_
    have h := Option.some.inj h
    subst h
    exact hl_iret d107_96 rfl
  have h := hl_neg hc1_8 h
  refine hl_tabD (tg := 97) d107_1 (fun k g1 g2 e => by
        rcases (by omega : k = 0 ∨ k = 1 ∨ k = 2 ∨ k = 3 ∨ k = 4 ∨ k = 5 ∨ k = 6 ∨ k = 7 ∨ k = 8) with rfl | rfl | rfl | rfl | rfl | rfl | rfl | rfl | rfl
        · exact hc1_0 (Int32.toInt_inj.mp (e.trans (by decide)))
        · exact hc1_1 (Int32.toInt_inj.mp (e.trans (by decide)))
        · exact hc1_2 (Int32.toInt_inj.mp (e.trans (by decide)))
        · exact hc1_3 (Int32.toInt_inj.mp (e.trans (by decide)))
        · exact hc1_4 (Int32.toInt_inj.mp (e.trans (by decide)))
        · exact hc1_5 (Int32.toInt_inj.mp (e.trans (by decide)))
        · exact hc1_6 (Int32.toInt_inj.mp (e.trans (by decide)))
        · exact hc1_7 (Int32.toInt_inj.mp (e.trans (by decide)))
        · exact hc1_8 (Int32.toInt_inj.mp (e.trans (by decide)))
      ) rfl ?_
  refine hl_iconst d107_97 kim1 ?_
  have h := Option.some.inj h
  subst h
  exact hl_iret d107_98 rfl
def f_X_letterIn (v0 : Int32) (v1 : Int32) : Int32 :=
  (v0 >>> ((5 * v1) &&& 31)) &&& 31
set_option maxRecDepth 20000 in
theorem p_X_letterIn {X : hl_X} (D : Nat) (v0 : Int32) (v1 : Int32) (σ : hl_M) {r : Int32} (h : f_X_letterIn v0 v1 = r) : hl_R X D y119 0 [(0, .int v0), (1, .int v1)] [] σ (some (.int r)) σ := by
  unfold f_X_letterIn at h
  refine hl_iload_n (i := 0) d119_0 rfl rfl ?_
  refine hl_iconst d119_1 ki5 ?_
  refine hl_iload_n (i := 1) d119_2 rfl rfl ?_
  refine hl_imul d119_3 ?_
  refine hl_ishr d119_4 ?_
  refine hl_bipush d119_5 kb31 ?_
  refine hl_iand d119_7 ?_
  subst h
  exact hl_iret d119_8 rfl
def f_X_letter_j43 (v1 : Int32) (v2 : Int32) (v3 : Int32) (σ : hl_M) : Option (Int32) :=
  if v1 = 1 then
  if (f_X_within v2 (σ.1 4 8)) = 0 then
  some ((-1)) else
  if hl_b v2 8 then
  some (f_X_letterIn (σ.1 9 v2.toNatClampNeg) v3) else none else
  some ((-1))
def f_X_letter (v1 : Int32) (v2 : Int32) (v3 : Int32) (σ : hl_M) : Option (Int32) :=
  if (f_X_within v3 6) = 0 then
  some ((-1)) else
  if v1 = 0 then
  if (f_X_within v2 (σ.1 4 3)) = 0 then
  f_X_letter_j43 v1 v2 v3 σ else
  if hl_b v2 10 then
  some (f_X_letterIn (σ.1 5 v2.toNatClampNeg) v3) else none else
  f_X_letter_j43 v1 v2 v3 σ
set_option maxRecDepth 20000 in
theorem p_X_letter_j43 {X : hl_X} (D : Nat) (v1 : Int32) (v2 : Int32) (v3 : Int32) (σ : hl_M) {r : Int32} (h : f_X_letter_j43 v1 v2 v3 σ = some r) : hl_R X (D + 1) y118 43 [(0, .ref 0), (1, .int v1), (2, .int v2), (3, .int v3)] [] σ (some (.int r)) σ := by
  unfold f_X_letter_j43 at h
  refine hl_iload_n (i := 1) d118_43 rfl rfl ?_
  refine hl_iconst d118_44 ki1 ?_
  refine hl_icmp_ne (tg := 76) d118_45 rfl (fun hc => ?_) (fun hc => ?_)
  · have h := hl_neg hc h
    refine hl_iconst d118_76 kim1 ?_
    have h := Option.some.inj h
    subst h
    exact hl_iret d118_77 rfl
  · have h := hl_pos hc h
    refine hl_iload_n (i := 2) d118_48 rfl rfl ?_
    refine hl_aload_n (i := 0) d118_49 rfl rfl (by decide) ?_
    refine hl_gr d118_50 gX_28_0 ?_
    refine hl_gi d118_53 gX_145_4 ?_
    refine hl_cSi (D := D) (z := y2) (n := 2) (av := [.int v2, .int (σ.1 4 8)]) (st := []) d118_56 mlX_154 rfl (Nat.le_of_ble_eq_true rfl) (Nat.le_of_ble_eq_true rfl) ((p_X_within D v2 (σ.1 4 8) σ rfl).dle (by omega)) ?_
    refine hl_if_eq (tg := 76) d118_59 rfl (fun hc => ?_) (fun hc => ?_)
    · have h := hl_pos hc h
      refine hl_iconst d118_76 kim1 ?_
      have h := Option.some.inj h
      subst h
      exact hl_iret d118_77 rfl
    · have h := hl_neg hc h
      refine hl_aload_n (i := 0) d118_62 rfl rfl (by decide) ?_
      refine hl_gr d118_63 gX_28_0 ?_
      refine hl_gr d118_66 gX_166_4 ?_
      refine hl_iload_n (i := 2) d118_69 rfl rfl ?_
      obtain ⟨hb, h⟩ := hl_gd h
      refine hl_iald d118_70 sh9 (hl_b_in hb) ?_
      refine hl_iload_n (i := 3) d118_71 rfl rfl ?_
      refine hl_cSi (D := D) (z := y119) (n := 2) (av := [.int (σ.1 9 v2.toNatClampNeg), .int v3]) (st := []) d118_72 mlX_162 rfl (Nat.le_of_ble_eq_true rfl) (Nat.le_of_ble_eq_true rfl) ((p_X_letterIn D (σ.1 9 v2.toNatClampNeg) v3 σ rfl).dle (by omega)) ?_
      have h := Option.some.inj h
      subst h
      exact hl_iret d118_75 rfl
set_option maxRecDepth 20000 in
theorem p_X_letter {X : hl_X} (D : Nat) (v1 : Int32) (v2 : Int32) (v3 : Int32) (σ : hl_M) {r : Int32} (h : f_X_letter v1 v2 v3 σ = some r) : hl_R X (D + 1) y118 0 [(0, .ref 0), (1, .int v1), (2, .int v2), (3, .int v3)] [] σ (some (.int r)) σ := by
  unfold f_X_letter at h
  refine hl_iload_n (i := 3) d118_0 rfl rfl ?_
  refine hl_bipush d118_1 kb6 ?_
  refine hl_cSi (D := D) (z := y2) (n := 2) (av := [.int v3, .int 6]) (st := []) d118_3 mlX_154 rfl (Nat.le_of_ble_eq_true rfl) (Nat.le_of_ble_eq_true rfl) ((p_X_within D v3 6 σ rfl).dle (by omega)) ?_
  refine hl_if_ne (tg := 11) d118_6 rfl (fun hc => ?_) (fun hc => ?_)
  · have h := hl_neg hc h
    refine hl_iload_n (i := 1) d118_11 rfl rfl ?_
    refine hl_if_ne (tg := 43) d118_12 rfl (fun hc => ?_) (fun hc => ?_)
    · have h := hl_neg hc h
      exact hl_loc (p_X_letter_j43 D v1 v2 v3 σ h) ⟨rfl, rfl, rfl, rfl, trivial⟩
    · have h := hl_pos hc h
      refine hl_iload_n (i := 2) d118_15 rfl rfl ?_
      refine hl_aload_n (i := 0) d118_16 rfl rfl (by decide) ?_
      refine hl_gr d118_17 gX_28_0 ?_
      refine hl_gi d118_20 gX_139_4 ?_
      refine hl_cSi (D := D) (z := y2) (n := 2) (av := [.int v2, .int (σ.1 4 3)]) (st := []) d118_23 mlX_154 rfl (Nat.le_of_ble_eq_true rfl) (Nat.le_of_ble_eq_true rfl) ((p_X_within D v2 (σ.1 4 3) σ rfl).dle (by omega)) ?_
      refine hl_if_eq (tg := 43) d118_26 rfl (fun hc => ?_) (fun hc => ?_)
      · have h := hl_pos hc h
        exact hl_loc (p_X_letter_j43 D v1 v2 v3 σ h) ⟨rfl, rfl, rfl, rfl, trivial⟩
      · have h := hl_neg hc h
        refine hl_aload_n (i := 0) d118_29 rfl rfl (by decide) ?_
        refine hl_gr d118_30 gX_28_0 ?_
        refine hl_gr d118_33 gX_158_4 ?_
        refine hl_iload_n (i := 2) d118_36 rfl rfl ?_
        obtain ⟨hb, h⟩ := hl_gd h
        refine hl_iald d118_37 sh5 (hl_b_in hb) ?_
        refine hl_iload_n (i := 3) d118_38 rfl rfl ?_
        refine hl_cSi (D := D) (z := y119) (n := 2) (av := [.int (σ.1 5 v2.toNatClampNeg), .int v3]) (st := []) d118_39 mlX_162 rfl (Nat.le_of_ble_eq_true rfl) (Nat.le_of_ble_eq_true rfl) ((p_X_letterIn D (σ.1 5 v2.toNatClampNeg) v3 σ rfl).dle (by omega)) ?_
        have h := Option.some.inj h
        subst h
        exact hl_iret d118_42 rfl
  · have h := hl_pos hc h
    refine hl_iconst d118_9 kim1 ?_
    have h := Option.some.inj h
    subst h
    exact hl_iret d118_10 rfl
def f_M_letter_L67 (v3 : Int32) (v4 : Int64) (σ : hl_M) (s : Int32 × Int64) : Option ((Int32 × Int64) ⊕ (Int32)) :=
  if s.2 ≤ 0 then
  some (.inr s.1) else
  some (.inl ((s.1 + 1, s.2 / 27)))
def f_M_letter_L102 (v3 : Int32) (σ : hl_M) (s : Int64 × Int32) : Option ((Int64 × Int32) ⊕ (Int64)) :=
  if s.2 ≤ v3 then
  some (.inr s.1) else
  some (.inl ((s.1 / 27, s.2 + (-1))))
def f_M_letter (v1 : Int32) (v2 : Int32) (v3 : Int32) (σ : hl_M) : Option (Int32) :=
  if (f_M_isIn v1.toInt64 0 1) = 0 then
  some ((-1)) else
  if hl_b (3 + v1) 6 then
  if (f_M_isIn v2.toInt64 0 (((σ.1 75 (3 + v1).toNatClampNeg) - 1).toInt64)) = 0 then
  some ((-1)) else
  if (f_M_isIn v3.toInt64 0 5) = 0 then
  some ((-1)) else
  if hl_b ((20 + (10 * v1)) + v2) 40 then
  (hl_lp (f_M_letter_L67 v3 (σ.2 77 ((20 + (10 * v1)) + v2).toNatClampNeg) σ) hl_big ((0, σ.2 77 ((20 + (10 * v1)) + v2).toNatClampNeg))).bind fun x1 =>
  if v3 < x1 then
  (hl_lp (f_M_letter_L102 v3 σ) hl_big ((σ.2 77 ((20 + (10 * v1)) + v2).toNatClampNeg, x1 - 1))).bind fun x2 =>
  some ((x2 - x2 / 27 * 27).toInt32) else
  some 0 else none else none
set_option maxRecDepth 20000 in
theorem p_M_letter_L67 {X : hl_X} (D : Nat) (v3 : Int32) (v4 : Int64) (σ : hl_M) (s : Int32 × Int64) {o : (Int32 × Int64) ⊕ (Int32)} {v : Option Value} (h : f_M_letter_L67 v3 v4 σ s = some o) (k1 : ∀ (c0 : Int32) (c1 : Int64), o = .inl ((c0, c1)) → hl_R X (D + 1) y120 67 [(3, .int v3), (4, .long v4), (6, .int c0), (7, .long c1)] [] σ v σ) (k2 : ∀ (a0 : Int32), o = .inr a0 → hl_R X (D + 1) y120 88 [(3, .int v3), (4, .long v4), (6, .int a0)] [] σ v σ) : hl_R X (D + 1) y120 67 [(3, .int v3), (4, .long v4), (6, .int s.1), (7, .long s.2)] [] σ v σ := by
  unfold f_M_letter_L67 at h
  refine hl_lload d120_67 rfl ?_
  refine hl_lconst (x := 0) d120_69 (by decide) ?_
  refine hl_lc_le (tg := 88) d120_70 d120_71 rfl (fun hc => ?_) (fun hc => ?_)
  · have h := hl_pos hc h
    have h := Option.some.inj h
    subst h
    exact hl_loc (k2 s.1 rfl) ⟨rfl, rfl, rfl, trivial⟩
  · have h := hl_neg hc h
    refine hl_iinc (ls2 := [(6, .int (s.1 + 1)), (3, .int v3), (4, .long v4), (7, .long s.2)]) d120_74 rfl kx1 (by decide) rfl ?_
    refine hl_lload d120_77 rfl ?_
    refine hl_ldc2 d120_79 wlM_227 ?_
    refine hl_ldiv d120_82 (by decide) ?_
    refine hl_lstore (ls2 := [(7, .long (s.2 / 27)), (6, .int (s.1 + 1)), (3, .int v3), (4, .long v4)]) d120_83 (by decide) rfl ?_
    refine hl_goto (tg := 67) d120_85 rfl ?_
    have h := Option.some.inj h
    subst h
    exact hl_loc (k1 (s.1 + 1) (s.2 / 27) rfl) ⟨rfl, rfl, rfl, rfl, trivial⟩
set_option maxRecDepth 20000 in
theorem p_M_letter_L102 {X : hl_X} (D : Nat) (v3 : Int32) (σ : hl_M) (s : Int64 × Int32) {o : (Int64 × Int32) ⊕ (Int64)} {v : Option Value} (h : f_M_letter_L102 v3 σ s = some o) (k1 : ∀ (c0 : Int64) (c1 : Int32), o = .inl ((c0, c1)) → hl_R X (D + 1) y120 102 [(3, .int v3), (4, .long c0), (7, .int c1)] [] σ v σ) (k2 : ∀ (a0 : Int64), o = .inr a0 → hl_R X (D + 1) y120 122 [(4, .long a0)] [] σ v σ) : hl_R X (D + 1) y120 102 [(3, .int v3), (4, .long s.1), (7, .int s.2)] [] σ v σ := by
  unfold f_M_letter_L102 at h
  refine hl_iload d120_102 rfl ?_
  refine hl_iload_n (i := 3) d120_104 rfl rfl ?_
  refine hl_icmp_le (tg := 122) d120_105 rfl (fun hc => ?_) (fun hc => ?_)
  · have h := hl_pos hc h
    have h := Option.some.inj h
    subst h
    exact hl_loc (k2 s.1 rfl) ⟨rfl, trivial⟩
  · have h := hl_neg hc h
    refine hl_lload d120_108 rfl ?_
    refine hl_ldc2 d120_110 wlM_227 ?_
    refine hl_ldiv d120_113 (by decide) ?_
    refine hl_lstore (ls2 := [(4, .long (s.1 / 27)), (3, .int v3), (7, .int s.2)]) d120_114 (by decide) rfl ?_
    refine hl_iinc (ls2 := [(7, .int (s.2 + (-1))), (4, .long (s.1 / 27)), (3, .int v3)]) d120_116 rfl kxm1 (by decide) rfl ?_
    refine hl_goto (tg := 102) d120_119 rfl ?_
    have h := Option.some.inj h
    subst h
    exact hl_loc (k1 (s.1 / 27) (s.2 + (-1)) rfl) ⟨rfl, rfl, rfl, trivial⟩
set_option maxRecDepth 20000 in
theorem p_M_letter {X : hl_X} (D : Nat) (v1 : Int32) (v2 : Int32) (v3 : Int32) (σ : hl_M) {r : Int32} (h : f_M_letter v1 v2 v3 σ = some r) : hl_R X (D + 1) y120 0 [(0, .ref 64), (1, .int v1), (2, .int v2), (3, .int v3)] [] σ (some (.int r)) σ := by
  unfold f_M_letter at h
  refine hl_iload_n (i := 1) d120_0 rfl rfl ?_
  refine hl_i2l d120_1 ?_
  refine hl_lconst (x := 0) d120_2 (by decide) ?_
  refine hl_lconst (x := 1) d120_3 (by decide) ?_
  refine hl_cSi (D := D) (z := y70) (n := 3) (av := [.long v1.toInt64, .long 0, .long 1]) (st := []) d120_4 mlM_216 rfl (Nat.le_of_ble_eq_true rfl) (Nat.le_of_ble_eq_true rfl) ((p_M_isIn D v1.toInt64 0 1 σ rfl).dle (by omega)) ?_
  refine hl_if_eq (tg := 42) d120_7 rfl (fun hc => ?_) (fun hc => ?_)
  · have h := hl_pos hc h
    refine hl_iconst d120_42 kim1 ?_
    have h := Option.some.inj h
    subst h
    exact hl_iret d120_43 rfl
  · have h := hl_neg hc h
    refine hl_iload_n (i := 2) d120_10 rfl rfl ?_
    refine hl_i2l d120_11 ?_
    refine hl_lconst (x := 0) d120_12 (by decide) ?_
    refine hl_aload_n (i := 0) d120_13 rfl rfl (by decide) ?_
    refine hl_gr d120_14 gM_45_64 ?_
    refine hl_iconst d120_17 ki3 ?_
    refine hl_iload_n (i := 1) d120_18 rfl rfl ?_
    refine hl_iadd d120_19 ?_
    obtain ⟨hb, h⟩ := hl_gd h
    refine hl_iald d120_20 sh75 (hl_b_in hb) ?_
    refine hl_iconst d120_21 ki1 ?_
    refine hl_isub d120_22 ?_
    refine hl_i2l d120_23 ?_
    refine hl_cSi (D := D) (z := y70) (n := 3) (av := [.long v2.toInt64, .long 0, .long (((σ.1 75 (3 + v1).toNatClampNeg) - 1).toInt64)]) (st := []) d120_24 mlM_216 rfl (Nat.le_of_ble_eq_true rfl) (Nat.le_of_ble_eq_true rfl) ((p_M_isIn D v2.toInt64 0 (((σ.1 75 (3 + v1).toNatClampNeg) - 1).toInt64) σ rfl).dle (by omega)) ?_
    refine hl_if_eq (tg := 42) d120_27 rfl (fun hc => ?_) (fun hc => ?_)
    · have h := hl_pos hc h
      refine hl_iconst d120_42 kim1 ?_
      have h := Option.some.inj h
      subst h
      exact hl_iret d120_43 rfl
    · have h := hl_neg hc h
      refine hl_iload_n (i := 3) d120_30 rfl rfl ?_
      refine hl_i2l d120_31 ?_
      refine hl_lconst (x := 0) d120_32 (by decide) ?_
      refine hl_ldc2 d120_33 wlM_389 ?_
      refine hl_cSi (D := D) (z := y70) (n := 3) (av := [.long v3.toInt64, .long 0, .long 5]) (st := []) d120_36 mlM_216 rfl (Nat.le_of_ble_eq_true rfl) (Nat.le_of_ble_eq_true rfl) ((p_M_isIn D v3.toInt64 0 5 σ rfl).dle (by omega)) ?_
      refine hl_if_ne (tg := 44) d120_39 rfl (fun hc => ?_) (fun hc => ?_)
      · have h := hl_neg hc h
        refine hl_aload_n (i := 0) d120_44 rfl rfl (by decide) ?_
        refine hl_gr d120_45 gM_52_64 ?_
        refine hl_bipush d120_48 kb20 ?_
        refine hl_bipush d120_50 kb10 ?_
        refine hl_iload_n (i := 1) d120_52 rfl rfl ?_
        refine hl_imul d120_53 ?_
        refine hl_iadd d120_54 ?_
        refine hl_iload_n (i := 2) d120_55 rfl rfl ?_
        refine hl_iadd d120_56 ?_
        obtain ⟨hb, h⟩ := hl_gd h
        refine hl_lald d120_57 sh77 (hl_b_in hb) ?_
        refine hl_lstore (ls2 := [(4, .long (σ.2 77 ((20 + (10 * v1)) + v2).toNatClampNeg)), (0, .ref 64), (1, .int v1), (2, .int v2), (3, .int v3)]) d120_58 (by decide) rfl ?_
        refine hl_iconst d120_60 ki0 ?_
        refine hl_istore (ls2 := [(6, .int 0), (4, .long (σ.2 77 ((20 + (10 * v1)) + v2).toNatClampNeg)), (0, .ref 64), (1, .int v1), (2, .int v2), (3, .int v3)]) d120_61 (by decide) rfl ?_
        refine hl_lload d120_63 rfl ?_
        refine hl_lstore (ls2 := [(7, .long (σ.2 77 ((20 + (10 * v1)) + v2).toNatClampNeg)), (6, .int 0), (4, .long (σ.2 77 ((20 + (10 * v1)) + v2).toNatClampNeg)), (0, .ref 64), (1, .int v1), (2, .int v2), (3, .int v3)]) d120_65 (by decide) rfl ?_
        obtain ⟨x1, hx1, h⟩ := hl_bind h
        refine hl_R.loc (ls' := [(3, .int v3), (4, .long (σ.2 77 ((20 + (10 * v1)) + v2).toNatClampNeg)), (6, .int 0), (7, .long (σ.2 77 ((20 + (10 * v1)) + v2).toNatClampNeg))]) ⟨rfl, rfl, rfl, rfl, trivial⟩ ?_
        refine hl_lp_run2 (P := fun (c0 : Int32) (c1 : Int64) => hl_R X (D + 1) y120 67 [(3, .int v3), (4, .long (σ.2 77 ((20 + (10 * v1)) + v2).toNatClampNeg)), (6, .int c0), (7, .long c1)] [] σ (some (.int r)) σ) (fun x : Int32 => hl_R X (D + 1) y120 88 [(3, .int v3), (4, .long (σ.2 77 ((20 + (10 * v1)) + v2).toNatClampNeg)), (6, .int x)] [] σ (some (.int r)) σ) (fun c0 c1 o ho h1 h2 => p_M_letter_L67 D v3 (σ.2 77 ((20 + (10 * v1)) + v2).toNatClampNeg) σ (c0, c1) ho h1 (fun a0 e => h2 a0 e)) hl_big 0 (σ.2 77 ((20 + (10 * v1)) + v2).toNatClampNeg) x1 hx1 ?_
        refine hl_iload_n (i := 3) d120_88 rfl rfl ?_
        refine hl_iload d120_89 rfl ?_
        refine hl_icmp_lt (tg := 96) d120_91 rfl (fun hc => ?_) (fun hc => ?_)
        · have h := hl_pos hc h
          refine hl_iload d120_96 rfl ?_
          refine hl_iconst d120_98 ki1 ?_
          refine hl_isub d120_99 ?_
          refine hl_istore (ls2 := [(7, .int (x1 - 1)), (3, .int v3), (4, .long (σ.2 77 ((20 + (10 * v1)) + v2).toNatClampNeg)), (6, .int x1)]) d120_100 (by decide) rfl ?_
          obtain ⟨x2, hx2, h⟩ := hl_bind h
          refine hl_R.loc (ls' := [(3, .int v3), (4, .long (σ.2 77 ((20 + (10 * v1)) + v2).toNatClampNeg)), (7, .int (x1 - 1))]) ⟨rfl, rfl, rfl, trivial⟩ ?_
          refine hl_lp_run2 (P := fun (c0 : Int64) (c1 : Int32) => hl_R X (D + 1) y120 102 [(3, .int v3), (4, .long c0), (7, .int c1)] [] σ (some (.int r)) σ) (fun x : Int64 => hl_R X (D + 1) y120 122 [(4, .long x)] [] σ (some (.int r)) σ) (fun c0 c1 o ho h1 h2 => p_M_letter_L102 D v3 σ (c0, c1) ho h1 (fun a0 e => h2 a0 e)) hl_big (σ.2 77 ((20 + (10 * v1)) + v2).toNatClampNeg) (x1 - 1) x2 hx2 ?_
          refine hl_lload d120_122 rfl ?_
          refine hl_ldc2 d120_124 wlM_227 ?_
          refine hl_lrem d120_127 (by decide) ?_
          refine hl_l2i d120_128 ?_
          have h := Option.some.inj h
          subst h
          exact hl_iret d120_129 rfl
        · have h := hl_neg hc h
          refine hl_iconst d120_94 ki0 ?_
          have h := Option.some.inj h
          subst h
          exact hl_iret d120_95 rfl
      · have h := hl_pos hc h
        refine hl_iconst d120_42 kim1 ?_
        have h := Option.some.inj h
        subst h
        exact hl_iret d120_43 rfl
def f_X_repeats_L2 (v0 : Int64) (v2 : Int32) (s : Int32) : Option ((Int32) ⊕ ((Unit) ⊕ (Int32))) :=
  if (f_X_countOf v0) ≤ s then
  some (.inr (.inl (()))) else
  if (f_X_stepIn v0 s) = (f_X_stepIn v0 (s - v2)) then
  some (.inl (s + 1)) else
  some (.inr (.inr (0)))
def f_X_repeats (v0 : Int64) (v2 : Int32) : Option (Int32) :=
  (hl_lp (f_X_repeats_L2 v0 v2) hl_big v2).bind fun x1 =>
  Sum.elim (fun x2 =>
  some 1) (fun x3 =>
  some x3) x1
set_option maxRecDepth 20000 in
theorem p_X_repeats_L2 {X : hl_X} (D : Nat) (v0 : Int64) (v2 : Int32) (σ : hl_M) (s : Int32) {o : (Int32) ⊕ ((Unit) ⊕ (Int32))} {v : Option Value} (h : f_X_repeats_L2 v0 v2 s = some o) (k1 : ∀ (c0 : Int32), o = .inl c0 → hl_R X (D + 1) y123 2 [(0, .long v0), (2, .int v2), (3, .int c0)] [] σ v σ) (k2 : o = .inr (.inl ()) → hl_R X (D + 1) y123 33 [] [] σ v σ) (kr : ∀ (a : Int32), o = .inr (.inr (a)) → v = some (.int a)) : hl_R X (D + 1) y123 2 [(0, .long v0), (2, .int v2), (3, .int s)] [] σ v σ := by
  unfold f_X_repeats_L2 at h
  refine hl_iload_n (i := 3) d123_2 rfl rfl ?_
  refine hl_lload_n (i := 0) d123_3 rfl rfl ?_
  refine hl_cSi (D := D) (z := y58) (n := 1) (av := [.long v0]) (st := [.int s]) d123_4 mlX_179 rfl (Nat.le_of_ble_eq_true rfl) (Nat.le_of_ble_eq_true rfl) ((p_X_countOf D v0 σ rfl).dle (by omega)) ?_
  refine hl_icmp_ge (tg := 33) d123_7 rfl (fun hc => ?_) (fun hc => ?_)
  · have h := hl_pos hc h
    have h := Option.some.inj h
    subst h
    exact hl_loc (k2 rfl) trivial
  · have h := hl_neg hc h
    refine hl_lload_n (i := 0) d123_10 rfl rfl ?_
    refine hl_iload_n (i := 3) d123_11 rfl rfl ?_
    refine hl_cSi (D := D) (z := y59) (n := 2) (av := [.long v0, .int s]) (st := []) d123_12 mlX_190 rfl (Nat.le_of_ble_eq_true rfl) (Nat.le_of_ble_eq_true rfl) ((p_X_stepIn D v0 s σ rfl).dle (by omega)) ?_
    refine hl_lload_n (i := 0) d123_15 rfl rfl ?_
    refine hl_iload_n (i := 3) d123_16 rfl rfl ?_
    refine hl_iload_n (i := 2) d123_17 rfl rfl ?_
    refine hl_isub d123_18 ?_
    refine hl_cSi (D := D) (z := y59) (n := 2) (av := [.long v0, .int (s - v2)]) (st := [.int (f_X_stepIn v0 s)]) d123_19 mlX_190 rfl (Nat.le_of_ble_eq_true rfl) (Nat.le_of_ble_eq_true rfl) ((p_X_stepIn D v0 (s - v2) σ rfl).dle (by omega)) ?_
    refine hl_icmp_eq (tg := 27) d123_22 rfl (fun hc => ?_) (fun hc => ?_)
    · have h := hl_pos hc h
      refine hl_iinc (ls2 := [(3, .int (s + 1)), (0, .long v0), (2, .int v2)]) d123_27 rfl kx1 (by decide) rfl ?_
      refine hl_goto (tg := 2) d123_30 rfl ?_
      have h := Option.some.inj h
      subst h
      exact hl_loc (k1 (s + 1) rfl) ⟨rfl, rfl, rfl, trivial⟩
    · have h := hl_neg hc h
      refine hl_iconst d123_25 ki0 ?_
      have h := Option.some.inj h
      subst h
      have e1 := kr 0 rfl
      subst e1
      exact hl_zret d123_26 rfl (by decide)
set_option maxRecDepth 20000 in
theorem p_X_repeats {X : hl_X} (D : Nat) (v0 : Int64) (v2 : Int32) (σ : hl_M) {r : Int32} (h : f_X_repeats v0 v2 = some r) : hl_R X (D + 1) y123 0 [(0, .long v0), (2, .int v2)] [] σ (some (.int r)) σ := by
  unfold f_X_repeats at h
  refine hl_iload_n (i := 2) d123_0 rfl rfl ?_
  refine hl_istore_n (i := 3) (ls2 := [(3, .int v2), (0, .long v0), (2, .int v2)]) d123_1 rfl (by decide) rfl ?_
  obtain ⟨x1, hx1, h⟩ := hl_bind h
  refine hl_R.loc (ls' := [(0, .long v0), (2, .int v2), (3, .int v2)]) ⟨rfl, rfl, rfl, trivial⟩ ?_
  refine hl_lp_run1 (P := fun (c0 : Int32) => hl_R X (D + 1) y123 2 [(0, .long v0), (2, .int v2), (3, .int c0)] [] σ (some (.int r)) σ) (Sum.elim (fun x : Unit => hl_R X (D + 1) y123 33 [] [] σ (some (.int r)) σ) (fun a : Int32 => ((some (.int r)) : Option Value) = some (.int a))) (fun c0 o ho h1 h2 => p_X_repeats_L2 D v0 v2 σ c0 ho h1 (fun e => h2 (.inl ()) e) (fun a e => h2 (.inr (a)) e)) hl_big v2 x1 hx1 ?_
  rcases hl_sum h with ⟨x2, e_x2, h⟩ | ⟨x3, e_x3, h⟩
  · subst e_x2
    refine hl_iconst d123_33 ki1 ?_
    have h := Option.some.inj h
    subst h
    exact hl_zret d123_34 rfl (by decide)
  · subst e_x3
    cases h
    rfl
def f_X_rhymeOf_L7 (v0 : Int64) (v2 : Int32) (s : Int32) : Option ((Int32) ⊕ ((Int32) ⊕ (Int64))) :=
  if v2 ≤ s then
  some (.inr (.inr (v0))) else
  if s = 0 then none else
  if (v2 - v2 / s * s) = 0 then
  (f_X_repeats v0 s).bind fun x1 =>
  if x1 = 0 then
  some (.inl (s + 1)) else
  some (.inr (.inl s)) else
  some (.inl (s + 1))
def f_X_rhymeOf (v0 : Int64) : Option (Int64) :=
  (hl_lp (f_X_rhymeOf_L7 v0 (f_X_countOf v0)) hl_big 1).bind fun x2 =>
  Sum.elim (fun x3 =>
  some (((v0 &&& (((1 : Int64) <<< ((4 + (3 * x3)).toInt64 &&& 63)) - 1)) - ((f_X_countOf v0).toInt64)) + x3.toInt64)) (fun x4 =>
  some x4) x2
set_option maxRecDepth 20000 in
theorem p_X_rhymeOf_L7 {X : hl_X} (D : Nat) (v0 : Int64) (v2 : Int32) (σ : hl_M) (s : Int32) {o : (Int32) ⊕ ((Int32) ⊕ (Int64))} {v : Option Value} (h : f_X_rhymeOf_L7 v0 v2 s = some o) (k1 : ∀ (c0 : Int32), o = .inl c0 → hl_R X (D + 2) y122 7 [(0, .long v0), (2, .int v2), (3, .int c0)] [] σ v σ) (k2 : ∀ (a0 : Int32), o = .inr (.inl a0) → hl_R X (D + 2) y122 26 [(0, .long v0), (2, .int v2), (3, .int a0)] [] σ v σ) (kr : ∀ (a : Int64), o = .inr (.inr (a)) → v = some (.long a)) : hl_R X (D + 2) y122 7 [(0, .long v0), (2, .int v2), (3, .int s)] [] σ v σ := by
  unfold f_X_rhymeOf_L7 at h
  refine hl_iload_n (i := 3) d122_7 rfl rfl ?_
  refine hl_iload_n (i := 2) d122_8 rfl rfl ?_
  refine hl_icmp_ge (tg := 54) d122_9 rfl (fun hc => ?_) (fun hc => ?_)
  · have h := hl_pos hc h
    refine hl_lload_n (i := 0) d122_54 rfl rfl ?_
    have h := Option.some.inj h
    subst h
    have e1 := kr v0 rfl
    subst e1
    exact hl_lret d122_55 rfl
  · have h := hl_neg hc h
    refine hl_iload_n (i := 2) d122_12 rfl rfl ?_
    refine hl_iload_n (i := 3) d122_13 rfl rfl ?_
    obtain ⟨hb, h⟩ := hl_gn h
    refine hl_irem d122_14 hb ?_
    refine hl_if_ne (tg := 48) d122_15 rfl (fun hc => ?_) (fun hc => ?_)
    · have h := hl_neg hc h
      refine hl_iinc (ls2 := [(3, .int (s + 1)), (0, .long v0), (2, .int v2)]) d122_48 rfl kx1 (by decide) rfl ?_
      refine hl_goto (tg := 7) d122_51 rfl ?_
      have h := Option.some.inj h
      subst h
      exact hl_loc (k1 (s + 1) rfl) ⟨rfl, rfl, rfl, trivial⟩
    · have h := hl_pos hc h
      refine hl_lload_n (i := 0) d122_18 rfl rfl ?_
      refine hl_iload_n (i := 3) d122_19 rfl rfl ?_
      obtain ⟨x1, hx1, h⟩ := hl_bind h
      refine hl_cSi (D := (D + 1)) (z := y123) (n := 2) (av := [.long v0, .int s]) (st := []) d122_20 mlX_368 rfl (Nat.le_of_ble_eq_true rfl) (Nat.le_of_ble_eq_true rfl) ((p_X_repeats D v0 s σ hx1).dle (by omega)) ?_
      refine hl_if_eq (tg := 48) d122_23 rfl (fun hc => ?_) (fun hc => ?_)
      · have h := hl_pos hc h
        refine hl_iinc (ls2 := [(3, .int (s + 1)), (0, .long v0), (2, .int v2)]) d122_48 rfl kx1 (by decide) rfl ?_
        refine hl_goto (tg := 7) d122_51 rfl ?_
        have h := Option.some.inj h
        subst h
        exact hl_loc (k1 (s + 1) rfl) ⟨rfl, rfl, rfl, trivial⟩
      · have h := hl_neg hc h
        have h := Option.some.inj h
        subst h
        exact hl_loc (k2 s rfl) ⟨rfl, rfl, rfl, trivial⟩
set_option maxRecDepth 20000 in
theorem p_X_rhymeOf {X : hl_X} (D : Nat) (v0 : Int64) (σ : hl_M) {r : Int64} (h : f_X_rhymeOf v0 = some r) : hl_R X (D + 2) y122 0 [(0, .long v0)] [] σ (some (.long r)) σ := by
  unfold f_X_rhymeOf at h
  refine hl_lload_n (i := 0) d122_0 rfl rfl ?_
  refine hl_cSi (D := (D + 1)) (z := y58) (n := 1) (av := [.long v0]) (st := []) d122_1 mlX_179 rfl (Nat.le_of_ble_eq_true rfl) (Nat.le_of_ble_eq_true rfl) ((p_X_countOf D v0 σ rfl).dle (by omega)) ?_
  refine hl_istore_n (i := 2) (ls2 := [(2, .int (f_X_countOf v0)), (0, .long v0)]) d122_4 rfl (by decide) rfl ?_
  refine hl_iconst d122_5 ki1 ?_
  refine hl_istore_n (i := 3) (ls2 := [(3, .int 1), (2, .int (f_X_countOf v0)), (0, .long v0)]) d122_6 rfl (by decide) rfl ?_
  obtain ⟨x2, hx2, h⟩ := hl_bind h
  refine hl_R.loc (ls' := [(0, .long v0), (2, .int (f_X_countOf v0)), (3, .int 1)]) ⟨rfl, rfl, rfl, trivial⟩ ?_
  refine hl_lp_run1 (P := fun (c0 : Int32) => hl_R X (D + 2) y122 7 [(0, .long v0), (2, .int (f_X_countOf v0)), (3, .int c0)] [] σ (some (.long r)) σ) (Sum.elim (fun x : Int32 => hl_R X (D + 2) y122 26 [(0, .long v0), (2, .int (f_X_countOf v0)), (3, .int x)] [] σ (some (.long r)) σ) (fun a : Int64 => ((some (.long r)) : Option Value) = some (.long a))) (fun c0 o ho h1 h2 => p_X_rhymeOf_L7 D v0 (f_X_countOf v0) σ c0 ho h1 (fun a0 e => h2 (.inl a0) e) (fun a e => h2 (.inr (a)) e)) hl_big 1 x2 hx2 ?_
  rcases hl_sum h with ⟨x3, e_x3, h⟩ | ⟨x4, e_x4, h⟩
  · subst e_x3
    refine hl_lload_n (i := 0) d122_26 rfl rfl ?_
    refine hl_lconst (x := 1) d122_27 (by decide) ?_
    refine hl_iconst d122_28 ki4 ?_
    refine hl_iconst d122_29 ki3 ?_
    refine hl_iload_n (i := 3) d122_30 rfl rfl ?_
    refine hl_imul d122_31 ?_
    refine hl_iadd d122_32 ?_
    refine hl_lshl d122_33 ?_
    refine hl_lconst (x := 1) d122_34 (by decide) ?_
    refine hl_lsub d122_35 ?_
    refine hl_land d122_36 ?_
    refine hl_lstore (ls2 := [(4, .long (v0 &&& (((1 : Int64) <<< ((4 + (3 * x3)).toInt64 &&& 63)) - 1))), (0, .long v0), (2, .int (f_X_countOf v0)), (3, .int x3)]) d122_37 (by decide) rfl ?_
    refine hl_lload d122_39 rfl ?_
    refine hl_iload_n (i := 2) d122_41 rfl rfl ?_
    refine hl_i2l d122_42 ?_
    refine hl_lsub d122_43 ?_
    refine hl_iload_n (i := 3) d122_44 rfl rfl ?_
    refine hl_i2l d122_45 ?_
    refine hl_ladd d122_46 ?_
    have h := Option.some.inj h
    subst h
    exact hl_lret d122_47 rfl
  · subst e_x4
    cases h
    rfl
def f_X_lostBy_L4 (v1 : Int32) (s : Int32 × Int32 × hl_M) : Option ((Int32 × Int32 × hl_M) ⊕ (Int32 × hl_M)) :=
  if (s.2.2.1 4 12) ≤ s.2.1 then
  some (.inr (((s.1, s.2.2)))) else
  (f_X_missingOf s.2.1 ((-1)) s.2.2).bind fun x1 =>
  if x1.1 = 0 then
  (f_X_missingOf s.2.1 v1 x1.2).bind fun x2 =>
  if x2.1 = 0 then
  some (.inl ((s.1, s.2.1 + 1, x2.2))) else
  some (.inl ((s.1 + 1, s.2.1 + 1, x2.2))) else
  some (.inl ((s.1, s.2.1 + 1, x1.2)))
def f_X_lostBy (v1 : Int32) (σ : hl_M) : Option (Int32 × hl_M) :=
  (hl_lp (f_X_lostBy_L4 v1) hl_big ((0, 0, σ))).bind fun x3 =>
  some ((x3.1, x3.2))
set_option maxRecDepth 20000 in
theorem p_X_lostBy_L4 {X : hl_X} (D : Nat) (v1 : Int32) (s : Int32 × Int32 × hl_M) {o : (Int32 × Int32 × hl_M) ⊕ (Int32 × hl_M)} {v : Option Value} {τ : hl_M} (h : f_X_lostBy_L4 v1 s = some o) (k1 : ∀ (c0 : Int32) (c1 : Int32) (c2 : hl_M), o = .inl ((c0, c1, c2)) → hl_R X (D + 4) y124 4 [(0, .ref 0), (1, .int v1), (2, .int c0), (3, .int c1)] [] c2 v τ) (k2 : ∀ (a0 : Int32) (a1 : hl_M), o = .inr ((a0, a1)) → hl_R X (D + 4) y124 42 [(2, .int a0)] [] a1 v τ) : hl_R X (D + 4) y124 4 [(0, .ref 0), (1, .int v1), (2, .int s.1), (3, .int s.2.1)] [] s.2.2 v τ := by
  unfold f_X_lostBy_L4 at h
  refine hl_iload_n (i := 3) d124_4 rfl rfl ?_
  refine hl_aload_n (i := 0) d124_5 rfl rfl (by decide) ?_
  refine hl_gr d124_6 gX_28_0 ?_
  refine hl_gi d124_9 gX_148_4 ?_
  refine hl_icmp_ge (tg := 42) d124_12 rfl (fun hc => ?_) (fun hc => ?_)
  · have h := hl_pos hc h
    have h := Option.some.inj h
    subst h
    exact hl_loc (k2 s.1 s.2.2 rfl) ⟨rfl, trivial⟩
  · have h := hl_neg hc h
    refine hl_aload_n (i := 0) d124_15 rfl rfl (by decide) ?_
    refine hl_iload_n (i := 3) d124_16 rfl rfl ?_
    refine hl_iconst d124_17 kim1 ?_
    obtain ⟨x1, hx1, h⟩ := hl_bind h
    refine hl_cVi (D := (D + 3)) (z := y102) (n := 2) (av := [.int s.2.1, .int ((-1))]) (st := []) d124_18 mlX_213 rfl (Nat.le_of_ble_eq_true rfl) (Nat.le_of_ble_eq_true rfl) rc0 ((p_X_missingOf D s.2.1 ((-1)) s.2.2 hx1).dle (by omega)) ?_
    refine hl_if_ne (tg := 36) d124_21 rfl (fun hc => ?_) (fun hc => ?_)
    · have h := hl_neg hc h
      refine hl_iinc (ls2 := [(3, .int (s.2.1 + 1)), (0, .ref 0), (1, .int v1), (2, .int s.1)]) d124_36 rfl kx1 (by decide) rfl ?_
      refine hl_goto (tg := 4) d124_39 rfl ?_
      have h := Option.some.inj h
      subst h
      exact hl_loc (k1 s.1 (s.2.1 + 1) x1.2 rfl) ⟨rfl, rfl, rfl, rfl, trivial⟩
    · have h := hl_pos hc h
      refine hl_aload_n (i := 0) d124_24 rfl rfl (by decide) ?_
      refine hl_iload_n (i := 3) d124_25 rfl rfl ?_
      refine hl_iload_n (i := 1) d124_26 rfl rfl ?_
      obtain ⟨x2, hx2, h⟩ := hl_bind h
      refine hl_cVi (D := (D + 3)) (z := y102) (n := 2) (av := [.int s.2.1, .int v1]) (st := []) d124_27 mlX_213 rfl (Nat.le_of_ble_eq_true rfl) (Nat.le_of_ble_eq_true rfl) rc0 ((p_X_missingOf D s.2.1 v1 x1.2 hx2).dle (by omega)) ?_
      refine hl_if_eq (tg := 36) d124_30 rfl (fun hc => ?_) (fun hc => ?_)
      · have h := hl_pos hc h
        refine hl_iinc (ls2 := [(3, .int (s.2.1 + 1)), (0, .ref 0), (1, .int v1), (2, .int s.1)]) d124_36 rfl kx1 (by decide) rfl ?_
        refine hl_goto (tg := 4) d124_39 rfl ?_
        have h := Option.some.inj h
        subst h
        exact hl_loc (k1 s.1 (s.2.1 + 1) x2.2 rfl) ⟨rfl, rfl, rfl, rfl, trivial⟩
      · have h := hl_neg hc h
        refine hl_iinc (ls2 := [(2, .int (s.1 + 1)), (0, .ref 0), (1, .int v1), (3, .int s.2.1)]) d124_33 rfl kx1 (by decide) rfl ?_
        refine hl_iinc (ls2 := [(3, .int (s.2.1 + 1)), (2, .int (s.1 + 1)), (0, .ref 0), (1, .int v1)]) d124_36 rfl kx1 (by decide) rfl ?_
        refine hl_goto (tg := 4) d124_39 rfl ?_
        have h := Option.some.inj h
        subst h
        exact hl_loc (k1 (s.1 + 1) (s.2.1 + 1) x2.2 rfl) ⟨rfl, rfl, rfl, rfl, trivial⟩
set_option maxRecDepth 20000 in
theorem p_X_lostBy {X : hl_X} (D : Nat) (v1 : Int32) (σ : hl_M) {r : Int32} {τ : hl_M} (h : f_X_lostBy v1 σ = some (r, τ)) : hl_R X (D + 4) y124 0 [(0, .ref 0), (1, .int v1)] [] σ (some (.int r)) τ := by
  unfold f_X_lostBy at h
  refine hl_iconst d124_0 ki0 ?_
  refine hl_istore_n (i := 2) (ls2 := [(2, .int 0), (0, .ref 0), (1, .int v1)]) d124_1 rfl (by decide) rfl ?_
  refine hl_iconst d124_2 ki0 ?_
  refine hl_istore_n (i := 3) (ls2 := [(3, .int 0), (2, .int 0), (0, .ref 0), (1, .int v1)]) d124_3 rfl (by decide) rfl ?_
  obtain ⟨x3, hx3, h⟩ := hl_bind h
  refine hl_R.loc (ls' := [(0, .ref 0), (1, .int v1), (2, .int 0), (3, .int 0)]) ⟨rfl, rfl, rfl, rfl, trivial⟩ ?_
  refine hl_lp_run3 (P := fun (c0 : Int32) (c1 : Int32) (c2 : hl_M) => hl_R X (D + 4) y124 4 [(0, .ref 0), (1, .int v1), (2, .int c0), (3, .int c1)] [] c2 (some (.int r)) τ) (fun x : Int32 × hl_M => hl_R X (D + 4) y124 42 [(2, .int x.1)] [] x.2 (some (.int r)) τ) (fun c0 c1 c2 o ho h1 h2 => p_X_lostBy_L4 D v1 (c0, c1, c2) ho h1 (fun a0 a1 e => h2 ((a0, a1)) e)) hl_big 0 0 σ x3 hx3 ?_
  refine hl_iload_n (i := 2) d124_42 rfl rfl ?_
  obtain ⟨e1, e2⟩ := hl_some2 h
  subst e1; subst e2
  exact hl_iret d124_43 rfl
