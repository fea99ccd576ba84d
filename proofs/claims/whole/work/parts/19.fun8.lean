def f_X_learn (v1 : Int32) (v2 : Int32) (σ : hl_M) : Option (Int32 × hl_M) :=
  (f_Pt_plan 0 v2 σ).bind fun x1 =>
  if x1.1 = 0 then
  some (((-1), x1.2)) else
  (f_Pt_aim v1 x1.2).bind fun x2 =>
  if x2.1 = 0 then
  some (((-1), x2.2)) else
  (f_Wk_cellOf v1 0 x2.2).bind fun x3 =>
  (f_Pt_wayToLearn x3 x2.2).bind fun x4 =>
  if x4 = 0 then
  some (((-1), x2.2)) else
  if (f_X_within v1 (x2.2.1 4 3)) = 0 then
  some (((-1), x2.2)) else
  (f_X_changeSteps v1 x4 x2.2).bind fun x5 =>
  some ((f_X_countOf x4, x5))
set_option maxRecDepth 20000 in
theorem p_X_learn {X : hl_X} (D : Nat) (v1 : Int32) (v2 : Int32) (σ : hl_M) {r : Int32} {τ : hl_M} (h : f_X_learn v1 v2 σ = some (r, τ)) : hl_R X (D + 5) y223 0 [(0, .ref 0), (1, .int v1), (2, .int v2)] [] σ (some (.int r)) τ := by
  unfold f_X_learn at h
  refine hl_aload_n (i := 0) d223_0 rfl rfl (by decide) ?_
  refine hl_gr d223_1 gX_65_0 ?_
  refine hl_iconst d223_4 ki0 ?_
  refine hl_iload_n (i := 2) d223_5 rfl rfl ?_
  obtain ⟨x1, hx1, h⟩ := hl_bind h
  refine hl_cVi (D := (D + 4)) (z := y177) (n := 2) (av := [.int 0, .int v2]) (st := []) d223_6 mlX_250 rfl (Nat.le_of_ble_eq_true rfl) (Nat.le_of_ble_eq_true rfl) rc38 ((p_Pt_plan D 0 v2 σ hx1).dle (by omega)) ?_
  refine hl_if_eq (tg := 23) d223_9 rfl (fun hc => ?_) (fun hc => ?_)
  · have h := hl_pos hc h
    refine hl_iconst d223_23 kim1 ?_
    obtain ⟨e1, e2⟩ := hl_some2 h
    subst e1; subst e2
    exact hl_iret d223_24 rfl
  · have h := hl_neg hc h
    refine hl_aload_n (i := 0) d223_12 rfl rfl (by decide) ?_
    refine hl_gr d223_13 gX_65_0 ?_
    refine hl_iload_n (i := 1) d223_16 rfl rfl ?_
    obtain ⟨x2, hx2, h⟩ := hl_bind h
    refine hl_cVi (D := (D + 4)) (z := y194) (n := 1) (av := [.int v1]) (st := []) d223_17 mlX_263 rfl (Nat.le_of_ble_eq_true rfl) (Nat.le_of_ble_eq_true rfl) rc38 ((p_Pt_aim D v1 x1.2 hx2).dle (by omega)) ?_
    refine hl_if_ne (tg := 25) d223_20 rfl (fun hc => ?_) (fun hc => ?_)
    · have h := hl_neg hc h
      refine hl_aload_n (i := 0) d223_25 rfl rfl (by decide) ?_
      refine hl_gr d223_26 gX_65_0 ?_
      refine hl_aload_n (i := 0) d223_29 rfl rfl (by decide) ?_
      refine hl_gr d223_30 gX_49_0 ?_
      refine hl_iload_n (i := 1) d223_33 rfl rfl ?_
      refine hl_iconst d223_34 ki0 ?_
      obtain ⟨x3, hx3, h⟩ := hl_bind h
      refine hl_cVi (D := (D + 4)) (z := y104) (n := 2) (av := [.int v1, .int 0]) (st := [.ref 38]) d223_35 mlX_216 rfl (Nat.le_of_ble_eq_true rfl) (Nat.le_of_ble_eq_true rfl) rc25 ((p_Wk_cellOf D v1 0 x2.2 hx3).dle (by omega)) ?_
      obtain ⟨x4, hx4, h⟩ := hl_bind h
      refine hl_cVl (D := (D + 4)) (z := y224) (n := 1) (av := [.int x3]) (st := []) d223_38 mlX_304 rfl (Nat.le_of_ble_eq_true rfl) (Nat.le_of_ble_eq_true rfl) rc38 ((p_Pt_wayToLearn D x3 x2.2 hx4).dle (by omega)) ?_
      refine hl_lstore_n (i := 3) (ls2 := [(3, .long x4), (0, .ref 0), (1, .int v1), (2, .int v2)]) d223_41 rfl (by decide) rfl ?_
      refine hl_lload_n (i := 3) d223_42 rfl rfl ?_
      refine hl_lconst (x := 0) d223_43 (by decide) ?_
      refine hl_lc_eq (tg := 62) d223_44 d223_45 rfl (fun hc => ?_) (fun hc => ?_)
      · have h := hl_pos hc h
        refine hl_iconst d223_62 kim1 ?_
        obtain ⟨e1, e2⟩ := hl_some2 h
        subst e1; subst e2
        exact hl_iret d223_63 rfl
      · have h := hl_neg hc h
        refine hl_iload_n (i := 1) d223_48 rfl rfl ?_
        refine hl_aload_n (i := 0) d223_49 rfl rfl (by decide) ?_
        refine hl_gr d223_50 gX_28_0 ?_
        refine hl_gi d223_53 gX_139_4 ?_
        refine hl_cSi (D := (D + 4)) (z := y2) (n := 2) (av := [.int v1, .int (x2.2.1 4 3)]) (st := []) d223_56 mlX_154 rfl (Nat.le_of_ble_eq_true rfl) (Nat.le_of_ble_eq_true rfl) ((p_X_within D v1 (x2.2.1 4 3) x2.2 rfl).dle (by omega)) ?_
        refine hl_if_ne (tg := 64) d223_59 rfl (fun hc => ?_) (fun hc => ?_)
        · have h := hl_neg hc h
          refine hl_aload_n (i := 0) d223_64 rfl rfl (by decide) ?_
          refine hl_iload_n (i := 1) d223_65 rfl rfl ?_
          refine hl_lload_n (i := 3) d223_66 rfl rfl ?_
          obtain ⟨x5, hx5, h⟩ := hl_bind h
          refine hl_cVv (D := (D + 4)) (z := y216) (n := 2) (av := [.int v1, .long x4]) (st := []) d223_67 mlX_296 rfl (Nat.le_of_ble_eq_true rfl) (Nat.le_of_ble_eq_true rfl) rc0 ((p_X_changeSteps D v1 x4 x2.2 hx5).dle (by omega)) ?_
          refine hl_lload_n (i := 3) d223_70 rfl rfl ?_
          refine hl_cSi (D := (D + 4)) (z := y58) (n := 1) (av := [.long x4]) (st := []) d223_71 mlX_179 rfl (Nat.le_of_ble_eq_true rfl) (Nat.le_of_ble_eq_true rfl) ((p_X_countOf D x4 x5 rfl).dle (by omega)) ?_
          obtain ⟨e1, e2⟩ := hl_some2 h
          subst e1; subst e2
          exact hl_iret d223_74 rfl
        · have h := hl_pos hc h
          refine hl_iconst d223_62 kim1 ?_
          obtain ⟨e1, e2⟩ := hl_some2 h
          subst e1; subst e2
          exact hl_iret d223_63 rfl
    · have h := hl_pos hc h
      refine hl_iconst d223_23 kim1 ?_
      obtain ⟨e1, e2⟩ := hl_some2 h
      subst e1; subst e2
      exact hl_iret d223_24 rfl
def f_M_learn_j158 (v1 : Int32) (v3 : Int32) (v4 : Int32) (v5 : Int32) (v6 : Int32) (v7 : Int32) (s0 : Int32) (σ : hl_M) : Option ((Int32 × Int32 × hl_M) ⊕ (hl_M)) :=
  if hl_b ((153 + (15 * v1)) + v7) 300 then
  (f_M_stepped v4 s0 (hl_si σ 78 ((153 + (15 * v1)) + v7).toNatClampNeg s0)).bind fun x7 =>
  some (.inl ((x7, v7 + 1, hl_si σ 78 ((153 + (15 * v1)) + v7).toNatClampNeg s0))) else none
def f_M_learn_L128 (v1 : Int32) (v3 : Int32) (v5 : Int32) (v6 : Int32) (s : Int32 × Int32 × hl_M) : Option ((Int32 × Int32 × hl_M) ⊕ (hl_M)) :=
  if v6 ≤ s.2.1 then
  some (.inr s.2.2) else
  if v5 ≤ s.2.1 then
  f_M_learn_j158 v1 v3 s.1 v5 v6 s.2.1 4 s.2.2 else
  if hl_b v3 10 then
  (f_M_stepNearer s.1 (s.2.2.1 88 v3.toNatClampNeg) s.2.2).bind fun x8 =>
  f_M_learn_j158 v1 v3 s.1 v5 v6 s.2.1 x8 s.2.2 else none
def f_M_learn_j89 (v1 : Int32) (v3 : Int32) (v4 : Int32) (v5 : Int32) (s0 : Int32) (σ : hl_M) : Option (Int32 × hl_M) :=
  if (f_M_isIn s0.toInt64 1 12) = 0 then
  some (((-1), σ)) else
  (f_M_keeps σ).bind fun x6 =>
  if hl_b (152 + (15 * v1)) 300 then
  (hl_lp (f_M_learn_L128 v1 v3 v5 s0) hl_big ((v4, 0, hl_si x6 78 (152 + (15 * v1)).toNatClampNeg s0))).bind fun x9 =>
  (f_M_walks x9).bind fun x10 =>
  some ((s0, x10)) else none
def f_M_learn (v1 : Int32) (v2 : Int32) (σ : hl_M) : Option (Int32 × hl_M) :=
  (f_M_isPerson v1 σ).bind fun x1 =>
  if x1 = 0 then
  some (((-1), σ)) else
  (f_M_isWord v2 σ).bind fun x2 =>
  if x2 = 0 then
  some (((-1), σ)) else
  (f_M_goes 0 v2 σ).bind fun x3 =>
  if x3.1 = 0 then
  some (((-1), x3.2)) else
  (f_M_bearerOf v1 x3.2).bind fun x4 =>
  if x4 = ((-1)) then
  some (((-1), x3.2)) else
  (f_M_whereIn v1 0 x3.2).bind fun x5 =>
  if hl_b x4 10 then
  if hl_b ((54 * x5) + (x3.2.1 88 x4.toNatClampNeg)) 2916 then
  if hl_b (0 : Int32) 2304 then
  if (x3.2.1 81 ((54 * x5) + (x3.2.1 88 x4.toNatClampNeg)).toNatClampNeg) ≤ (x3.2.1 87 (0 : Int32).toNatClampNeg) then
  if hl_b (0 : Int32) 2304 then
  f_M_learn_j89 v1 x4 x5 (x3.2.1 81 ((54 * x5) + (x3.2.1 88 x4.toNatClampNeg)).toNatClampNeg) (x3.2.1 87 (0 : Int32).toNatClampNeg) x3.2 else none else
  f_M_learn_j89 v1 x4 x5 (x3.2.1 81 ((54 * x5) + (x3.2.1 88 x4.toNatClampNeg)).toNatClampNeg) (x3.2.1 81 ((54 * x5) + (x3.2.1 88 x4.toNatClampNeg)).toNatClampNeg) x3.2 else none else none else none
set_option maxRecDepth 20000 in
theorem p_M_learn_j158 {X : hl_X} (D : Nat) (v1 : Int32) (v3 : Int32) (v4 : Int32) (v5 : Int32) (v6 : Int32) (v7 : Int32) (s0 : Int32) (σ : hl_M) {o : (Int32 × Int32 × hl_M) ⊕ (hl_M)} {v : Option Value} {τ : hl_M} (h : f_M_learn_j158 v1 v3 v4 v5 v6 v7 s0 σ = some o) (k1 : ∀ (c0 : Int32) (c1 : Int32) (c2 : hl_M), o = .inl ((c0, c1, c2)) → hl_R X (D + 5) y225 128 [(0, .ref 64), (1, .int v1), (3, .int v3), (4, .int c0), (5, .int v5), (6, .int v6), (7, .int c1)] [] c2 v τ) (k2 : ∀ (a0 : hl_M), o = .inr a0 → hl_R X (D + 5) y225 194 [(0, .ref 64), (6, .int v6)] [] a0 v τ) : hl_R X (D + 5) y225 158 [(0, .ref 64), (1, .int v1), (3, .int v3), (4, .int v4), (5, .int v5), (6, .int v6), (7, .int v7)] [.int s0] σ v τ := by
  unfold f_M_learn_j158 at h
  refine hl_istore (ls2 := [(8, .int s0), (0, .ref 64), (1, .int v1), (3, .int v3), (4, .int v4), (5, .int v5), (6, .int v6), (7, .int v7)]) d225_158 (by decide) rfl ?_
  refine hl_aload_n (i := 0) d225_160 rfl rfl (by decide) ?_
  refine hl_gr d225_161 gM_56_64 ?_
  refine hl_sipush d225_164 ks153 ?_
  refine hl_bipush d225_167 kb15 ?_
  refine hl_iload_n (i := 1) d225_169 rfl rfl ?_
  refine hl_imul d225_170 ?_
  refine hl_iadd d225_171 ?_
  refine hl_iload d225_172 rfl ?_
  refine hl_iadd d225_174 ?_
  refine hl_iload d225_175 rfl ?_
  obtain ⟨hb, h⟩ := hl_gd h
  refine hl_iast (q := 78) d225_177 sh78 (hl_b_in hb) ?_
  refine hl_aload_n (i := 0) d225_178 rfl rfl (by decide) ?_
  refine hl_iload d225_179 rfl ?_
  refine hl_iload d225_181 rfl ?_
  obtain ⟨x7, hx7, h⟩ := hl_bind h
  refine hl_cVi (D := (D + 4)) (z := y91) (n := 2) (av := [.int v4, .int s0]) (st := []) d225_183 mlM_329 rfl (Nat.le_of_ble_eq_true rfl) (Nat.le_of_ble_eq_true rfl) rc64 ((p_M_stepped D v4 s0 (hl_si σ 78 ((153 + (15 * v1)) + v7).toNatClampNeg s0) hx7).dle (by omega)) ?_
  refine hl_istore (ls2 := [(4, .int x7), (8, .int s0), (0, .ref 64), (1, .int v1), (3, .int v3), (5, .int v5), (6, .int v6), (7, .int v7)]) d225_186 (by decide) rfl ?_
  refine hl_iinc (ls2 := [(7, .int (v7 + 1)), (4, .int x7), (8, .int s0), (0, .ref 64), (1, .int v1), (3, .int v3), (5, .int v5), (6, .int v6)]) d225_188 rfl kx1 (by decide) rfl ?_
  refine hl_goto (tg := 128) d225_191 rfl ?_
  have h := Option.some.inj h
  subst h
  exact hl_loc (k1 x7 (v7 + 1) (hl_si σ 78 ((153 + (15 * v1)) + v7).toNatClampNeg s0) rfl) ⟨rfl, rfl, rfl, rfl, rfl, rfl, rfl, trivial⟩
set_option maxRecDepth 20000 in
theorem p_M_learn_L128 {X : hl_X} (D : Nat) (v1 : Int32) (v3 : Int32) (v5 : Int32) (v6 : Int32) (s : Int32 × Int32 × hl_M) {o : (Int32 × Int32 × hl_M) ⊕ (hl_M)} {v : Option Value} {τ : hl_M} (h : f_M_learn_L128 v1 v3 v5 v6 s = some o) (k1 : ∀ (c0 : Int32) (c1 : Int32) (c2 : hl_M), o = .inl ((c0, c1, c2)) → hl_R X (D + 5) y225 128 [(0, .ref 64), (1, .int v1), (3, .int v3), (4, .int c0), (5, .int v5), (6, .int v6), (7, .int c1)] [] c2 v τ) (k2 : ∀ (a0 : hl_M), o = .inr a0 → hl_R X (D + 5) y225 194 [(0, .ref 64), (6, .int v6)] [] a0 v τ) : hl_R X (D + 5) y225 128 [(0, .ref 64), (1, .int v1), (3, .int v3), (4, .int s.1), (5, .int v5), (6, .int v6), (7, .int s.2.1)] [] s.2.2 v τ := by
  unfold f_M_learn_L128 at h
  refine hl_iload d225_128 rfl ?_
  refine hl_iload d225_130 rfl ?_
  refine hl_icmp_ge (tg := 194) d225_132 rfl (fun hc => ?_) (fun hc => ?_)
  · have h := hl_pos hc h
    have h := Option.some.inj h
    subst h
    exact hl_loc (k2 s.2.2 rfl) ⟨rfl, rfl, trivial⟩
  · have h := hl_neg hc h
    refine hl_iload d225_135 rfl ?_
    refine hl_iload d225_137 rfl ?_
    refine hl_icmp_ge (tg := 157) d225_139 rfl (fun hc => ?_) (fun hc => ?_)
    · have h := hl_pos hc h
      refine hl_iconst d225_157 ki4 ?_
      exact hl_loc (p_M_learn_j158 D v1 v3 s.1 v5 v6 s.2.1 4 s.2.2 h k1 k2) ⟨rfl, rfl, rfl, rfl, rfl, rfl, rfl, trivial⟩
    · have h := hl_neg hc h
      refine hl_aload_n (i := 0) d225_142 rfl rfl (by decide) ?_
      refine hl_iload d225_143 rfl ?_
      refine hl_aload_n (i := 0) d225_145 rfl rfl (by decide) ?_
      refine hl_gr d225_146 gM_92_64 ?_
      refine hl_iload_n (i := 3) d225_149 rfl rfl ?_
      obtain ⟨hb, h⟩ := hl_gd h
      refine hl_iald d225_150 sh88 (hl_b_in hb) ?_
      obtain ⟨x8, hx8, h⟩ := hl_bind h
      refine hl_cVi (D := (D + 4)) (z := y199) (n := 2) (av := [.int s.1, .int (s.2.2.1 88 v3.toNatClampNeg)]) (st := []) d225_151 mlM_456 rfl (Nat.le_of_ble_eq_true rfl) (Nat.le_of_ble_eq_true rfl) rc64 ((p_M_stepNearer D s.1 (s.2.2.1 88 v3.toNatClampNeg) s.2.2 hx8).dle (by omega)) ?_
      refine hl_goto (tg := 158) d225_154 rfl ?_
      exact hl_loc (p_M_learn_j158 D v1 v3 s.1 v5 v6 s.2.1 x8 s.2.2 h k1 k2) ⟨rfl, rfl, rfl, rfl, rfl, rfl, rfl, trivial⟩
set_option maxRecDepth 20000 in
theorem p_M_learn_j89 {X : hl_X} (D : Nat) (v1 : Int32) (v3 : Int32) (v4 : Int32) (v5 : Int32) (s0 : Int32) (σ : hl_M) {r : Int32} {τ : hl_M} (h : f_M_learn_j89 v1 v3 v4 v5 s0 σ = some (r, τ)) : hl_R X (D + 5) y225 89 [(0, .ref 64), (1, .int v1), (3, .int v3), (4, .int v4), (5, .int v5)] [.int s0] σ (some (.int r)) τ := by
  unfold f_M_learn_j89 at h
  refine hl_istore (ls2 := [(6, .int s0), (0, .ref 64), (1, .int v1), (3, .int v3), (4, .int v4), (5, .int v5)]) d225_89 (by decide) rfl ?_
  refine hl_iload d225_91 rfl ?_
  refine hl_i2l d225_93 ?_
  refine hl_lconst (x := 1) d225_94 (by decide) ?_
  refine hl_ldc2 d225_95 wlM_471 ?_
  refine hl_cSi (D := (D + 4)) (z := y70) (n := 3) (av := [.long s0.toInt64, .long 1, .long 12]) (st := []) d225_98 mlM_216 rfl (Nat.le_of_ble_eq_true rfl) (Nat.le_of_ble_eq_true rfl) ((p_M_isIn D s0.toInt64 1 12 σ rfl).dle (by omega)) ?_
  refine hl_if_ne (tg := 106) d225_101 rfl (fun hc => ?_) (fun hc => ?_)
  · have h := hl_neg hc h
    refine hl_aload_n (i := 0) d225_106 rfl rfl (by decide) ?_
    obtain ⟨x6, hx6, h⟩ := hl_bind h
    refine hl_cVv (D := (D + 4)) (z := y220) (n := 0) (av := []) (st := []) d225_107 mlM_473 rfl (Nat.le_of_ble_eq_true rfl) (Nat.le_of_ble_eq_true rfl) rc64 ((p_M_keeps D σ hx6).dle (by omega)) ?_
    refine hl_aload_n (i := 0) d225_110 rfl rfl (by decide) ?_
    refine hl_gr d225_111 gM_56_64 ?_
    refine hl_sipush d225_114 ks152 ?_
    refine hl_bipush d225_117 kb15 ?_
    refine hl_iload_n (i := 1) d225_119 rfl rfl ?_
    refine hl_imul d225_120 ?_
    refine hl_iadd d225_121 ?_
    refine hl_iload d225_122 rfl ?_
    obtain ⟨hb, h⟩ := hl_gd h
    refine hl_iast (q := 78) d225_124 sh78 (hl_b_in hb) ?_
    refine hl_iconst d225_125 ki0 ?_
    refine hl_istore (ls2 := [(7, .int 0), (6, .int s0), (0, .ref 64), (1, .int v1), (3, .int v3), (4, .int v4), (5, .int v5)]) d225_126 (by decide) rfl ?_
    obtain ⟨x9, hx9, h⟩ := hl_bind h
    refine hl_R.loc (ls' := [(0, .ref 64), (1, .int v1), (3, .int v3), (4, .int v4), (5, .int v5), (6, .int s0), (7, .int 0)]) ⟨rfl, rfl, rfl, rfl, rfl, rfl, rfl, trivial⟩ ?_
    refine hl_lp_run3 (P := fun (c0 : Int32) (c1 : Int32) (c2 : hl_M) => hl_R X (D + 5) y225 128 [(0, .ref 64), (1, .int v1), (3, .int v3), (4, .int c0), (5, .int v5), (6, .int s0), (7, .int c1)] [] c2 (some (.int r)) τ) (fun x : hl_M => hl_R X (D + 5) y225 194 [(0, .ref 64), (6, .int s0)] [] x (some (.int r)) τ) (fun c0 c1 c2 o ho h1 h2 => p_M_learn_L128 D v1 v3 v5 s0 (c0, c1, c2) ho h1 (fun a0 e => h2 a0 e)) hl_big v4 0 (hl_si x6 78 (152 + (15 * v1)).toNatClampNeg s0) x9 hx9 ?_
    refine hl_aload_n (i := 0) d225_194 rfl rfl (by decide) ?_
    obtain ⟨x10, hx10, h⟩ := hl_bind h
    refine hl_cVv (D := (D + 4)) (z := y92) (n := 0) (av := []) (st := []) d225_195 mlM_326 rfl (Nat.le_of_ble_eq_true rfl) (Nat.le_of_ble_eq_true rfl) rc64 ((p_M_walks D x9 hx10).dle (by omega)) ?_
    refine hl_iload d225_198 rfl ?_
    obtain ⟨e1, e2⟩ := hl_some2 h
    subst e1; subst e2
    exact hl_iret d225_200 rfl
  · have h := hl_pos hc h
    refine hl_iconst d225_104 kim1 ?_
    obtain ⟨e1, e2⟩ := hl_some2 h
    subst e1; subst e2
    exact hl_iret d225_105 rfl
set_option maxRecDepth 20000 in
theorem p_M_learn {X : hl_X} (D : Nat) (v1 : Int32) (v2 : Int32) (σ : hl_M) {r : Int32} {τ : hl_M} (h : f_M_learn v1 v2 σ = some (r, τ)) : hl_R X (D + 5) y225 0 [(0, .ref 64), (1, .int v1), (2, .int v2)] [] σ (some (.int r)) τ := by
  unfold f_M_learn at h
  refine hl_aload_n (i := 0) d225_0 rfl rfl (by decide) ?_
  refine hl_iload_n (i := 1) d225_1 rfl rfl ?_
  obtain ⟨x1, hx1, h⟩ := hl_bind h
  refine hl_cVi (D := (D + 4)) (z := y126) (n := 1) (av := [.int v1]) (st := []) d225_2 mlM_394 rfl (Nat.le_of_ble_eq_true rfl) (Nat.le_of_ble_eq_true rfl) rc64 ((p_M_isPerson D v1 σ hx1).dle (by omega)) ?_
  refine hl_if_eq (tg := 25) d225_5 rfl (fun hc => ?_) (fun hc => ?_)
  · have h := hl_pos hc h
    refine hl_iconst d225_25 kim1 ?_
    obtain ⟨e1, e2⟩ := hl_some2 h
    subst e1; subst e2
    exact hl_iret d225_26 rfl
  · have h := hl_neg hc h
    refine hl_aload_n (i := 0) d225_8 rfl rfl (by decide) ?_
    refine hl_iload_n (i := 2) d225_9 rfl rfl ?_
    obtain ⟨x2, hx2, h⟩ := hl_bind h
    refine hl_cVi (D := (D + 4)) (z := y132) (n := 1) (av := [.int v2]) (st := []) d225_10 mlM_403 rfl (Nat.le_of_ble_eq_true rfl) (Nat.le_of_ble_eq_true rfl) rc64 ((p_M_isWord D v2 σ hx2).dle (by omega)) ?_
    refine hl_if_eq (tg := 25) d225_13 rfl (fun hc => ?_) (fun hc => ?_)
    · have h := hl_pos hc h
      refine hl_iconst d225_25 kim1 ?_
      obtain ⟨e1, e2⟩ := hl_some2 h
      subst e1; subst e2
      exact hl_iret d225_26 rfl
    · have h := hl_neg hc h
      refine hl_aload_n (i := 0) d225_16 rfl rfl (by decide) ?_
      refine hl_iconst d225_17 ki0 ?_
      refine hl_iload_n (i := 2) d225_18 rfl rfl ?_
      obtain ⟨x3, hx3, h⟩ := hl_bind h
      refine hl_cVi (D := (D + 4)) (z := y185) (n := 2) (av := [.int 0, .int v2]) (st := []) d225_19 mlM_450 rfl (Nat.le_of_ble_eq_true rfl) (Nat.le_of_ble_eq_true rfl) rc64 ((p_M_goes D 0 v2 σ hx3).dle (by omega)) ?_
      refine hl_if_ne (tg := 27) d225_22 rfl (fun hc => ?_) (fun hc => ?_)
      · have h := hl_neg hc h
        refine hl_aload_n (i := 0) d225_27 rfl rfl (by decide) ?_
        refine hl_iload_n (i := 1) d225_28 rfl rfl ?_
        obtain ⟨x4, hx4, h⟩ := hl_bind h
        refine hl_cVi (D := (D + 4)) (z := y198) (n := 1) (av := [.int v1]) (st := []) d225_29 mlM_453 rfl (Nat.le_of_ble_eq_true rfl) (Nat.le_of_ble_eq_true rfl) rc64 ((p_M_bearerOf D v1 x3.2 hx4).dle (by omega)) ?_
        refine hl_istore_n (i := 3) (ls2 := [(3, .int x4), (0, .ref 64), (1, .int v1), (2, .int v2)]) d225_32 rfl (by decide) rfl ?_
        refine hl_iload_n (i := 3) d225_33 rfl rfl ?_
        refine hl_iconst d225_34 kim1 ?_
        refine hl_icmp_ne (tg := 40) d225_35 rfl (fun hc => ?_) (fun hc => ?_)
        · have h := hl_neg hc h
          refine hl_aload_n (i := 0) d225_40 rfl rfl (by decide) ?_
          refine hl_iload_n (i := 1) d225_41 rfl rfl ?_
          refine hl_iconst d225_42 ki0 ?_
          obtain ⟨x5, hx5, h⟩ := hl_bind h
          refine hl_cVi (D := (D + 4)) (z := y117) (n := 2) (av := [.int v1, .int 0]) (st := []) d225_43 mlM_349 rfl (Nat.le_of_ble_eq_true rfl) (Nat.le_of_ble_eq_true rfl) rc64 ((p_M_whereIn D v1 0 x3.2 hx5).dle (by omega)) ?_
          refine hl_istore (ls2 := [(4, .int x5), (3, .int x4), (0, .ref 64), (1, .int v1), (2, .int v2)]) d225_46 (by decide) rfl ?_
          refine hl_aload_n (i := 0) d225_48 rfl rfl (by decide) ?_
          refine hl_gr d225_49 gM_65_64 ?_
          refine hl_bipush d225_52 kb54 ?_
          refine hl_iload d225_54 rfl ?_
          refine hl_imul d225_56 ?_
          refine hl_aload_n (i := 0) d225_57 rfl rfl (by decide) ?_
          refine hl_gr d225_58 gM_92_64 ?_
          refine hl_iload_n (i := 3) d225_61 rfl rfl ?_
          obtain ⟨hb, h⟩ := hl_gd h
          refine hl_iald d225_62 sh88 (hl_b_in hb) ?_
          refine hl_iadd d225_63 ?_
          obtain ⟨hb, h⟩ := hl_gd h
          refine hl_iald d225_64 sh81 (hl_b_in hb) ?_
          refine hl_istore (ls2 := [(5, .int (x3.2.1 81 ((54 * x5) + (x3.2.1 88 x4.toNatClampNeg)).toNatClampNeg)), (4, .int x5), (3, .int x4), (0, .ref 64), (1, .int v1), (2, .int v2)]) d225_65 (by decide) rfl ?_
          refine hl_iload d225_67 rfl ?_
          refine hl_aload_n (i := 0) d225_69 rfl rfl (by decide) ?_
          refine hl_gr d225_70 gM_89_64 ?_
          refine hl_iconst d225_73 ki0 ?_
          obtain ⟨hb, h⟩ := hl_gd h
          refine hl_iald d225_74 sh87 (hl_b_in hb) ?_
          refine hl_icmp_le (tg := 83) d225_75 rfl (fun hc => ?_) (fun hc => ?_)
          · have h := hl_pos hc h
            refine hl_aload_n (i := 0) d225_83 rfl rfl (by decide) ?_
            refine hl_gr d225_84 gM_89_64 ?_
            refine hl_iconst d225_87 ki0 ?_
            obtain ⟨hb, h⟩ := hl_gd h
            refine hl_iald d225_88 sh87 (hl_b_in hb) ?_
            exact hl_loc (p_M_learn_j89 D v1 x4 x5 (x3.2.1 81 ((54 * x5) + (x3.2.1 88 x4.toNatClampNeg)).toNatClampNeg) (x3.2.1 87 (0 : Int32).toNatClampNeg) x3.2 h) ⟨rfl, rfl, rfl, rfl, rfl, trivial⟩
          · have h := hl_neg hc h
            refine hl_iload d225_78 rfl ?_
            refine hl_goto (tg := 89) d225_80 rfl ?_
            exact hl_loc (p_M_learn_j89 D v1 x4 x5 (x3.2.1 81 ((54 * x5) + (x3.2.1 88 x4.toNatClampNeg)).toNatClampNeg) (x3.2.1 81 ((54 * x5) + (x3.2.1 88 x4.toNatClampNeg)).toNatClampNeg) x3.2 h) ⟨rfl, rfl, rfl, rfl, rfl, trivial⟩
        · have h := hl_pos hc h
          refine hl_iconst d225_38 kim1 ?_
          obtain ⟨e1, e2⟩ := hl_some2 h
          subst e1; subst e2
          exact hl_iret d225_39 rfl
      · have h := hl_pos hc h
        refine hl_iconst d225_25 kim1 ?_
        obtain ⟨e1, e2⟩ := hl_some2 h
        subst e1; subst e2
        exact hl_iret d225_26 rfl
def f_X_undo (σ : hl_M) : Option (Int32 × hl_M) :=
  if (f_X_within ((σ.1 58 3) - 1) 20) = 0 then
  some ((0, σ)) else
  if hl_b ((σ.1 58 3) - 1) 20 then
  if (f_X_within ((hl_si σ 58 3 ((σ.1 58 3) - 1)).1 59 ((σ.1 58 3) - 1).toNatClampNeg) ((hl_si σ 58 3 ((σ.1 58 3) - 1)).1 4 3)) = 0 then
  some ((1, hl_si σ 58 3 ((σ.1 58 3) - 1))) else
  if hl_b ((σ.1 58 3) - 1) 20 then
  if hl_b ((hl_si σ 58 3 ((σ.1 58 3) - 1)).1 59 ((σ.1 58 3) - 1).toNatClampNeg) 10 then
  if hl_b ((σ.1 58 3) - 1) 20 then
  if hl_b ((hl_si σ 58 3 ((σ.1 58 3) - 1)).1 59 ((σ.1 58 3) - 1).toNatClampNeg) 10 then
  (f_Wk_retrace ((hl_si σ 58 3 ((σ.1 58 3) - 1)).1 59 ((σ.1 58 3) - 1).toNatClampNeg) (hl_sl (hl_si (hl_si σ 58 3 ((σ.1 58 3) - 1)) 7 ((hl_si σ 58 3 ((σ.1 58 3) - 1)).1 59 ((σ.1 58 3) - 1).toNatClampNeg).toNatClampNeg ((hl_si σ 58 3 ((σ.1 58 3) - 1)).1 60 ((σ.1 58 3) - 1).toNatClampNeg)) 8 ((hl_si σ 58 3 ((σ.1 58 3) - 1)).1 59 ((σ.1 58 3) - 1).toNatClampNeg).toNatClampNeg ((hl_si (hl_si σ 58 3 ((σ.1 58 3) - 1)) 7 ((hl_si σ 58 3 ((σ.1 58 3) - 1)).1 59 ((σ.1 58 3) - 1).toNatClampNeg).toNatClampNeg ((hl_si σ 58 3 ((σ.1 58 3) - 1)).1 60 ((σ.1 58 3) - 1).toNatClampNeg)).2 61 ((σ.1 58 3) - 1).toNatClampNeg))).bind fun x1 =>
  some ((1, x1)) else none else none else none else none else none
set_option maxRecDepth 20000 in
theorem p_X_undo {X : hl_X} (D : Nat) (σ : hl_M) {r : Int32} {τ : hl_M} (h : f_X_undo σ = some (r, τ)) : hl_R X (D + 4) y226 0 [(0, .ref 0)] [] σ (some (.int r)) τ := by
  unfold f_X_undo at h
  refine hl_aload_n (i := 0) d226_0 rfl rfl (by decide) ?_
  refine hl_gr d226_1 gX_81_0 ?_
  refine hl_gi d226_4 gX_110_58 ?_
  refine hl_iconst d226_7 ki1 ?_
  refine hl_isub d226_8 ?_
  refine hl_istore_n (i := 1) (ls2 := [(1, .int ((σ.1 58 3) - 1)), (0, .ref 0)]) d226_9 rfl (by decide) rfl ?_
  refine hl_iload_n (i := 1) d226_10 rfl rfl ?_
  refine hl_bipush d226_11 kb20 ?_
  refine hl_cSi (D := (D + 3)) (z := y2) (n := 2) (av := [.int ((σ.1 58 3) - 1), .int 20]) (st := []) d226_13 mlX_154 rfl (Nat.le_of_ble_eq_true rfl) (Nat.le_of_ble_eq_true rfl) ((p_X_within D ((σ.1 58 3) - 1) 20 σ rfl).dle (by omega)) ?_
  refine hl_if_ne (tg := 21) d226_16 rfl (fun hc => ?_) (fun hc => ?_)
  · have h := hl_neg hc h
    refine hl_aload_n (i := 0) d226_21 rfl rfl (by decide) ?_
    refine hl_gr d226_22 gX_81_0 ?_
    refine hl_iload_n (i := 1) d226_25 rfl rfl ?_
    refine hl_pi d226_26 qX_110_58 ?_
    refine hl_aload_n (i := 0) d226_29 rfl rfl (by decide) ?_
    refine hl_gr d226_30 gX_81_0 ?_
    refine hl_gr d226_33 gX_308_58 ?_
    refine hl_iload_n (i := 1) d226_36 rfl rfl ?_
    obtain ⟨hb, h⟩ := hl_gd h
    refine hl_iald d226_37 sh59 (hl_b_in hb) ?_
    refine hl_istore_n (i := 2) (ls2 := [(2, .int ((hl_si σ 58 3 ((σ.1 58 3) - 1)).1 59 ((σ.1 58 3) - 1).toNatClampNeg)), (1, .int ((σ.1 58 3) - 1)), (0, .ref 0)]) d226_38 rfl (by decide) rfl ?_
    refine hl_iload_n (i := 2) d226_39 rfl rfl ?_
    refine hl_aload_n (i := 0) d226_40 rfl rfl (by decide) ?_
    refine hl_gr d226_41 gX_28_0 ?_
    refine hl_gi d226_44 gX_139_4 ?_
    refine hl_cSi (D := (D + 3)) (z := y2) (n := 2) (av := [.int ((hl_si σ 58 3 ((σ.1 58 3) - 1)).1 59 ((σ.1 58 3) - 1).toNatClampNeg), .int ((hl_si σ 58 3 ((σ.1 58 3) - 1)).1 4 3)]) (st := []) d226_47 mlX_154 rfl (Nat.le_of_ble_eq_true rfl) (Nat.le_of_ble_eq_true rfl) ((p_X_within D ((hl_si σ 58 3 ((σ.1 58 3) - 1)).1 59 ((σ.1 58 3) - 1).toNatClampNeg) ((hl_si σ 58 3 ((σ.1 58 3) - 1)).1 4 3) (hl_si σ 58 3 ((σ.1 58 3) - 1)) rfl).dle (by omega)) ?_
    refine hl_if_eq (tg := 97) d226_50 rfl (fun hc => ?_) (fun hc => ?_)
    · have h := hl_pos hc h
      refine hl_iconst d226_97 ki1 ?_
      obtain ⟨e1, e2⟩ := hl_some2 h
      subst e1; subst e2
      exact hl_zret d226_98 rfl (by decide)
    · have h := hl_neg hc h
      refine hl_aload_n (i := 0) d226_53 rfl rfl (by decide) ?_
      refine hl_gr d226_54 gX_28_0 ?_
      refine hl_gr d226_57 gX_176_4 ?_
      refine hl_iload_n (i := 2) d226_60 rfl rfl ?_
      refine hl_aload_n (i := 0) d226_61 rfl rfl (by decide) ?_
      refine hl_gr d226_62 gX_81_0 ?_
      refine hl_gr d226_65 gX_310_58 ?_
      refine hl_iload_n (i := 1) d226_68 rfl rfl ?_
      obtain ⟨hb, h⟩ := hl_gd h
      refine hl_iald d226_69 sh60 (hl_b_in hb) ?_
      obtain ⟨hb, h⟩ := hl_gd h
      refine hl_iast (q := 7) d226_70 sh7 (hl_b_in hb) ?_
      refine hl_aload_n (i := 0) d226_71 rfl rfl (by decide) ?_
      refine hl_gr d226_72 gX_28_0 ?_
      refine hl_gr d226_75 gX_169_4 ?_
      refine hl_iload_n (i := 2) d226_78 rfl rfl ?_
      refine hl_aload_n (i := 0) d226_79 rfl rfl (by decide) ?_
      refine hl_gr d226_80 gX_81_0 ?_
      refine hl_gr d226_83 gX_311_58 ?_
      refine hl_iload_n (i := 1) d226_86 rfl rfl ?_
      obtain ⟨hb, h⟩ := hl_gd h
      refine hl_lald d226_87 sh61 (hl_b_in hb) ?_
      obtain ⟨hb, h⟩ := hl_gd h
      refine hl_last (q := 8) d226_88 sh8 (hl_b_in hb) ?_
      refine hl_aload_n (i := 0) d226_89 rfl rfl (by decide) ?_
      refine hl_gr d226_90 gX_49_0 ?_
      refine hl_iload_n (i := 2) d226_93 rfl rfl ?_
      obtain ⟨x1, hx1, h⟩ := hl_bind h
      refine hl_cVv (D := (D + 3)) (z := y56) (n := 1) (av := [.int ((hl_si σ 58 3 ((σ.1 58 3) - 1)).1 59 ((σ.1 58 3) - 1).toNatClampNeg)]) (st := []) d226_94 mlX_312 rfl (Nat.le_of_ble_eq_true rfl) (Nat.le_of_ble_eq_true rfl) rc25 ((p_Wk_retrace D ((hl_si σ 58 3 ((σ.1 58 3) - 1)).1 59 ((σ.1 58 3) - 1).toNatClampNeg) (hl_sl (hl_si (hl_si σ 58 3 ((σ.1 58 3) - 1)) 7 ((hl_si σ 58 3 ((σ.1 58 3) - 1)).1 59 ((σ.1 58 3) - 1).toNatClampNeg).toNatClampNeg ((hl_si σ 58 3 ((σ.1 58 3) - 1)).1 60 ((σ.1 58 3) - 1).toNatClampNeg)) 8 ((hl_si σ 58 3 ((σ.1 58 3) - 1)).1 59 ((σ.1 58 3) - 1).toNatClampNeg).toNatClampNeg ((hl_si (hl_si σ 58 3 ((σ.1 58 3) - 1)) 7 ((hl_si σ 58 3 ((σ.1 58 3) - 1)).1 59 ((σ.1 58 3) - 1).toNatClampNeg).toNatClampNeg ((hl_si σ 58 3 ((σ.1 58 3) - 1)).1 60 ((σ.1 58 3) - 1).toNatClampNeg)).2 61 ((σ.1 58 3) - 1).toNatClampNeg)) hx1).dle (by omega)) ?_
      refine hl_iconst d226_97 ki1 ?_
      obtain ⟨e1, e2⟩ := hl_some2 h
      subst e1; subst e2
      exact hl_zret d226_98 rfl (by decide)
  · have h := hl_pos hc h
    refine hl_iconst d226_19 ki0 ?_
    obtain ⟨e1, e2⟩ := hl_some2 h
    subst e1; subst e2
    exact hl_zret d226_20 rfl (by decide)
def f_M_undo_L11 (s : Int32 × hl_M) : Option ((Int32 × hl_M) ⊕ (hl_M)) :=
  if 150 ≤ s.1 then
  some (.inr s.2) else
  if hl_b ((150 * (s.2.1 64 51)) + s.1) 3000 then
  if hl_b (150 + s.1) 300 then
  some (.inl ((s.1 + 1, hl_si s.2 78 (150 + s.1).toNatClampNeg (s.2.1 90 ((150 * (s.2.1 64 51)) + s.1).toNatClampNeg)))) else none else none
def f_M_undo (σ : hl_M) : Option (Int32 × hl_M) :=
  if (σ.1 64 50) = 0 then
  some ((0, σ)) else
  (hl_lp (f_M_undo_L11) hl_big ((0, σ))).bind fun x1 =>
  hl_let (hl_si (hl_si x1 64 51 ((((x1.1 64 51) + 20) - 1) - (((x1.1 64 51) + 20) - 1) / 20 * 20)) 64 50 (((hl_si x1 64 51 ((((x1.1 64 51) + 20) - 1) - (((x1.1 64 51) + 20) - 1) / 20 * 20)).1 64 50) - 1)) (fun σ2 =>
  (f_M_walks σ2).bind fun x3 =>
  some ((1, x3)))
set_option maxRecDepth 20000 in
theorem p_M_undo_L11 {X : hl_X} (D : Nat) (s : Int32 × hl_M) {o : (Int32 × hl_M) ⊕ (hl_M)} {v : Option Value} {τ : hl_M} (h : f_M_undo_L11 s = some o) (k1 : ∀ (c0 : Int32) (c1 : hl_M), o = .inl ((c0, c1)) → hl_R X (D + 3) y227 11 [(0, .ref 64), (1, .int c0)] [] c1 v τ) (k2 : ∀ (a0 : hl_M), o = .inr a0 → hl_R X (D + 3) y227 49 [(0, .ref 64)] [] a0 v τ) : hl_R X (D + 3) y227 11 [(0, .ref 64), (1, .int s.1)] [] s.2 v τ := by
  unfold f_M_undo_L11 at h
  refine hl_iload_n (i := 1) d227_11 rfl rfl ?_
  refine hl_sipush d227_12 ks150 ?_
  refine hl_icmp_ge (tg := 49) d227_15 rfl (fun hc => ?_) (fun hc => ?_)
  · have h := hl_pos hc h
    have h := Option.some.inj h
    subst h
    exact hl_loc (k2 s.2 rfl) ⟨rfl, trivial⟩
  · have h := hl_neg hc h
    refine hl_aload_n (i := 0) d227_18 rfl rfl (by decide) ?_
    refine hl_gr d227_19 gM_56_64 ?_
    refine hl_sipush d227_22 ks150 ?_
    refine hl_iload_n (i := 1) d227_25 rfl rfl ?_
    refine hl_iadd d227_26 ?_
    refine hl_aload_n (i := 0) d227_27 rfl rfl (by decide) ?_
    refine hl_gr d227_28 gM_98_64 ?_
    refine hl_sipush d227_31 ks150 ?_
    refine hl_aload_n (i := 0) d227_34 rfl rfl (by decide) ?_
    refine hl_gi d227_35 gM_468_64 ?_
    refine hl_imul d227_38 ?_
    refine hl_iload_n (i := 1) d227_39 rfl rfl ?_
    refine hl_iadd d227_40 ?_
    obtain ⟨hb, h⟩ := hl_gd h
    refine hl_iald d227_41 sh90 (hl_b_in hb) ?_
    obtain ⟨hb, h⟩ := hl_gd h
    refine hl_iast (q := 78) d227_42 sh78 (hl_b_in hb) ?_
    refine hl_iinc (ls2 := [(1, .int (s.1 + 1)), (0, .ref 64)]) d227_43 rfl kx1 (by decide) rfl ?_
    refine hl_goto (tg := 11) d227_46 rfl ?_
    have h := Option.some.inj h
    subst h
    exact hl_loc (k1 (s.1 + 1) (hl_si s.2 78 (150 + s.1).toNatClampNeg (s.2.1 90 ((150 * (s.2.1 64 51)) + s.1).toNatClampNeg)) rfl) ⟨rfl, rfl, trivial⟩
set_option maxRecDepth 20000 in
theorem p_M_undo {X : hl_X} (D : Nat) (σ : hl_M) {r : Int32} {τ : hl_M} (h : f_M_undo σ = some (r, τ)) : hl_R X (D + 3) y227 0 [(0, .ref 64)] [] σ (some (.int r)) τ := by
  unfold f_M_undo at h
  refine hl_aload_n (i := 0) d227_0 rfl rfl (by decide) ?_
  refine hl_gi d227_1 gM_313_64 ?_
  refine hl_if_ne (tg := 9) d227_4 rfl (fun hc => ?_) (fun hc => ?_)
  · have h := hl_neg hc h
    refine hl_iconst d227_9 ki0 ?_
    refine hl_istore_n (i := 1) (ls2 := [(1, .int 0), (0, .ref 64)]) d227_10 rfl (by decide) rfl ?_
    obtain ⟨x1, hx1, h⟩ := hl_bind h
    refine hl_R.loc (ls' := [(0, .ref 64), (1, .int 0)]) ⟨rfl, rfl, trivial⟩ ?_
    refine hl_lp_run2 (P := fun (c0 : Int32) (c1 : hl_M) => hl_R X (D + 3) y227 11 [(0, .ref 64), (1, .int c0)] [] c1 (some (.int r)) τ) (fun x : hl_M => hl_R X (D + 3) y227 49 [(0, .ref 64)] [] x (some (.int r)) τ) (fun c0 c1 o ho h1 h2 => p_M_undo_L11 D (c0, c1) ho h1 (fun a0 e => h2 a0 e)) hl_big 0 σ x1 hx1 ?_
    refine hl_aload_n (i := 0) d227_49 rfl rfl (by decide) ?_
    refine hl_aload_n (i := 0) d227_50 rfl rfl (by decide) ?_
    refine hl_gi d227_51 gM_468_64 ?_
    refine hl_bipush d227_54 kb20 ?_
    refine hl_iadd d227_56 ?_
    refine hl_iconst d227_57 ki1 ?_
    refine hl_isub d227_58 ?_
    refine hl_bipush d227_59 kb20 ?_
    refine hl_irem d227_61 (by decide) ?_
    refine hl_pi d227_62 qM_468_64 ?_
    refine hl_aload_n (i := 0) d227_65 rfl rfl (by decide) ?_
    refine hl_dup d227_66 rfl ?_
    refine hl_gi d227_67 gM_313_64 ?_
    refine hl_iconst d227_70 ki1 ?_
    refine hl_isub d227_71 ?_
    refine hl_pi d227_72 qM_313_64 ?_
    refine hl_nmm h (fun σ2 h => ?_)
    refine hl_aload_n (i := 0) d227_75 rfl rfl (by decide) ?_
    obtain ⟨x3, hx3, h⟩ := hl_bind h
    refine hl_cVv (D := (D + 2)) (z := y92) (n := 0) (av := []) (st := []) d227_76 mlM_326 rfl (Nat.le_of_ble_eq_true rfl) (Nat.le_of_ble_eq_true rfl) rc64 ((p_M_walks D σ2 hx3).dle (by omega)) ?_
    refine hl_iconst d227_79 ki1 ?_
    obtain ⟨e1, e2⟩ := hl_some2 h
    subst e1; subst e2
    exact hl_zret d227_80 rfl (by decide)
  · have h := hl_pos hc h
    refine hl_iconst d227_7 ki0 ?_
    obtain ⟨e1, e2⟩ := hl_some2 h
    subst e1; subst e2
    exact hl_zret d227_8 rfl (by decide)
def f_Qu_emit (v1 : Int32) (σ : hl_M) : Option (hl_M) :=
  if (f_X_within (σ.1 55 6) 1600) = 0 then
  some σ else
  if hl_b (σ.1 55 6) 1600 then
  some (hl_si (hl_si σ 56 (σ.1 55 6).toNatClampNeg v1) 55 6 (((hl_si σ 56 (σ.1 55 6).toNatClampNeg v1).1 55 6) + 1)) else none
set_option maxRecDepth 20000 in
theorem p_Qu_emit {X : hl_X} (D : Nat) (v1 : Int32) (σ : hl_M) {τ : hl_M} (h : f_Qu_emit v1 σ = some τ) : hl_R X (D + 1) y232 0 [(0, .ref 55), (1, .int v1)] [] σ none τ := by
  unfold f_Qu_emit at h
  refine hl_aload_n (i := 0) d232_0 rfl rfl (by decide) ?_
  refine hl_gi d232_1 gQu_35_55 ?_
  refine hl_aload_n (i := 0) d232_4 rfl rfl (by decide) ?_
  refine hl_gr d232_5 gQu_9_55 ?_
  refine hl_alen d232_8 sh56 (by decide) kn1600 ?_
  refine hl_cNi (D := D) (z := y2) (n := 2) (av := [.int (σ.1 55 6), .int 1600]) (st := []) d232_9 mlQu_93 rfl (Nat.le_of_ble_eq_true rfl) (Nat.le_of_ble_eq_true rfl) ((p_X_within D (σ.1 55 6) 1600 σ rfl).dle (by omega)) ?_
  refine hl_if_eq (tg := 35) d232_12 rfl (fun hc => ?_) (fun hc => ?_)
  · have h := hl_pos hc h
    have h := Option.some.inj h
    subst h
    exact hl_vret d232_35 rfl
  · have h := hl_neg hc h
    refine hl_aload_n (i := 0) d232_15 rfl rfl (by decide) ?_
    refine hl_gr d232_16 gQu_9_55 ?_
    refine hl_aload_n (i := 0) d232_19 rfl rfl (by decide) ?_
    refine hl_gi d232_20 gQu_35_55 ?_
    refine hl_iload_n (i := 1) d232_23 rfl rfl ?_
    obtain ⟨hb, h⟩ := hl_gd h
    refine hl_iast (q := 56) d232_24 sh56 (hl_b_in hb) ?_
    refine hl_aload_n (i := 0) d232_25 rfl rfl (by decide) ?_
    refine hl_dup d232_26 rfl ?_
    refine hl_gi d232_27 gQu_35_55 ?_
    refine hl_iconst d232_30 ki1 ?_
    refine hl_iadd d232_31 ?_
    refine hl_pi d232_32 qQu_35_55 ?_
    have h := Option.some.inj h
    subst h
    exact hl_vret d232_35 rfl
def f_Qu_takeTest_j70 (rec : Nat → hl_M → Option hl_M) (v1 : Int32) (v2 : Int32) (v3 : Int32) (σ : hl_M) : Option ((Int32 × Int32 × hl_M) ⊕ (Int32 × hl_M)) :=
  (rec 1 σ).bind fun x5 =>
  if v3 = 0 then
  some (.inl ((1, v2 + 1, x5))) else
  (f_Qu_emit ((-18)) x5).bind fun x6 =>
  some (.inl ((v1, v2 + 1, x6)))
def f_Qu_takeTest_j39 (rec : Nat → hl_M → Option hl_M) (v1 : Int32) (v2 : Int32) (σ : hl_M) : Option ((Int32 × Int32 × hl_M) ⊕ (Int32 × hl_M)) :=
  (f_Rd_isWord 36 σ).bind fun x3 =>
  (f_Rd_advance σ).bind fun x4 =>
  if x3 = 0 then
  if v1 = 0 then
  f_Qu_takeTest_j70 rec v1 v2 x3 x4 else
  (f_Qu_emit ((-19)) x4).bind fun x7 =>
  f_Qu_takeTest_j70 rec v1 v2 x3 x7 else
  f_Qu_takeTest_j70 rec v1 v2 x3 x4
def f_Qu_takeTest_L8 (rec : Nat → hl_M → Option hl_M) (s : Int32 × Int32 × hl_M) : Option ((Int32 × Int32 × hl_M) ⊕ (Int32 × hl_M)) :=
  if 1600 ≤ s.2.1 then
  some (.inr (((s.1, s.2.2)))) else
  (f_Rd_isWord 36 s.2.2).bind fun x2 =>
  if x2 = 0 then
  (f_Rd_isWord 37 s.2.2).bind fun x8 =>
  if x8 = 0 then
  some (.inr (((s.1, s.2.2)))) else
  f_Qu_takeTest_j39 rec s.1 s.2.1 s.2.2 else
  f_Qu_takeTest_j39 rec s.1 s.2.1 s.2.2
def b_Qu_takeTest (rec : Nat → hl_M → Option hl_M) (σ : hl_M) : Option (hl_M) :=
  (rec 1 σ).bind fun x1 =>
  (hl_lp (f_Qu_takeTest_L8 rec) hl_big ((0, 0, x1))).bind fun x9 =>
  if x9.1 = 0 then
  some x9.2 else
  (f_Qu_emit ((-19)) x9.2).bind fun x10 =>
  some x10
set_option maxRecDepth 20000 in
theorem p_Qu_takeTest_j70 {X : hl_X} (D : Nat) (rec : Nat → hl_M → Option hl_M) (hrec : ∀ (k : Nat) (σ τ : hl_M), rec k σ = some τ → hl_RQ X (D + 5) k σ τ) (v1 : Int32) (v2 : Int32) (v3 : Int32) (σ : hl_M) {o : (Int32 × Int32 × hl_M) ⊕ (Int32 × hl_M)} {v : Option Value} {τ : hl_M} (h : f_Qu_takeTest_j70 rec v1 v2 v3 σ = some o) (k1 : ∀ (c0 : Int32) (c1 : Int32) (c2 : hl_M), o = .inl ((c0, c1, c2)) → hl_R X (D + 6) y230 8 [(0, .ref 55), (1, .int c0), (2, .int c1)] [] c2 v τ) (k2 : ∀ (a0 : Int32) (a1 : hl_M), o = .inr ((a0, a1)) → hl_R X (D + 6) y230 95 [(0, .ref 55), (1, .int a0)] [] a1 v τ) : hl_R X (D + 6) y230 70 [(0, .ref 55), (1, .int v1), (2, .int v2), (3, .int v3)] [] σ v τ := by
  unfold f_Qu_takeTest_j70 at h
  refine hl_aload_n (i := 0) d230_70 rfl rfl (by decide) ?_
  obtain ⟨x5, hx5, h⟩ := hl_bind h
  refine hl_cVv (D := (D + 5)) (z := y231) (n := 0) (av := []) (st := []) d230_71 mlQu_97 rfl (Nat.le_of_ble_eq_true rfl) (Nat.le_of_ble_eq_true rfl) rc55 (hrec 1 _ _ hx5) ?_
  refine hl_iload_n (i := 3) d230_74 rfl rfl ?_
  refine hl_if_eq (tg := 87) d230_75 rfl (fun hc => ?_) (fun hc => ?_)
  · have h := hl_pos hc h
    refine hl_iconst d230_87 ki1 ?_
    refine hl_istore_n (i := 1) (ls2 := [(1, .int 1), (0, .ref 55), (2, .int v2), (3, .int v3)]) d230_88 rfl (by decide) rfl ?_
    refine hl_iinc (ls2 := [(2, .int (v2 + 1)), (1, .int 1), (0, .ref 55), (3, .int v3)]) d230_89 rfl kx1 (by decide) rfl ?_
    refine hl_goto (tg := 8) d230_92 rfl ?_
    have h := Option.some.inj h
    subst h
    exact hl_loc (k1 1 (v2 + 1) x5 rfl) ⟨rfl, rfl, rfl, trivial⟩
  · have h := hl_neg hc h
    refine hl_aload_n (i := 0) d230_78 rfl rfl (by decide) ?_
    refine hl_bipush d230_79 kbm18 ?_
    obtain ⟨x6, hx6, h⟩ := hl_bind h
    refine hl_cVv (D := (D + 5)) (z := y232) (n := 1) (av := [.int ((-18))]) (st := []) d230_81 mlQu_104 rfl (Nat.le_of_ble_eq_true rfl) (Nat.le_of_ble_eq_true rfl) rc55 ((p_Qu_emit D ((-18)) x5 hx6).dle (by omega)) ?_
    refine hl_goto (tg := 89) d230_84 rfl ?_
    refine hl_iinc (ls2 := [(2, .int (v2 + 1)), (0, .ref 55), (1, .int v1), (3, .int v3)]) d230_89 rfl kx1 (by decide) rfl ?_
    refine hl_goto (tg := 8) d230_92 rfl ?_
    have h := Option.some.inj h
    subst h
    exact hl_loc (k1 v1 (v2 + 1) x6 rfl) ⟨rfl, rfl, rfl, trivial⟩
set_option maxRecDepth 20000 in
theorem p_Qu_takeTest_j39 {X : hl_X} (D : Nat) (rec : Nat → hl_M → Option hl_M) (hrec : ∀ (k : Nat) (σ τ : hl_M), rec k σ = some τ → hl_RQ X (D + 5) k σ τ) (v1 : Int32) (v2 : Int32) (σ : hl_M) {o : (Int32 × Int32 × hl_M) ⊕ (Int32 × hl_M)} {v : Option Value} {τ : hl_M} (h : f_Qu_takeTest_j39 rec v1 v2 σ = some o) (k1 : ∀ (c0 : Int32) (c1 : Int32) (c2 : hl_M), o = .inl ((c0, c1, c2)) → hl_R X (D + 6) y230 8 [(0, .ref 55), (1, .int c0), (2, .int c1)] [] c2 v τ) (k2 : ∀ (a0 : Int32) (a1 : hl_M), o = .inr ((a0, a1)) → hl_R X (D + 6) y230 95 [(0, .ref 55), (1, .int a0)] [] a1 v τ) : hl_R X (D + 6) y230 39 [(0, .ref 55), (1, .int v1), (2, .int v2)] [] σ v τ := by
  unfold f_Qu_takeTest_j39 at h
  refine hl_aload_n (i := 0) d230_39 rfl rfl (by decide) ?_
  refine hl_gr d230_40 gQu_19_55 ?_
  refine hl_ldcS (j := 36) d230_43 (by decide) ⟨rfl, rfl⟩ ?_
  obtain ⟨x3, hx3, h⟩ := hl_bind h
  refine hl_cVi (D := (D + 5)) (z := y15) (n := 1) (av := [.ref 236]) (st := []) d230_45 mlQu_79 rfl (Nat.le_of_ble_eq_true rfl) (Nat.le_of_ble_eq_true rfl) rc3 ((p_Rd_isWord D 36 (by decide) σ hx3).dle (by omega)) ?_
  refine hl_istore_n (i := 3) (ls2 := [(3, .int x3), (0, .ref 55), (1, .int v1), (2, .int v2)]) d230_48 rfl (by decide) rfl ?_
  refine hl_aload_n (i := 0) d230_49 rfl rfl (by decide) ?_
  refine hl_gr d230_50 gQu_19_55 ?_
  obtain ⟨x4, hx4, h⟩ := hl_bind h
  refine hl_cVv (D := (D + 5)) (z := y10) (n := 0) (av := []) (st := []) d230_53 mlQu_61 rfl (Nat.le_of_ble_eq_true rfl) (Nat.le_of_ble_eq_true rfl) rc3 ((p_Rd_advance D σ hx4).dle (by omega)) ?_
  refine hl_iload_n (i := 3) d230_56 rfl rfl ?_
  refine hl_if_ne (tg := 70) d230_57 rfl (fun hc => ?_) (fun hc => ?_)
  · have h := hl_neg hc h
    exact hl_loc (p_Qu_takeTest_j70 D rec hrec v1 v2 x3 x4 h k1 k2) ⟨rfl, rfl, rfl, rfl, trivial⟩
  · have h := hl_pos hc h
    refine hl_iload_n (i := 1) d230_60 rfl rfl ?_
    refine hl_if_eq (tg := 70) d230_61 rfl (fun hc => ?_) (fun hc => ?_)
    · have h := hl_pos hc h
      exact hl_loc (p_Qu_takeTest_j70 D rec hrec v1 v2 x3 x4 h k1 k2) ⟨rfl, rfl, rfl, rfl, trivial⟩
    · have h := hl_neg hc h
      refine hl_aload_n (i := 0) d230_64 rfl rfl (by decide) ?_
      refine hl_bipush d230_65 kbm19 ?_
      obtain ⟨x7, hx7, h⟩ := hl_bind h
      refine hl_cVv (D := (D + 5)) (z := y232) (n := 1) (av := [.int ((-19))]) (st := []) d230_67 mlQu_104 rfl (Nat.le_of_ble_eq_true rfl) (Nat.le_of_ble_eq_true rfl) rc55 ((p_Qu_emit D ((-19)) x4 hx7).dle (by omega)) ?_
      exact hl_loc (p_Qu_takeTest_j70 D rec hrec v1 v2 x3 x7 h k1 k2) ⟨rfl, rfl, rfl, rfl, trivial⟩
set_option maxRecDepth 20000 in
theorem p_Qu_takeTest_L8 {X : hl_X} (D : Nat) (rec : Nat → hl_M → Option hl_M) (hrec : ∀ (k : Nat) (σ τ : hl_M), rec k σ = some τ → hl_RQ X (D + 5) k σ τ) (s : Int32 × Int32 × hl_M) {o : (Int32 × Int32 × hl_M) ⊕ (Int32 × hl_M)} {v : Option Value} {τ : hl_M} (h : f_Qu_takeTest_L8 rec s = some o) (k1 : ∀ (c0 : Int32) (c1 : Int32) (c2 : hl_M), o = .inl ((c0, c1, c2)) → hl_R X (D + 6) y230 8 [(0, .ref 55), (1, .int c0), (2, .int c1)] [] c2 v τ) (k2 : ∀ (a0 : Int32) (a1 : hl_M), o = .inr ((a0, a1)) → hl_R X (D + 6) y230 95 [(0, .ref 55), (1, .int a0)] [] a1 v τ) : hl_R X (D + 6) y230 8 [(0, .ref 55), (1, .int s.1), (2, .int s.2.1)] [] s.2.2 v τ := by
  unfold f_Qu_takeTest_L8 at h
  refine hl_iload_n (i := 2) d230_8 rfl rfl ?_
  refine hl_sipush d230_9 ks1600 ?_
  refine hl_icmp_ge (tg := 95) d230_12 rfl (fun hc => ?_) (fun hc => ?_)
  · have h := hl_pos hc h
    have h := Option.some.inj h
    subst h
    exact hl_loc (k2 s.1 s.2.2 rfl) ⟨rfl, rfl, trivial⟩
  · have h := hl_neg hc h
    refine hl_aload_n (i := 0) d230_15 rfl rfl (by decide) ?_
    refine hl_gr d230_16 gQu_19_55 ?_
    refine hl_ldcS (j := 36) d230_19 (by decide) ⟨rfl, rfl⟩ ?_
    obtain ⟨x2, hx2, h⟩ := hl_bind h
    refine hl_cVi (D := (D + 5)) (z := y15) (n := 1) (av := [.ref 236]) (st := []) d230_21 mlQu_79 rfl (Nat.le_of_ble_eq_true rfl) (Nat.le_of_ble_eq_true rfl) rc3 ((p_Rd_isWord D 36 (by decide) s.2.2 hx2).dle (by omega)) ?_
    refine hl_if_ne (tg := 39) d230_24 rfl (fun hc => ?_) (fun hc => ?_)
    · have h := hl_neg hc h
      exact hl_loc (p_Qu_takeTest_j39 D rec hrec s.1 s.2.1 s.2.2 h k1 k2) ⟨rfl, rfl, rfl, trivial⟩
    · have h := hl_pos hc h
      refine hl_aload_n (i := 0) d230_27 rfl rfl (by decide) ?_
      refine hl_gr d230_28 gQu_19_55 ?_
      refine hl_ldcS (j := 37) d230_31 (by decide) ⟨rfl, rfl⟩ ?_
      obtain ⟨x8, hx8, h⟩ := hl_bind h
      refine hl_cVi (D := (D + 5)) (z := y15) (n := 1) (av := [.ref 237]) (st := []) d230_33 mlQu_79 rfl (Nat.le_of_ble_eq_true rfl) (Nat.le_of_ble_eq_true rfl) rc3 ((p_Rd_isWord D 37 (by decide) s.2.2 hx8).dle (by omega)) ?_
      refine hl_if_eq (tg := 95) d230_36 rfl (fun hc => ?_) (fun hc => ?_)
      · have h := hl_pos hc h
        have h := Option.some.inj h
        subst h
        exact hl_loc (k2 s.1 s.2.2 rfl) ⟨rfl, rfl, trivial⟩
      · have h := hl_neg hc h
        exact hl_loc (p_Qu_takeTest_j39 D rec hrec s.1 s.2.1 s.2.2 h k1 k2) ⟨rfl, rfl, rfl, trivial⟩
set_option maxRecDepth 20000 in
theorem pb_Qu_takeTest {X : hl_X} (D : Nat) (rec : Nat → hl_M → Option hl_M) (hrec : ∀ (k : Nat) (σ τ : hl_M), rec k σ = some τ → hl_RQ X (D + 5) k σ τ) (σ : hl_M) {τ : hl_M} (h : b_Qu_takeTest rec σ = some τ) : hl_R X (D + 6) y230 0 [(0, .ref 55)] [] σ none τ := by
  unfold b_Qu_takeTest at h
  refine hl_aload_n (i := 0) d230_0 rfl rfl (by decide) ?_
  obtain ⟨x1, hx1, h⟩ := hl_bind h
  refine hl_cVv (D := (D + 5)) (z := y231) (n := 0) (av := []) (st := []) d230_1 mlQu_97 rfl (Nat.le_of_ble_eq_true rfl) (Nat.le_of_ble_eq_true rfl) rc55 (hrec 1 _ _ hx1) ?_
  refine hl_iconst d230_4 ki0 ?_
  refine hl_istore_n (i := 1) (ls2 := [(1, .int 0), (0, .ref 55)]) d230_5 rfl (by decide) rfl ?_
  refine hl_iconst d230_6 ki0 ?_
  refine hl_istore_n (i := 2) (ls2 := [(2, .int 0), (1, .int 0), (0, .ref 55)]) d230_7 rfl (by decide) rfl ?_
  obtain ⟨x9, hx9, h⟩ := hl_bind h
  refine hl_R.loc (ls' := [(0, .ref 55), (1, .int 0), (2, .int 0)]) ⟨rfl, rfl, rfl, trivial⟩ ?_
  refine hl_lp_run3 (P := fun (c0 : Int32) (c1 : Int32) (c2 : hl_M) => hl_R X (D + 6) y230 8 [(0, .ref 55), (1, .int c0), (2, .int c1)] [] c2 none τ) (fun x : Int32 × hl_M => hl_R X (D + 6) y230 95 [(0, .ref 55), (1, .int x.1)] [] x.2 none τ) (fun c0 c1 c2 o ho h1 h2 => p_Qu_takeTest_L8 D rec hrec (c0, c1, c2) ho h1 (fun a0 a1 e => h2 ((a0, a1)) e)) hl_big 0 0 x1 x9 hx9 ?_
  refine hl_iload_n (i := 1) d230_95 rfl rfl ?_
  refine hl_if_eq (tg := 105) d230_96 rfl (fun hc => ?_) (fun hc => ?_)
  · have h := hl_pos hc h
    have h := Option.some.inj h
    subst h
    exact hl_vret d230_105 rfl
  · have h := hl_neg hc h
    refine hl_aload_n (i := 0) d230_99 rfl rfl (by decide) ?_
    refine hl_bipush d230_100 kbm19 ?_
    obtain ⟨x10, hx10, h⟩ := hl_bind h
    refine hl_cVv (D := (D + 5)) (z := y232) (n := 1) (av := [.int ((-19))]) (st := []) d230_102 mlQu_104 rfl (Nat.le_of_ble_eq_true rfl) (Nat.le_of_ble_eq_true rfl) rc55 ((p_Qu_emit D ((-19)) x9.2 hx10).dle (by omega)) ?_
    have h := Option.some.inj h
    subst h
    exact hl_vret d230_105 rfl
def f_Qu_comparison (σ : hl_M) : Option (Int32 × hl_M) :=
  (f_Rd_isSign 60 σ).bind fun x1 =>
  if x1 = 0 then
  (f_Rd_isSign 62 σ).bind fun x2 =>
  if x2 = 0 then
  (f_Rd_isSign 61 σ).bind fun x3 =>
  if x3 = 0 then
  some (((-17), f_Rd_fail 1 (σ.1 3 2) σ)) else
  some (((-17), σ)) else
  some (((-16), σ)) else
  some (((-15), σ))
set_option maxRecDepth 20000 in
theorem p_Qu_comparison {X : hl_X} (D : Nat) (σ : hl_M) {r : Int32} {τ : hl_M} (h : f_Qu_comparison σ = some (r, τ)) : hl_R X (D + 2) y234 0 [(0, .ref 55)] [] σ (some (.int r)) τ := by
  unfold f_Qu_comparison at h
  refine hl_aload_n (i := 0) d234_0 rfl rfl (by decide) ?_
  refine hl_gr d234_1 gQu_19_55 ?_
  refine hl_bipush d234_4 kb60 ?_
  obtain ⟨x1, hx1, h⟩ := hl_bind h
  refine hl_cVi (D := (D + 1)) (z := y32) (n := 1) (av := [.int 60]) (st := []) d234_6 mlQu_113 rfl (Nat.le_of_ble_eq_true rfl) (Nat.le_of_ble_eq_true rfl) rc3 ((p_Rd_isSign D 60 σ hx1).dle (by omega)) ?_
  refine hl_if_eq (tg := 15) d234_9 rfl (fun hc => ?_) (fun hc => ?_)
  · have h := hl_pos hc h
    refine hl_aload_n (i := 0) d234_15 rfl rfl (by decide) ?_
    refine hl_gr d234_16 gQu_19_55 ?_
    refine hl_bipush d234_19 kb62 ?_
    obtain ⟨x2, hx2, h⟩ := hl_bind h
    refine hl_cVi (D := (D + 1)) (z := y32) (n := 1) (av := [.int 62]) (st := []) d234_21 mlQu_113 rfl (Nat.le_of_ble_eq_true rfl) (Nat.le_of_ble_eq_true rfl) rc3 ((p_Rd_isSign D 62 σ hx2).dle (by omega)) ?_
    refine hl_if_eq (tg := 30) d234_24 rfl (fun hc => ?_) (fun hc => ?_)
    · have h := hl_pos hc h
      refine hl_aload_n (i := 0) d234_30 rfl rfl (by decide) ?_
      refine hl_gr d234_31 gQu_19_55 ?_
      refine hl_bipush d234_34 kb61 ?_
      obtain ⟨x3, hx3, h⟩ := hl_bind h
      refine hl_cVi (D := (D + 1)) (z := y32) (n := 1) (av := [.int 61]) (st := []) d234_36 mlQu_113 rfl (Nat.le_of_ble_eq_true rfl) (Nat.le_of_ble_eq_true rfl) rc3 ((p_Rd_isSign D 61 σ hx3).dle (by omega)) ?_
      refine hl_if_ne (tg := 57) d234_39 rfl (fun hc => ?_) (fun hc => ?_)
      · have h := hl_neg hc h
        refine hl_bipush d234_57 kbm17 ?_
        obtain ⟨e1, e2⟩ := hl_some2 h
        subst e1; subst e2
        exact hl_iret d234_59 rfl
      · have h := hl_pos hc h
        refine hl_aload_n (i := 0) d234_42 rfl rfl (by decide) ?_
        refine hl_gr d234_43 gQu_19_55 ?_
        refine hl_iconst d234_46 ki1 ?_
        refine hl_aload_n (i := 0) d234_47 rfl rfl (by decide) ?_
        refine hl_gr d234_48 gQu_19_55 ?_
        refine hl_gi d234_51 gQu_54_3 ?_
        refine hl_cVv (D := (D + 1)) (z := y23) (n := 2) (av := [.int 1, .int (σ.1 3 2)]) (st := []) d234_54 mlQu_57 rfl (Nat.le_of_ble_eq_true rfl) (Nat.le_of_ble_eq_true rfl) rc3 ((p_Rd_fail D 1 (σ.1 3 2) σ rfl).dle (by omega)) ?_
        refine hl_bipush d234_57 kbm17 ?_
        obtain ⟨e1, e2⟩ := hl_some2 h
        subst e1; subst e2
        exact hl_iret d234_59 rfl
    · have h := hl_neg hc h
      refine hl_bipush d234_27 kbm16 ?_
      obtain ⟨e1, e2⟩ := hl_some2 h
      subst e1; subst e2
      exact hl_iret d234_29 rfl
  · have h := hl_neg hc h
    refine hl_bipush d234_12 kbm15 ?_
    obtain ⟨e1, e2⟩ := hl_some2 h
    subst e1; subst e2
    exact hl_iret d234_14 rfl
def f_Qu_opens (σ : hl_M) : Option (Int32 × hl_M) :=
  if (σ.1 55 8) < 6 then
  (f_Rd_advance (hl_si σ 55 8 ((σ.1 55 8) + 1))).bind fun x1 =>
  some ((1, x1)) else
  some ((0, f_Rd_fail 4 (σ.1 3 2) σ))
set_option maxRecDepth 20000 in
theorem p_Qu_opens {X : hl_X} (D : Nat) (σ : hl_M) {r : Int32} {τ : hl_M} (h : f_Qu_opens σ = some (r, τ)) : hl_R X (D + 2) y235 0 [(0, .ref 55)] [] σ (some (.int r)) τ := by
  unfold f_Qu_opens at h
  refine hl_aload_n (i := 0) d235_0 rfl rfl (by decide) ?_
  refine hl_gi d235_1 gQu_39_55 ?_
  refine hl_bipush d235_4 kb6 ?_
  refine hl_icmp_lt (tg := 26) d235_6 rfl (fun hc => ?_) (fun hc => ?_)
  · have h := hl_pos hc h
    refine hl_aload_n (i := 0) d235_26 rfl rfl (by decide) ?_
    refine hl_dup d235_27 rfl ?_
    refine hl_gi d235_28 gQu_39_55 ?_
    refine hl_iconst d235_31 ki1 ?_
    refine hl_iadd d235_32 ?_
    refine hl_pi d235_33 qQu_39_55 ?_
    refine hl_aload_n (i := 0) d235_36 rfl rfl (by decide) ?_
    refine hl_gr d235_37 gQu_19_55 ?_
    obtain ⟨x1, hx1, h⟩ := hl_bind h
    refine hl_cVv (D := (D + 1)) (z := y10) (n := 0) (av := []) (st := []) d235_40 mlQu_61 rfl (Nat.le_of_ble_eq_true rfl) (Nat.le_of_ble_eq_true rfl) rc3 ((p_Rd_advance D (hl_si σ 55 8 ((σ.1 55 8) + 1)) hx1).dle (by omega)) ?_
    refine hl_iconst d235_43 ki1 ?_
    obtain ⟨e1, e2⟩ := hl_some2 h
    subst e1; subst e2
    exact hl_zret d235_44 rfl (by decide)
  · have h := hl_neg hc h
    refine hl_aload_n (i := 0) d235_9 rfl rfl (by decide) ?_
    refine hl_gr d235_10 gQu_19_55 ?_
    refine hl_iconst d235_13 ki4 ?_
    refine hl_aload_n (i := 0) d235_14 rfl rfl (by decide) ?_
    refine hl_gr d235_15 gQu_19_55 ?_
    refine hl_gi d235_18 gQu_54_3 ?_
    refine hl_cVv (D := (D + 1)) (z := y23) (n := 2) (av := [.int 4, .int (σ.1 3 2)]) (st := []) d235_21 mlQu_57 rfl (Nat.le_of_ble_eq_true rfl) (Nat.le_of_ble_eq_true rfl) rc3 ((p_Rd_fail D 4 (σ.1 3 2) σ rfl).dle (by omega)) ?_
    refine hl_iconst d235_24 ki0 ?_
    obtain ⟨e1, e2⟩ := hl_some2 h
    subst e1; subst e2
    exact hl_zret d235_25 rfl (by decide)
def b_Qu_takeFact (rec : Nat → hl_M → Option hl_M) (σ : hl_M) : Option (hl_M) :=
  (f_Rd_isWord 25 σ).bind fun x1 =>
  if x1 = 0 then
  (f_Rd_isSign 91 σ).bind fun x2 =>
  if x2 = 0 then
  (f_Rd_isWord 26 σ).bind fun x3 =>
  if x3 = 0 then
  (rec 2 σ).bind fun x4 =>
  (f_Qu_comparison x4).bind fun x5 =>
  (f_Rd_advance x5.2).bind fun x6 =>
  (rec 2 x6).bind fun x7 =>
  (f_Qu_emit x5.1 x7).bind fun x8 =>
  some x8 else
  (f_Rd_advance σ).bind fun x9 =>
  (f_Qu_emit 1 x9).bind fun x10 =>
  some x10 else
  (f_Qu_opens σ).bind fun x11 =>
  if x11.1 = 0 then
  some x11.2 else
  (rec 0 x11.2).bind fun x12 =>
  (f_Rd_wantSign 93 x12).bind fun x13 =>
  some (hl_si x13 55 8 ((x13.1 55 8) - 1)) else
  (f_Qu_opens σ).bind fun x14 =>
  if x14.1 = 0 then
  some x14.2 else
  (rec 1 x14.2).bind fun x15 =>
  (f_Qu_emit ((-8)) (hl_si x15 55 8 ((x15.1 55 8) - 1))).bind fun x16 =>
  some x16
set_option maxRecDepth 20000 in
theorem pb_Qu_takeFact {X : hl_X} (D : Nat) (rec : Nat → hl_M → Option hl_M) (hrec : ∀ (k : Nat) (σ τ : hl_M), rec k σ = some τ → hl_RQ X (D + 5) k σ τ) (σ : hl_M) {τ : hl_M} (h : b_Qu_takeFact rec σ = some τ) : hl_R X (D + 6) y231 0 [(0, .ref 55)] [] σ none τ := by
  unfold b_Qu_takeFact at h
  refine hl_aload_n (i := 0) d231_0 rfl rfl (by decide) ?_
  refine hl_gr d231_1 gQu_19_55 ?_
  refine hl_ldcS (j := 25) d231_4 (by decide) ⟨rfl, rfl⟩ ?_
  obtain ⟨x1, hx1, h⟩ := hl_bind h
  refine hl_cVi (D := (D + 5)) (z := y15) (n := 1) (av := [.ref 225]) (st := []) d231_6 mlQu_79 rfl (Nat.le_of_ble_eq_true rfl) (Nat.le_of_ble_eq_true rfl) rc3 ((p_Rd_isWord D 25 (by decide) σ hx1).dle (by omega)) ?_
  refine hl_if_eq (tg := 42) d231_9 rfl (fun hc => ?_) (fun hc => ?_)
  · have h := hl_pos hc h
    refine hl_aload_n (i := 0) d231_42 rfl rfl (by decide) ?_
    refine hl_gr d231_43 gQu_19_55 ?_
    refine hl_bipush d231_46 kb91 ?_
    obtain ⟨x2, hx2, h⟩ := hl_bind h
    refine hl_cVi (D := (D + 5)) (z := y32) (n := 1) (av := [.int 91]) (st := []) d231_48 mlQu_113 rfl (Nat.le_of_ble_eq_true rfl) (Nat.le_of_ble_eq_true rfl) rc3 ((p_Rd_isSign D 91 σ hx2).dle (by omega)) ?_
    refine hl_if_eq (tg := 87) d231_51 rfl (fun hc => ?_) (fun hc => ?_)
    · have h := hl_pos hc h
      refine hl_aload_n (i := 0) d231_87 rfl rfl (by decide) ?_
      refine hl_gr d231_88 gQu_19_55 ?_
      refine hl_ldcS (j := 26) d231_91 (by decide) ⟨rfl, rfl⟩ ?_
      obtain ⟨x3, hx3, h⟩ := hl_bind h
      refine hl_cVi (D := (D + 5)) (z := y15) (n := 1) (av := [.ref 226]) (st := []) d231_93 mlQu_79 rfl (Nat.le_of_ble_eq_true rfl) (Nat.le_of_ble_eq_true rfl) rc3 ((p_Rd_isWord D 26 (by decide) σ hx3).dle (by omega)) ?_
      refine hl_if_eq (tg := 114) d231_96 rfl (fun hc => ?_) (fun hc => ?_)
      · have h := hl_pos hc h
        refine hl_aload_n (i := 0) d231_114 rfl rfl (by decide) ?_
        obtain ⟨x4, hx4, h⟩ := hl_bind h
        refine hl_cVv (D := (D + 5)) (z := y233) (n := 0) (av := []) (st := []) d231_115 mlQu_67 rfl (Nat.le_of_ble_eq_true rfl) (Nat.le_of_ble_eq_true rfl) rc55 (hrec 2 _ _ hx4) ?_
        refine hl_aload_n (i := 0) d231_118 rfl rfl (by decide) ?_
        obtain ⟨x5, hx5, h⟩ := hl_bind h
        refine hl_cVi (D := (D + 5)) (z := y234) (n := 0) (av := []) (st := []) d231_119 mlQu_123 rfl (Nat.le_of_ble_eq_true rfl) (Nat.le_of_ble_eq_true rfl) rc55 ((p_Qu_comparison D x4 hx5).dle (by omega)) ?_
        refine hl_istore_n (i := 1) (ls2 := [(1, .int x5.1), (0, .ref 55)]) d231_122 rfl (by decide) rfl ?_
        refine hl_aload_n (i := 0) d231_123 rfl rfl (by decide) ?_
        refine hl_gr d231_124 gQu_19_55 ?_
        obtain ⟨x6, hx6, h⟩ := hl_bind h
        refine hl_cVv (D := (D + 5)) (z := y10) (n := 0) (av := []) (st := []) d231_127 mlQu_61 rfl (Nat.le_of_ble_eq_true rfl) (Nat.le_of_ble_eq_true rfl) rc3 ((p_Rd_advance D x5.2 hx6).dle (by omega)) ?_
        refine hl_aload_n (i := 0) d231_130 rfl rfl (by decide) ?_
        obtain ⟨x7, hx7, h⟩ := hl_bind h
        refine hl_cVv (D := (D + 5)) (z := y233) (n := 0) (av := []) (st := []) d231_131 mlQu_67 rfl (Nat.le_of_ble_eq_true rfl) (Nat.le_of_ble_eq_true rfl) rc55 (hrec 2 _ _ hx7) ?_
        refine hl_aload_n (i := 0) d231_134 rfl rfl (by decide) ?_
        refine hl_iload_n (i := 1) d231_135 rfl rfl ?_
        obtain ⟨x8, hx8, h⟩ := hl_bind h
        refine hl_cVv (D := (D + 5)) (z := y232) (n := 1) (av := [.int x5.1]) (st := []) d231_136 mlQu_104 rfl (Nat.le_of_ble_eq_true rfl) (Nat.le_of_ble_eq_true rfl) rc55 ((p_Qu_emit D x5.1 x7 hx8).dle (by omega)) ?_
        have h := Option.some.inj h
        subst h
        exact hl_vret d231_139 rfl
      · have h := hl_neg hc h
        refine hl_aload_n (i := 0) d231_99 rfl rfl (by decide) ?_
        refine hl_gr d231_100 gQu_19_55 ?_
        obtain ⟨x9, hx9, h⟩ := hl_bind h
        refine hl_cVv (D := (D + 5)) (z := y10) (n := 0) (av := []) (st := []) d231_103 mlQu_61 rfl (Nat.le_of_ble_eq_true rfl) (Nat.le_of_ble_eq_true rfl) rc3 ((p_Rd_advance D σ hx9).dle (by omega)) ?_
        refine hl_aload_n (i := 0) d231_106 rfl rfl (by decide) ?_
        refine hl_iconst d231_107 ki1 ?_
        obtain ⟨x10, hx10, h⟩ := hl_bind h
        refine hl_cVv (D := (D + 5)) (z := y232) (n := 1) (av := [.int 1]) (st := []) d231_108 mlQu_104 rfl (Nat.le_of_ble_eq_true rfl) (Nat.le_of_ble_eq_true rfl) rc55 ((p_Qu_emit D 1 x9 hx10).dle (by omega)) ?_
        refine hl_goto (tg := 139) d231_111 rfl ?_
        have h := Option.some.inj h
        subst h
        exact hl_vret d231_139 rfl
    · have h := hl_neg hc h
      refine hl_aload_n (i := 0) d231_54 rfl rfl (by decide) ?_
      obtain ⟨x11, hx11, h⟩ := hl_bind h
      refine hl_cVi (D := (D + 5)) (z := y235) (n := 0) (av := []) (st := []) d231_55 mlQu_110 rfl (Nat.le_of_ble_eq_true rfl) (Nat.le_of_ble_eq_true rfl) rc55 ((p_Qu_opens D σ hx11).dle (by omega)) ?_
      refine hl_if_eq (tg := 139) d231_58 rfl (fun hc => ?_) (fun hc => ?_)
      · have h := hl_pos hc h
        have h := Option.some.inj h
        subst h
        exact hl_vret d231_139 rfl
      · have h := hl_neg hc h
        refine hl_aload_n (i := 0) d231_61 rfl rfl (by decide) ?_
        obtain ⟨x12, hx12, h⟩ := hl_bind h
        refine hl_cVv (D := (D + 5)) (z := y230) (n := 0) (av := []) (st := []) d231_62 mlQu_64 rfl (Nat.le_of_ble_eq_true rfl) (Nat.le_of_ble_eq_true rfl) rc55 (hrec 0 _ _ hx12) ?_
        refine hl_aload_n (i := 0) d231_65 rfl rfl (by decide) ?_
        refine hl_gr d231_66 gQu_19_55 ?_
        refine hl_bipush d231_69 kb93 ?_
        obtain ⟨x13, hx13, h⟩ := hl_bind h
        refine hl_cVv (D := (D + 5)) (z := y31) (n := 1) (av := [.int 93]) (st := []) d231_71 mlQu_117 rfl (Nat.le_of_ble_eq_true rfl) (Nat.le_of_ble_eq_true rfl) rc3 ((p_Rd_wantSign D 93 x12 hx13).dle (by omega)) ?_
        refine hl_aload_n (i := 0) d231_74 rfl rfl (by decide) ?_
        refine hl_dup d231_75 rfl ?_
        refine hl_gi d231_76 gQu_39_55 ?_
        refine hl_iconst d231_79 ki1 ?_
        refine hl_isub d231_80 ?_
        refine hl_pi d231_81 qQu_39_55 ?_
        refine hl_goto (tg := 139) d231_84 rfl ?_
        have h := Option.some.inj h
        subst h
        exact hl_vret d231_139 rfl
  · have h := hl_neg hc h
    refine hl_aload_n (i := 0) d231_12 rfl rfl (by decide) ?_
    obtain ⟨x14, hx14, h⟩ := hl_bind h
    refine hl_cVi (D := (D + 5)) (z := y235) (n := 0) (av := []) (st := []) d231_13 mlQu_110 rfl (Nat.le_of_ble_eq_true rfl) (Nat.le_of_ble_eq_true rfl) rc55 ((p_Qu_opens D σ hx14).dle (by omega)) ?_
    refine hl_if_eq (tg := 139) d231_16 rfl (fun hc => ?_) (fun hc => ?_)
    · have h := hl_pos hc h
      have h := Option.some.inj h
      subst h
      exact hl_vret d231_139 rfl
    · have h := hl_neg hc h
      refine hl_aload_n (i := 0) d231_19 rfl rfl (by decide) ?_
      obtain ⟨x15, hx15, h⟩ := hl_bind h
      refine hl_cVv (D := (D + 5)) (z := y231) (n := 0) (av := []) (st := []) d231_20 mlQu_97 rfl (Nat.le_of_ble_eq_true rfl) (Nat.le_of_ble_eq_true rfl) rc55 (hrec 1 _ _ hx15) ?_
      refine hl_aload_n (i := 0) d231_23 rfl rfl (by decide) ?_
      refine hl_dup d231_24 rfl ?_
      refine hl_gi d231_25 gQu_39_55 ?_
      refine hl_iconst d231_28 ki1 ?_
      refine hl_isub d231_29 ?_
      refine hl_pi d231_30 qQu_39_55 ?_
      refine hl_aload_n (i := 0) d231_33 rfl rfl (by decide) ?_
      refine hl_bipush d231_34 kbm8 ?_
      obtain ⟨x16, hx16, h⟩ := hl_bind h
      refine hl_cVv (D := (D + 5)) (z := y232) (n := 1) (av := [.int ((-8))]) (st := []) d231_36 mlQu_104 rfl (Nat.le_of_ble_eq_true rfl) (Nat.le_of_ble_eq_true rfl) rc55 ((p_Qu_emit D ((-8)) (hl_si x15 55 8 ((x15.1 55 8) - 1)) hx16).dle (by omega)) ?_
      refine hl_goto (tg := 139) d231_39 rfl ?_
      have h := Option.some.inj h
      subst h
      exact hl_vret d231_139 rfl
def f_Qu_calculation (σ : hl_M) : Option (Int32) :=
  (f_Rd_isSign 43 σ).bind fun x1 =>
  if x1 = 0 then
  (f_Rd_isSign 45 σ).bind fun x2 =>
  if x2 = 0 then
  (f_Rd_isSign 42 σ).bind fun x3 =>
  if x3 = 0 then
  (f_Rd_isSign 47 σ).bind fun x4 =>
  if x4 = 0 then
  some 0 else
  some ((-14)) else
  some ((-13)) else
  some ((-12)) else
  some ((-11))
set_option maxRecDepth 20000 in
theorem p_Qu_calculation {X : hl_X} (D : Nat) (σ : hl_M) {r : Int32} (h : f_Qu_calculation σ = some r) : hl_R X (D + 2) y237 0 [(0, .ref 55)] [] σ (some (.int r)) σ := by
  unfold f_Qu_calculation at h
  refine hl_aload_n (i := 0) d237_0 rfl rfl (by decide) ?_
  refine hl_gr d237_1 gQu_19_55 ?_
  refine hl_bipush d237_4 kb43 ?_
  obtain ⟨x1, hx1, h⟩ := hl_bind h
  refine hl_cVi (D := (D + 1)) (z := y32) (n := 1) (av := [.int 43]) (st := []) d237_6 mlQu_113 rfl (Nat.le_of_ble_eq_true rfl) (Nat.le_of_ble_eq_true rfl) rc3 ((p_Rd_isSign D 43 σ hx1).dle (by omega)) ?_
  refine hl_if_eq (tg := 15) d237_9 rfl (fun hc => ?_) (fun hc => ?_)
  · have h := hl_pos hc h
    refine hl_aload_n (i := 0) d237_15 rfl rfl (by decide) ?_
    refine hl_gr d237_16 gQu_19_55 ?_
    refine hl_bipush d237_19 kb45 ?_
    obtain ⟨x2, hx2, h⟩ := hl_bind h
    refine hl_cVi (D := (D + 1)) (z := y32) (n := 1) (av := [.int 45]) (st := []) d237_21 mlQu_113 rfl (Nat.le_of_ble_eq_true rfl) (Nat.le_of_ble_eq_true rfl) rc3 ((p_Rd_isSign D 45 σ hx2).dle (by omega)) ?_
    refine hl_if_eq (tg := 30) d237_24 rfl (fun hc => ?_) (fun hc => ?_)
    · have h := hl_pos hc h
      refine hl_aload_n (i := 0) d237_30 rfl rfl (by decide) ?_
      refine hl_gr d237_31 gQu_19_55 ?_
      refine hl_bipush d237_34 kb42 ?_
      obtain ⟨x3, hx3, h⟩ := hl_bind h
      refine hl_cVi (D := (D + 1)) (z := y32) (n := 1) (av := [.int 42]) (st := []) d237_36 mlQu_113 rfl (Nat.le_of_ble_eq_true rfl) (Nat.le_of_ble_eq_true rfl) rc3 ((p_Rd_isSign D 42 σ hx3).dle (by omega)) ?_
      refine hl_if_eq (tg := 45) d237_39 rfl (fun hc => ?_) (fun hc => ?_)
      · have h := hl_pos hc h
        refine hl_aload_n (i := 0) d237_45 rfl rfl (by decide) ?_
        refine hl_gr d237_46 gQu_19_55 ?_
        refine hl_bipush d237_49 kb47 ?_
        obtain ⟨x4, hx4, h⟩ := hl_bind h
        refine hl_cVi (D := (D + 1)) (z := y32) (n := 1) (av := [.int 47]) (st := []) d237_51 mlQu_113 rfl (Nat.le_of_ble_eq_true rfl) (Nat.le_of_ble_eq_true rfl) rc3 ((p_Rd_isSign D 47 σ hx4).dle (by omega)) ?_
        refine hl_if_eq (tg := 62) d237_54 rfl (fun hc => ?_) (fun hc => ?_)
        · have h := hl_pos hc h
          refine hl_iconst d237_62 ki0 ?_
          have h := Option.some.inj h
          subst h
          exact hl_iret d237_63 rfl
        · have h := hl_neg hc h
          refine hl_bipush d237_57 kbm14 ?_
          refine hl_goto (tg := 63) d237_59 rfl ?_
          have h := Option.some.inj h
          subst h
          exact hl_iret d237_63 rfl
      · have h := hl_neg hc h
        refine hl_bipush d237_42 kbm13 ?_
        have h := Option.some.inj h
        subst h
        exact hl_iret d237_44 rfl
    · have h := hl_neg hc h
      refine hl_bipush d237_27 kbm12 ?_
      have h := Option.some.inj h
      subst h
      exact hl_iret d237_29 rfl
  · have h := hl_neg hc h
    refine hl_bipush d237_12 kbm11 ?_
    have h := Option.some.inj h
    subst h
    exact hl_iret d237_14 rfl
def f_Qu_takeSum_j69 (rec : Nat → hl_M → Option hl_M) (v1 : Int32) (v2 : Int32) (v3 : Int32) (v4 : Int32) (σ : hl_M) : Option ((Int32 × Int32 × hl_M) ⊕ (Int32 × hl_M)) :=
  (rec 3 σ).bind fun x5 =>
  if v4 = 0 then
  some (.inl ((v1, v2 + 1, x5))) else
  (f_Qu_emit v3 x5).bind fun x6 =>
  some (.inl ((v1, v2 + 1, x6)))
def f_Qu_takeSum_j44 (rec : Nat → hl_M → Option hl_M) (v1 : Int32) (v2 : Int32) (v3 : Int32) (s0 : Int32) (σ : hl_M) : Option ((Int32 × Int32 × hl_M) ⊕ (Int32 × hl_M)) :=
  (f_Rd_advance σ).bind fun x4 =>
  if s0 = 0 then
  if v1 = 0 then
  f_Qu_takeSum_j69 rec v3 v2 v3 s0 x4 else
  (f_Qu_emit v1 x4).bind fun x7 =>
  f_Qu_takeSum_j69 rec v3 v2 v3 s0 x7 else
  f_Qu_takeSum_j69 rec v1 v2 v3 s0 x4
def f_Qu_takeSum_L8 (rec : Nat → hl_M → Option hl_M) (s : Int32 × Int32 × hl_M) : Option ((Int32 × Int32 × hl_M) ⊕ (Int32 × hl_M)) :=
  if 1600 ≤ s.2.1 then
  some (.inr (((s.1, s.2.2)))) else
  (f_Qu_calculation s.2.2).bind fun x2 =>
  if x2 = 0 then
  some (.inr (((s.1, s.2.2)))) else
  (f_Qu_calculation s.2.2).bind fun x3 =>
  if x3 = ((-13)) then
  f_Qu_takeSum_j44 rec s.1 s.2.1 x3 1 s.2.2 else
  if x3 = ((-14)) then
  f_Qu_takeSum_j44 rec s.1 s.2.1 x3 1 s.2.2 else
  f_Qu_takeSum_j44 rec s.1 s.2.1 x3 0 s.2.2
def b_Qu_takeSum (rec : Nat → hl_M → Option hl_M) (σ : hl_M) : Option (hl_M) :=
  (rec 3 σ).bind fun x1 =>
  (hl_lp (f_Qu_takeSum_L8 rec) hl_big ((0, 0, x1))).bind fun x8 =>
  if x8.1 = 0 then
  some x8.2 else
  (f_Qu_emit x8.1 x8.2).bind fun x9 =>
  some x9
set_option maxRecDepth 20000 in
theorem p_Qu_takeSum_j69 {X : hl_X} (D : Nat) (rec : Nat → hl_M → Option hl_M) (hrec : ∀ (k : Nat) (σ τ : hl_M), rec k σ = some τ → hl_RQ X (D + 5) k σ τ) (v1 : Int32) (v2 : Int32) (v3 : Int32) (v4 : Int32) (σ : hl_M) {o : (Int32 × Int32 × hl_M) ⊕ (Int32 × hl_M)} {v : Option Value} {τ : hl_M} (h : f_Qu_takeSum_j69 rec v1 v2 v3 v4 σ = some o) (k1 : ∀ (c0 : Int32) (c1 : Int32) (c2 : hl_M), o = .inl ((c0, c1, c2)) → hl_R X (D + 6) y233 8 [(0, .ref 55), (1, .int c0), (2, .int c1)] [] c2 v τ) (k2 : ∀ (a0 : Int32) (a1 : hl_M), o = .inr ((a0, a1)) → hl_R X (D + 6) y233 89 [(0, .ref 55), (1, .int a0)] [] a1 v τ) : hl_R X (D + 6) y233 69 [(0, .ref 55), (1, .int v1), (2, .int v2), (3, .int v3), (4, .int v4)] [] σ v τ := by
  unfold f_Qu_takeSum_j69 at h
  refine hl_aload_n (i := 0) d233_69 rfl rfl (by decide) ?_
  obtain ⟨x5, hx5, h⟩ := hl_bind h
  refine hl_cVv (D := (D + 5)) (z := y236) (n := 0) (av := []) (st := []) d233_70 mlQu_126 rfl (Nat.le_of_ble_eq_true rfl) (Nat.le_of_ble_eq_true rfl) rc55 (hrec 3 _ _ hx5) ?_
  refine hl_iload d233_73 rfl ?_
  refine hl_if_eq (tg := 83) d233_75 rfl (fun hc => ?_) (fun hc => ?_)
  · have h := hl_pos hc h
    refine hl_iinc (ls2 := [(2, .int (v2 + 1)), (0, .ref 55), (1, .int v1), (3, .int v3), (4, .int v4)]) d233_83 rfl kx1 (by decide) rfl ?_
    refine hl_goto (tg := 8) d233_86 rfl ?_
    have h := Option.some.inj h
    subst h
    exact hl_loc (k1 v1 (v2 + 1) x5 rfl) ⟨rfl, rfl, rfl, trivial⟩
  · have h := hl_neg hc h
    refine hl_aload_n (i := 0) d233_78 rfl rfl (by decide) ?_
    refine hl_iload_n (i := 3) d233_79 rfl rfl ?_
    obtain ⟨x6, hx6, h⟩ := hl_bind h
    refine hl_cVv (D := (D + 5)) (z := y232) (n := 1) (av := [.int v3]) (st := []) d233_80 mlQu_104 rfl (Nat.le_of_ble_eq_true rfl) (Nat.le_of_ble_eq_true rfl) rc55 ((p_Qu_emit D v3 x5 hx6).dle (by omega)) ?_
    refine hl_iinc (ls2 := [(2, .int (v2 + 1)), (0, .ref 55), (1, .int v1), (3, .int v3), (4, .int v4)]) d233_83 rfl kx1 (by decide) rfl ?_
    refine hl_goto (tg := 8) d233_86 rfl ?_
    have h := Option.some.inj h
    subst h
    exact hl_loc (k1 v1 (v2 + 1) x6 rfl) ⟨rfl, rfl, rfl, trivial⟩
set_option maxRecDepth 20000 in
theorem p_Qu_takeSum_j44 {X : hl_X} (D : Nat) (rec : Nat → hl_M → Option hl_M) (hrec : ∀ (k : Nat) (σ τ : hl_M), rec k σ = some τ → hl_RQ X (D + 5) k σ τ) (v1 : Int32) (v2 : Int32) (v3 : Int32) (s0 : Int32) (σ : hl_M) {o : (Int32 × Int32 × hl_M) ⊕ (Int32 × hl_M)} {v : Option Value} {τ : hl_M} (h : f_Qu_takeSum_j44 rec v1 v2 v3 s0 σ = some o) (k1 : ∀ (c0 : Int32) (c1 : Int32) (c2 : hl_M), o = .inl ((c0, c1, c2)) → hl_R X (D + 6) y233 8 [(0, .ref 55), (1, .int c0), (2, .int c1)] [] c2 v τ) (k2 : ∀ (a0 : Int32) (a1 : hl_M), o = .inr ((a0, a1)) → hl_R X (D + 6) y233 89 [(0, .ref 55), (1, .int a0)] [] a1 v τ) : hl_R X (D + 6) y233 44 [(0, .ref 55), (1, .int v1), (2, .int v2), (3, .int v3)] [.int s0] σ v τ := by
  unfold f_Qu_takeSum_j44 at h
  refine hl_istore (ls2 := [(4, .int s0), (0, .ref 55), (1, .int v1), (2, .int v2), (3, .int v3)]) d233_44 (by decide) rfl ?_
  refine hl_aload_n (i := 0) d233_46 rfl rfl (by decide) ?_
  refine hl_gr d233_47 gQu_19_55 ?_
  obtain ⟨x4, hx4, h⟩ := hl_bind h
  refine hl_cVv (D := (D + 5)) (z := y10) (n := 0) (av := []) (st := []) d233_50 mlQu_61 rfl (Nat.le_of_ble_eq_true rfl) (Nat.le_of_ble_eq_true rfl) rc3 ((p_Rd_advance D σ hx4).dle (by omega)) ?_
  refine hl_iload d233_53 rfl ?_
  refine hl_if_ne (tg := 69) d233_55 rfl (fun hc => ?_) (fun hc => ?_)
  · have h := hl_neg hc h
    exact hl_loc (p_Qu_takeSum_j69 D rec hrec v1 v2 v3 s0 x4 h k1 k2) ⟨rfl, rfl, rfl, rfl, rfl, trivial⟩
  · have h := hl_pos hc h
    refine hl_iload_n (i := 1) d233_58 rfl rfl ?_
    refine hl_if_eq (tg := 67) d233_59 rfl (fun hc => ?_) (fun hc => ?_)
    · have h := hl_pos hc h
      refine hl_iload_n (i := 3) d233_67 rfl rfl ?_
      refine hl_istore_n (i := 1) (ls2 := [(1, .int v3), (4, .int s0), (0, .ref 55), (2, .int v2), (3, .int v3)]) d233_68 rfl (by decide) rfl ?_
      exact hl_loc (p_Qu_takeSum_j69 D rec hrec v3 v2 v3 s0 x4 h k1 k2) ⟨rfl, rfl, rfl, rfl, rfl, trivial⟩
    · have h := hl_neg hc h
      refine hl_aload_n (i := 0) d233_62 rfl rfl (by decide) ?_
      refine hl_iload_n (i := 1) d233_63 rfl rfl ?_
      obtain ⟨x7, hx7, h⟩ := hl_bind h
      refine hl_cVv (D := (D + 5)) (z := y232) (n := 1) (av := [.int v1]) (st := []) d233_64 mlQu_104 rfl (Nat.le_of_ble_eq_true rfl) (Nat.le_of_ble_eq_true rfl) rc55 ((p_Qu_emit D v1 x4 hx7).dle (by omega)) ?_
      refine hl_iload_n (i := 3) d233_67 rfl rfl ?_
      refine hl_istore_n (i := 1) (ls2 := [(1, .int v3), (4, .int s0), (0, .ref 55), (2, .int v2), (3, .int v3)]) d233_68 rfl (by decide) rfl ?_
      exact hl_loc (p_Qu_takeSum_j69 D rec hrec v3 v2 v3 s0 x7 h k1 k2) ⟨rfl, rfl, rfl, rfl, rfl, trivial⟩
set_option maxRecDepth 20000 in
theorem p_Qu_takeSum_L8 {X : hl_X} (D : Nat) (rec : Nat → hl_M → Option hl_M) (hrec : ∀ (k : Nat) (σ τ : hl_M), rec k σ = some τ → hl_RQ X (D + 5) k σ τ) (s : Int32 × Int32 × hl_M) {o : (Int32 × Int32 × hl_M) ⊕ (Int32 × hl_M)} {v : Option Value} {τ : hl_M} (h : f_Qu_takeSum_L8 rec s = some o) (k1 : ∀ (c0 : Int32) (c1 : Int32) (c2 : hl_M), o = .inl ((c0, c1, c2)) → hl_R X (D + 6) y233 8 [(0, .ref 55), (1, .int c0), (2, .int c1)] [] c2 v τ) (k2 : ∀ (a0 : Int32) (a1 : hl_M), o = .inr ((a0, a1)) → hl_R X (D + 6) y233 89 [(0, .ref 55), (1, .int a0)] [] a1 v τ) : hl_R X (D + 6) y233 8 [(0, .ref 55), (1, .int s.1), (2, .int s.2.1)] [] s.2.2 v τ := by
  unfold f_Qu_takeSum_L8 at h
  refine hl_iload_n (i := 2) d233_8 rfl rfl ?_
  refine hl_sipush d233_9 ks1600 ?_
  refine hl_icmp_ge (tg := 89) d233_12 rfl (fun hc => ?_) (fun hc => ?_)
  · have h := hl_pos hc h
    have h := Option.some.inj h
    subst h
    exact hl_loc (k2 s.1 s.2.2 rfl) ⟨rfl, rfl, trivial⟩
  · have h := hl_neg hc h
    refine hl_aload_n (i := 0) d233_15 rfl rfl (by decide) ?_
    obtain ⟨x2, hx2, h⟩ := hl_bind h
    refine hl_cVi (D := (D + 5)) (z := y237) (n := 0) (av := []) (st := []) d233_16 mlQu_129 rfl (Nat.le_of_ble_eq_true rfl) (Nat.le_of_ble_eq_true rfl) rc55 ((p_Qu_calculation D s.2.2 hx2).dle (by omega)) ?_
    refine hl_if_eq (tg := 89) d233_19 rfl (fun hc => ?_) (fun hc => ?_)
    · have h := hl_pos hc h
      have h := Option.some.inj h
      subst h
      exact hl_loc (k2 s.1 s.2.2 rfl) ⟨rfl, rfl, trivial⟩
    · have h := hl_neg hc h
      refine hl_aload_n (i := 0) d233_22 rfl rfl (by decide) ?_
      obtain ⟨x3, hx3, h⟩ := hl_bind h
      refine hl_cVi (D := (D + 5)) (z := y237) (n := 0) (av := []) (st := []) d233_23 mlQu_129 rfl (Nat.le_of_ble_eq_true rfl) (Nat.le_of_ble_eq_true rfl) rc55 ((p_Qu_calculation D s.2.2 hx3).dle (by omega)) ?_
      refine hl_istore_n (i := 3) (ls2 := [(3, .int x3), (0, .ref 55), (1, .int s.1), (2, .int s.2.1)]) d233_26 rfl (by decide) rfl ?_
      refine hl_iload_n (i := 3) d233_27 rfl rfl ?_
      refine hl_bipush d233_28 kbm13 ?_
      refine hl_icmp_eq (tg := 39) d233_30 rfl (fun hc => ?_) (fun hc => ?_)
      · have h := hl_pos hc h
        refine hl_iconst d233_39 ki1 ?_
        refine hl_goto (tg := 44) d233_40 rfl ?_
        exact hl_loc (p_Qu_takeSum_j44 D rec hrec s.1 s.2.1 x3 1 s.2.2 h k1 k2) ⟨rfl, rfl, rfl, rfl, trivial⟩
      · have h := hl_neg hc h
        refine hl_iload_n (i := 3) d233_33 rfl rfl ?_
        refine hl_bipush d233_34 kbm14 ?_
        refine hl_icmp_ne (tg := 43) d233_36 rfl (fun hc => ?_) (fun hc => ?_)
        · have h := hl_neg hc h
          refine hl_iconst d233_43 ki0 ?_
          exact hl_loc (p_Qu_takeSum_j44 D rec hrec s.1 s.2.1 x3 0 s.2.2 h k1 k2) ⟨rfl, rfl, rfl, rfl, trivial⟩
        · have h := hl_pos hc h
          refine hl_iconst d233_39 ki1 ?_
          refine hl_goto (tg := 44) d233_40 rfl ?_
          exact hl_loc (p_Qu_takeSum_j44 D rec hrec s.1 s.2.1 x3 1 s.2.2 h k1 k2) ⟨rfl, rfl, rfl, rfl, trivial⟩
set_option maxRecDepth 20000 in
theorem pb_Qu_takeSum {X : hl_X} (D : Nat) (rec : Nat → hl_M → Option hl_M) (hrec : ∀ (k : Nat) (σ τ : hl_M), rec k σ = some τ → hl_RQ X (D + 5) k σ τ) (σ : hl_M) {τ : hl_M} (h : b_Qu_takeSum rec σ = some τ) : hl_R X (D + 6) y233 0 [(0, .ref 55)] [] σ none τ := by
  unfold b_Qu_takeSum at h
  refine hl_aload_n (i := 0) d233_0 rfl rfl (by decide) ?_
  obtain ⟨x1, hx1, h⟩ := hl_bind h
  refine hl_cVv (D := (D + 5)) (z := y236) (n := 0) (av := []) (st := []) d233_1 mlQu_126 rfl (Nat.le_of_ble_eq_true rfl) (Nat.le_of_ble_eq_true rfl) rc55 (hrec 3 _ _ hx1) ?_
  refine hl_iconst d233_4 ki0 ?_
  refine hl_istore_n (i := 1) (ls2 := [(1, .int 0), (0, .ref 55)]) d233_5 rfl (by decide) rfl ?_
  refine hl_iconst d233_6 ki0 ?_
  refine hl_istore_n (i := 2) (ls2 := [(2, .int 0), (1, .int 0), (0, .ref 55)]) d233_7 rfl (by decide) rfl ?_
  obtain ⟨x8, hx8, h⟩ := hl_bind h
  refine hl_R.loc (ls' := [(0, .ref 55), (1, .int 0), (2, .int 0)]) ⟨rfl, rfl, rfl, trivial⟩ ?_
  refine hl_lp_run3 (P := fun (c0 : Int32) (c1 : Int32) (c2 : hl_M) => hl_R X (D + 6) y233 8 [(0, .ref 55), (1, .int c0), (2, .int c1)] [] c2 none τ) (fun x : Int32 × hl_M => hl_R X (D + 6) y233 89 [(0, .ref 55), (1, .int x.1)] [] x.2 none τ) (fun c0 c1 c2 o ho h1 h2 => p_Qu_takeSum_L8 D rec hrec (c0, c1, c2) ho h1 (fun a0 a1 e => h2 ((a0, a1)) e)) hl_big 0 0 x1 x8 hx8 ?_
  refine hl_iload_n (i := 1) d233_89 rfl rfl ?_
  refine hl_if_eq (tg := 98) d233_90 rfl (fun hc => ?_) (fun hc => ?_)
  · have h := hl_pos hc h
    have h := Option.some.inj h
    subst h
    exact hl_vret d233_98 rfl
  · have h := hl_neg hc h
    refine hl_aload_n (i := 0) d233_93 rfl rfl (by decide) ?_
    refine hl_iload_n (i := 1) d233_94 rfl rfl ?_
    obtain ⟨x9, hx9, h⟩ := hl_bind h
    refine hl_cVv (D := (D + 5)) (z := y232) (n := 1) (av := [.int x8.1]) (st := []) d233_95 mlQu_104 rfl (Nat.le_of_ble_eq_true rfl) (Nat.le_of_ble_eq_true rfl) rc55 ((p_Qu_emit D x8.1 x8.2 hx9).dle (by omega)) ?_
    have h := Option.some.inj h
    subst h
    exact hl_vret d233_98 rfl
def f_Qu_partOfBeat (σ : hl_M) : Option (Int32) :=
  (f_Rd_isWord 27 σ).bind fun x1 =>
  if x1 = 0 then
  (f_Rd_isWord 28 σ).bind fun x2 =>
  if x2 = 0 then
  (f_Rd_isWord 29 σ).bind fun x3 =>
  if x3 = 0 then
  (f_Rd_isWord 30 σ).bind fun x4 =>
  if x4 = 0 then
  some 0 else
  some ((-4)) else
  some ((-3)) else
  some ((-2)) else
  some ((-1))
set_option maxRecDepth 20000 in
theorem p_Qu_partOfBeat {X : hl_X} (D : Nat) (σ : hl_M) {r : Int32} (h : f_Qu_partOfBeat σ = some r) : hl_R X (D + 5) y238 0 [(0, .ref 55)] [] σ (some (.int r)) σ := by
  unfold f_Qu_partOfBeat at h
  refine hl_aload_n (i := 0) d238_0 rfl rfl (by decide) ?_
  refine hl_gr d238_1 gQu_19_55 ?_
  refine hl_ldcS (j := 27) d238_4 (by decide) ⟨rfl, rfl⟩ ?_
  obtain ⟨x1, hx1, h⟩ := hl_bind h
  refine hl_cVi (D := (D + 4)) (z := y15) (n := 1) (av := [.ref 227]) (st := []) d238_6 mlQu_79 rfl (Nat.le_of_ble_eq_true rfl) (Nat.le_of_ble_eq_true rfl) rc3 ((p_Rd_isWord D 27 (by decide) σ hx1).dle (by omega)) ?_
  refine hl_if_eq (tg := 14) d238_9 rfl (fun hc => ?_) (fun hc => ?_)
  · have h := hl_pos hc h
    refine hl_aload_n (i := 0) d238_14 rfl rfl (by decide) ?_
    refine hl_gr d238_15 gQu_19_55 ?_
    refine hl_ldcS (j := 28) d238_18 (by decide) ⟨rfl, rfl⟩ ?_
    obtain ⟨x2, hx2, h⟩ := hl_bind h
    refine hl_cVi (D := (D + 4)) (z := y15) (n := 1) (av := [.ref 228]) (st := []) d238_20 mlQu_79 rfl (Nat.le_of_ble_eq_true rfl) (Nat.le_of_ble_eq_true rfl) rc3 ((p_Rd_isWord D 28 (by decide) σ hx2).dle (by omega)) ?_
    refine hl_if_eq (tg := 29) d238_23 rfl (fun hc => ?_) (fun hc => ?_)
    · have h := hl_pos hc h
      refine hl_aload_n (i := 0) d238_29 rfl rfl (by decide) ?_
      refine hl_gr d238_30 gQu_19_55 ?_
      refine hl_ldcS (j := 29) d238_33 (by decide) ⟨rfl, rfl⟩ ?_
      obtain ⟨x3, hx3, h⟩ := hl_bind h
      refine hl_cVi (D := (D + 4)) (z := y15) (n := 1) (av := [.ref 229]) (st := []) d238_35 mlQu_79 rfl (Nat.le_of_ble_eq_true rfl) (Nat.le_of_ble_eq_true rfl) rc3 ((p_Rd_isWord D 29 (by decide) σ hx3).dle (by omega)) ?_
      refine hl_if_eq (tg := 44) d238_38 rfl (fun hc => ?_) (fun hc => ?_)
      · have h := hl_pos hc h
        refine hl_aload_n (i := 0) d238_44 rfl rfl (by decide) ?_
        refine hl_gr d238_45 gQu_19_55 ?_
        refine hl_ldcS (j := 30) d238_48 (by decide) ⟨rfl, rfl⟩ ?_
        obtain ⟨x4, hx4, h⟩ := hl_bind h
        refine hl_cVi (D := (D + 4)) (z := y15) (n := 1) (av := [.ref 230]) (st := []) d238_50 mlQu_79 rfl (Nat.le_of_ble_eq_true rfl) (Nat.le_of_ble_eq_true rfl) rc3 ((p_Rd_isWord D 30 (by decide) σ hx4).dle (by omega)) ?_
        refine hl_if_eq (tg := 61) d238_53 rfl (fun hc => ?_) (fun hc => ?_)
        · have h := hl_pos hc h
          refine hl_iconst d238_61 ki0 ?_
          have h := Option.some.inj h
          subst h
          exact hl_iret d238_62 rfl
        · have h := hl_neg hc h
          refine hl_bipush d238_56 kbm4 ?_
          refine hl_goto (tg := 62) d238_58 rfl ?_
          have h := Option.some.inj h
          subst h
          exact hl_iret d238_62 rfl
      · have h := hl_neg hc h
        refine hl_bipush d238_41 kbm3 ?_
        have h := Option.some.inj h
        subst h
        exact hl_iret d238_43 rfl
    · have h := hl_neg hc h
      refine hl_bipush d238_26 kbm2 ?_
      have h := Option.some.inj h
      subst h
      exact hl_iret d238_28 rfl
  · have h := hl_neg hc h
    refine hl_iconst d238_12 kim1 ?_
    have h := Option.some.inj h
    subst h
    exact hl_iret d238_13 rfl
def f_Qu_partOfNumber (σ : hl_M) : Option (Int32) :=
  (f_Rd_isWord 31 σ).bind fun x1 =>
  if x1 = 0 then
  (f_Rd_isWord 32 σ).bind fun x2 =>
  if x2 = 0 then
  (f_Rd_isWord 33 σ).bind fun x3 =>
  if x3 = 0 then
  some 0 else
  some ((-7)) else
  some ((-6)) else
  some ((-5))
set_option maxRecDepth 20000 in
theorem p_Qu_partOfNumber {X : hl_X} (D : Nat) (σ : hl_M) {r : Int32} (h : f_Qu_partOfNumber σ = some r) : hl_R X (D + 5) y239 0 [(0, .ref 55)] [] σ (some (.int r)) σ := by
  unfold f_Qu_partOfNumber at h
  refine hl_aload_n (i := 0) d239_0 rfl rfl (by decide) ?_
  refine hl_gr d239_1 gQu_19_55 ?_
  refine hl_ldcS (j := 31) d239_4 (by decide) ⟨rfl, rfl⟩ ?_
  obtain ⟨x1, hx1, h⟩ := hl_bind h
  refine hl_cVi (D := (D + 4)) (z := y15) (n := 1) (av := [.ref 231]) (st := []) d239_6 mlQu_79 rfl (Nat.le_of_ble_eq_true rfl) (Nat.le_of_ble_eq_true rfl) rc3 ((p_Rd_isWord D 31 (by decide) σ hx1).dle (by omega)) ?_
  refine hl_if_eq (tg := 15) d239_9 rfl (fun hc => ?_) (fun hc => ?_)
  · have h := hl_pos hc h
    refine hl_aload_n (i := 0) d239_15 rfl rfl (by decide) ?_
    refine hl_gr d239_16 gQu_19_55 ?_
    refine hl_ldcS (j := 32) d239_19 (by decide) ⟨rfl, rfl⟩ ?_
    obtain ⟨x2, hx2, h⟩ := hl_bind h
    refine hl_cVi (D := (D + 4)) (z := y15) (n := 1) (av := [.ref 232]) (st := []) d239_21 mlQu_79 rfl (Nat.le_of_ble_eq_true rfl) (Nat.le_of_ble_eq_true rfl) rc3 ((p_Rd_isWord D 32 (by decide) σ hx2).dle (by omega)) ?_
    refine hl_if_eq (tg := 30) d239_24 rfl (fun hc => ?_) (fun hc => ?_)
    · have h := hl_pos hc h
      refine hl_aload_n (i := 0) d239_30 rfl rfl (by decide) ?_
      refine hl_gr d239_31 gQu_19_55 ?_
      refine hl_ldcS (j := 33) d239_34 (by decide) ⟨rfl, rfl⟩ ?_
      obtain ⟨x3, hx3, h⟩ := hl_bind h
      refine hl_cVi (D := (D + 4)) (z := y15) (n := 1) (av := [.ref 233]) (st := []) d239_36 mlQu_79 rfl (Nat.le_of_ble_eq_true rfl) (Nat.le_of_ble_eq_true rfl) rc3 ((p_Rd_isWord D 33 (by decide) σ hx3).dle (by omega)) ?_
      refine hl_if_eq (tg := 47) d239_39 rfl (fun hc => ?_) (fun hc => ?_)
      · have h := hl_pos hc h
        refine hl_iconst d239_47 ki0 ?_
        have h := Option.some.inj h
        subst h
        exact hl_iret d239_48 rfl
      · have h := hl_neg hc h
        refine hl_bipush d239_42 kbm7 ?_
        refine hl_goto (tg := 48) d239_44 rfl ?_
        have h := Option.some.inj h
        subst h
        exact hl_iret d239_48 rfl
    · have h := hl_neg hc h
      refine hl_bipush d239_27 kbm6 ?_
      have h := Option.some.inj h
      subst h
      exact hl_iret d239_29 rfl
  · have h := hl_neg hc h
    refine hl_bipush d239_12 kbm5 ?_
    have h := Option.some.inj h
    subst h
    exact hl_iret d239_14 rfl
def f_Qu_takePart_j183 (rec : Nat → hl_M → Option hl_M) (s0 : Int32) (σ : hl_M) : Option (hl_M) :=
  (f_Rd_advance σ).bind fun x6 =>
  (rec 4 x6).bind fun x7 =>
  (f_Qu_emit s0 x7).bind fun x8 =>
  some x8
def f_Qu_takePart_j164 (rec : Nat → hl_M → Option hl_M) (σ : hl_M) : Option (hl_M) :=
  (f_Rd_isWord 34 σ).bind fun x5 =>
  if x5 = 0 then
  f_Qu_takePart_j183 rec ((-10)) σ else
  f_Qu_takePart_j183 rec ((-9)) σ
def b_Qu_takePart (rec : Nat → hl_M → Option hl_M) (σ : hl_M) : Option (hl_M) :=
  if (σ.1 3 1) = 2 then
  (f_Rd_wantNumber 0 9999 σ).bind fun x20 =>
  (f_Qu_emit x20.1 x20.2).bind fun x21 =>
  some x21 else
  (f_Rd_isSign 40 σ).bind fun x1 =>
  if x1 = 0 then
  (f_Qu_partOfBeat σ).bind fun x2 =>
  if x2 = 0 then
  (f_Qu_partOfNumber σ).bind fun x3 =>
  if x3 = 0 then
  (f_Rd_isWord 34 σ).bind fun x4 =>
  if x4 = 0 then
  (f_Rd_isWord 35 σ).bind fun x9 =>
  if x9 = 0 then
  some (f_Rd_fail 1 (σ.1 3 2) σ) else
  f_Qu_takePart_j164 rec σ else
  f_Qu_takePart_j164 rec σ else
  (f_Qu_partOfNumber σ).bind fun x10 =>
  (f_Qu_opens σ).bind fun x11 =>
  if x11.1 = 0 then
  some x11.2 else
  (rec 3 x11.2).bind fun x12 =>
  (f_Qu_emit x10 (hl_si x12 55 8 ((x12.1 55 8) - 1))).bind fun x13 =>
  some x13 else
  (f_Qu_partOfBeat σ).bind fun x14 =>
  (f_Qu_emit x14 σ).bind fun x15 =>
  (f_Rd_advance x15).bind fun x16 =>
  some x16 else
  (f_Qu_opens σ).bind fun x17 =>
  if x17.1 = 0 then
  some x17.2 else
  (rec 2 x17.2).bind fun x18 =>
  (f_Rd_wantSign 41 x18).bind fun x19 =>
  some (hl_si x19 55 8 ((x19.1 55 8) - 1))
set_option maxRecDepth 20000 in
theorem p_Qu_takePart_j183 {X : hl_X} (D : Nat) (rec : Nat → hl_M → Option hl_M) (hrec : ∀ (k : Nat) (σ τ : hl_M), rec k σ = some τ → hl_RQ X (D + 5) k σ τ) (s0 : Int32) (σ : hl_M) {τ : hl_M} (h : f_Qu_takePart_j183 rec s0 σ = some τ) : hl_R X (D + 6) y236 183 [(0, .ref 55)] [.int s0] σ none τ := by
  unfold f_Qu_takePart_j183 at h
  refine hl_istore_n (i := 1) (ls2 := [(1, .int s0), (0, .ref 55)]) d236_183 rfl (by decide) rfl ?_
  refine hl_aload_n (i := 0) d236_184 rfl rfl (by decide) ?_
  refine hl_gr d236_185 gQu_19_55 ?_
  obtain ⟨x6, hx6, h⟩ := hl_bind h
  refine hl_cVv (D := (D + 5)) (z := y10) (n := 0) (av := []) (st := []) d236_188 mlQu_61 rfl (Nat.le_of_ble_eq_true rfl) (Nat.le_of_ble_eq_true rfl) rc3 ((p_Rd_advance D σ hx6).dle (by omega)) ?_
  refine hl_aload_n (i := 0) d236_191 rfl rfl (by decide) ?_
  obtain ⟨x7, hx7, h⟩ := hl_bind h
  refine hl_cVv (D := (D + 5)) (z := y240) (n := 0) (av := []) (st := []) d236_192 mlQu_146 rfl (Nat.le_of_ble_eq_true rfl) (Nat.le_of_ble_eq_true rfl) rc55 (hrec 4 _ _ hx7) ?_
  refine hl_aload_n (i := 0) d236_195 rfl rfl (by decide) ?_
  refine hl_iload_n (i := 1) d236_196 rfl rfl ?_
  obtain ⟨x8, hx8, h⟩ := hl_bind h
  refine hl_cVv (D := (D + 5)) (z := y232) (n := 1) (av := [.int s0]) (st := []) d236_197 mlQu_104 rfl (Nat.le_of_ble_eq_true rfl) (Nat.le_of_ble_eq_true rfl) rc55 ((p_Qu_emit D s0 x7 hx8).dle (by omega)) ?_
  refine hl_goto (tg := 218) d236_200 rfl ?_
  have h := Option.some.inj h
  subst h
  exact hl_vret d236_218 rfl
set_option maxRecDepth 20000 in
theorem p_Qu_takePart_j164 {X : hl_X} (D : Nat) (rec : Nat → hl_M → Option hl_M) (hrec : ∀ (k : Nat) (σ τ : hl_M), rec k σ = some τ → hl_RQ X (D + 5) k σ τ) (σ : hl_M) {τ : hl_M} (h : f_Qu_takePart_j164 rec σ = some τ) : hl_R X (D + 6) y236 164 [(0, .ref 55)] [] σ none τ := by
  unfold f_Qu_takePart_j164 at h
  refine hl_aload_n (i := 0) d236_164 rfl rfl (by decide) ?_
  refine hl_gr d236_165 gQu_19_55 ?_
  refine hl_ldcS (j := 34) d236_168 (by decide) ⟨rfl, rfl⟩ ?_
  obtain ⟨x5, hx5, h⟩ := hl_bind h
  refine hl_cVi (D := (D + 5)) (z := y15) (n := 1) (av := [.ref 234]) (st := []) d236_170 mlQu_79 rfl (Nat.le_of_ble_eq_true rfl) (Nat.le_of_ble_eq_true rfl) rc3 ((p_Rd_isWord D 34 (by decide) σ hx5).dle (by omega)) ?_
  refine hl_if_eq (tg := 181) d236_173 rfl (fun hc => ?_) (fun hc => ?_)
  · have h := hl_pos hc h
    refine hl_bipush d236_181 kbm10 ?_
    exact hl_loc (p_Qu_takePart_j183 D rec hrec ((-10)) σ h) ⟨rfl, trivial⟩
  · have h := hl_neg hc h
    refine hl_bipush d236_176 kbm9 ?_
    refine hl_goto (tg := 183) d236_178 rfl ?_
    exact hl_loc (p_Qu_takePart_j183 D rec hrec ((-9)) σ h) ⟨rfl, trivial⟩
set_option maxRecDepth 20000 in
theorem pb_Qu_takePart {X : hl_X} (D : Nat) (rec : Nat → hl_M → Option hl_M) (hrec : ∀ (k : Nat) (σ τ : hl_M), rec k σ = some τ → hl_RQ X (D + 5) k σ τ) (σ : hl_M) {τ : hl_M} (h : b_Qu_takePart rec σ = some τ) : hl_R X (D + 6) y236 0 [(0, .ref 55)] [] σ none τ := by
  unfold b_Qu_takePart at h
  refine hl_aload_n (i := 0) d236_0 rfl rfl (by decide) ?_
  refine hl_gr d236_1 gQu_19_55 ?_
  refine hl_gi d236_4 gQu_70_3 ?_
  refine hl_iconst d236_7 ki2 ?_
  refine hl_icmp_ne (tg := 29) d236_8 rfl (fun hc => ?_) (fun hc => ?_)
  · have h := hl_neg hc h
    refine hl_aload_n (i := 0) d236_29 rfl rfl (by decide) ?_
    refine hl_gr d236_30 gQu_19_55 ?_
    refine hl_bipush d236_33 kb40 ?_
    obtain ⟨x1, hx1, h⟩ := hl_bind h
    refine hl_cVi (D := (D + 5)) (z := y32) (n := 1) (av := [.int 40]) (st := []) d236_35 mlQu_113 rfl (Nat.le_of_ble_eq_true rfl) (Nat.le_of_ble_eq_true rfl) rc3 ((p_Rd_isSign D 40 σ hx1).dle (by omega)) ?_
    refine hl_if_eq (tg := 74) d236_38 rfl (fun hc => ?_) (fun hc => ?_)
    · have h := hl_pos hc h
      refine hl_aload_n (i := 0) d236_74 rfl rfl (by decide) ?_
      obtain ⟨x2, hx2, h⟩ := hl_bind h
      refine hl_cVi (D := (D + 5)) (z := y238) (n := 0) (av := []) (st := []) d236_75 mlQu_136 rfl (Nat.le_of_ble_eq_true rfl) (Nat.le_of_ble_eq_true rfl) rc55 ((p_Qu_partOfBeat D σ hx2).dle (by omega)) ?_
      refine hl_if_eq (tg := 99) d236_78 rfl (fun hc => ?_) (fun hc => ?_)
      · have h := hl_pos hc h
        refine hl_aload_n (i := 0) d236_99 rfl rfl (by decide) ?_
        obtain ⟨x3, hx3, h⟩ := hl_bind h
        refine hl_cVi (D := (D + 5)) (z := y239) (n := 0) (av := []) (st := []) d236_100 mlQu_139 rfl (Nat.le_of_ble_eq_true rfl) (Nat.le_of_ble_eq_true rfl) rc55 ((p_Qu_partOfNumber D σ hx3).dle (by omega)) ?_
        refine hl_if_eq (tg := 140) d236_103 rfl (fun hc => ?_) (fun hc => ?_)
        · have h := hl_pos hc h
          refine hl_aload_n (i := 0) d236_140 rfl rfl (by decide) ?_
          refine hl_gr d236_141 gQu_19_55 ?_
          refine hl_ldcS (j := 34) d236_144 (by decide) ⟨rfl, rfl⟩ ?_
          obtain ⟨x4, hx4, h⟩ := hl_bind h
          refine hl_cVi (D := (D + 5)) (z := y15) (n := 1) (av := [.ref 234]) (st := []) d236_146 mlQu_79 rfl (Nat.le_of_ble_eq_true rfl) (Nat.le_of_ble_eq_true rfl) rc3 ((p_Rd_isWord D 34 (by decide) σ hx4).dle (by omega)) ?_
          refine hl_if_ne (tg := 164) d236_149 rfl (fun hc => ?_) (fun hc => ?_)
          · have h := hl_neg hc h
            exact hl_loc (p_Qu_takePart_j164 D rec hrec σ h) ⟨rfl, trivial⟩
          · have h := hl_pos hc h
            refine hl_aload_n (i := 0) d236_152 rfl rfl (by decide) ?_
            refine hl_gr d236_153 gQu_19_55 ?_
            refine hl_ldcS (j := 35) d236_156 (by decide) ⟨rfl, rfl⟩ ?_
            obtain ⟨x9, hx9, h⟩ := hl_bind h
            refine hl_cVi (D := (D + 5)) (z := y15) (n := 1) (av := [.ref 235]) (st := []) d236_158 mlQu_79 rfl (Nat.le_of_ble_eq_true rfl) (Nat.le_of_ble_eq_true rfl) rc3 ((p_Rd_isWord D 35 (by decide) σ hx9).dle (by omega)) ?_
            refine hl_if_eq (tg := 203) d236_161 rfl (fun hc => ?_) (fun hc => ?_)
            · have h := hl_pos hc h
              refine hl_aload_n (i := 0) d236_203 rfl rfl (by decide) ?_
              refine hl_gr d236_204 gQu_19_55 ?_
              refine hl_iconst d236_207 ki1 ?_
              refine hl_aload_n (i := 0) d236_208 rfl rfl (by decide) ?_
              refine hl_gr d236_209 gQu_19_55 ?_
              refine hl_gi d236_212 gQu_54_3 ?_
              refine hl_cVv (D := (D + 5)) (z := y23) (n := 2) (av := [.int 1, .int (σ.1 3 2)]) (st := []) d236_215 mlQu_57 rfl (Nat.le_of_ble_eq_true rfl) (Nat.le_of_ble_eq_true rfl) rc3 ((p_Rd_fail D 1 (σ.1 3 2) σ rfl).dle (by omega)) ?_
              have h := Option.some.inj h
              subst h
              exact hl_vret d236_218 rfl
            · have h := hl_neg hc h
              exact hl_loc (p_Qu_takePart_j164 D rec hrec σ h) ⟨rfl, trivial⟩
        · have h := hl_neg hc h
          refine hl_aload_n (i := 0) d236_106 rfl rfl (by decide) ?_
          obtain ⟨x10, hx10, h⟩ := hl_bind h
          refine hl_cVi (D := (D + 5)) (z := y239) (n := 0) (av := []) (st := []) d236_107 mlQu_139 rfl (Nat.le_of_ble_eq_true rfl) (Nat.le_of_ble_eq_true rfl) rc55 ((p_Qu_partOfNumber D σ hx10).dle (by omega)) ?_
          refine hl_istore_n (i := 1) (ls2 := [(1, .int x10), (0, .ref 55)]) d236_110 rfl (by decide) rfl ?_
          refine hl_aload_n (i := 0) d236_111 rfl rfl (by decide) ?_
          obtain ⟨x11, hx11, h⟩ := hl_bind h
          refine hl_cVi (D := (D + 5)) (z := y235) (n := 0) (av := []) (st := []) d236_112 mlQu_110 rfl (Nat.le_of_ble_eq_true rfl) (Nat.le_of_ble_eq_true rfl) rc55 ((p_Qu_opens D σ hx11).dle (by omega)) ?_
          refine hl_if_eq (tg := 137) d236_115 rfl (fun hc => ?_) (fun hc => ?_)
          · have h := hl_pos hc h
            refine hl_goto (tg := 218) d236_137 rfl ?_
            have h := Option.some.inj h
            subst h
            exact hl_vret d236_218 rfl
          · have h := hl_neg hc h
            refine hl_aload_n (i := 0) d236_118 rfl rfl (by decide) ?_
            obtain ⟨x12, hx12, h⟩ := hl_bind h
            refine hl_cVv (D := (D + 5)) (z := y236) (n := 0) (av := []) (st := []) d236_119 mlQu_126 rfl (Nat.le_of_ble_eq_true rfl) (Nat.le_of_ble_eq_true rfl) rc55 (hrec 3 _ _ hx12) ?_
            refine hl_aload_n (i := 0) d236_122 rfl rfl (by decide) ?_
            refine hl_dup d236_123 rfl ?_
            refine hl_gi d236_124 gQu_39_55 ?_
            refine hl_iconst d236_127 ki1 ?_
            refine hl_isub d236_128 ?_
            refine hl_pi d236_129 qQu_39_55 ?_
            refine hl_aload_n (i := 0) d236_132 rfl rfl (by decide) ?_
            refine hl_iload_n (i := 1) d236_133 rfl rfl ?_
            obtain ⟨x13, hx13, h⟩ := hl_bind h
            refine hl_cVv (D := (D + 5)) (z := y232) (n := 1) (av := [.int x10]) (st := []) d236_134 mlQu_104 rfl (Nat.le_of_ble_eq_true rfl) (Nat.le_of_ble_eq_true rfl) rc55 ((p_Qu_emit D x10 (hl_si x12 55 8 ((x12.1 55 8) - 1)) hx13).dle (by omega)) ?_
            refine hl_goto (tg := 218) d236_137 rfl ?_
            have h := Option.some.inj h
            subst h
            exact hl_vret d236_218 rfl
      · have h := hl_neg hc h
        refine hl_aload_n (i := 0) d236_81 rfl rfl (by decide) ?_
        refine hl_aload_n (i := 0) d236_82 rfl rfl (by decide) ?_
        obtain ⟨x14, hx14, h⟩ := hl_bind h
        refine hl_cVi (D := (D + 5)) (z := y238) (n := 0) (av := []) (st := [.ref 55]) d236_83 mlQu_136 rfl (Nat.le_of_ble_eq_true rfl) (Nat.le_of_ble_eq_true rfl) rc55 ((p_Qu_partOfBeat D σ hx14).dle (by omega)) ?_
        obtain ⟨x15, hx15, h⟩ := hl_bind h
        refine hl_cVv (D := (D + 5)) (z := y232) (n := 1) (av := [.int x14]) (st := []) d236_86 mlQu_104 rfl (Nat.le_of_ble_eq_true rfl) (Nat.le_of_ble_eq_true rfl) rc55 ((p_Qu_emit D x14 σ hx15).dle (by omega)) ?_
        refine hl_aload_n (i := 0) d236_89 rfl rfl (by decide) ?_
        refine hl_gr d236_90 gQu_19_55 ?_
        obtain ⟨x16, hx16, h⟩ := hl_bind h
        refine hl_cVv (D := (D + 5)) (z := y10) (n := 0) (av := []) (st := []) d236_93 mlQu_61 rfl (Nat.le_of_ble_eq_true rfl) (Nat.le_of_ble_eq_true rfl) rc3 ((p_Rd_advance D x15 hx16).dle (by omega)) ?_
        refine hl_goto (tg := 218) d236_96 rfl ?_
        have h := Option.some.inj h
        subst h
        exact hl_vret d236_218 rfl
    · have h := hl_neg hc h
      refine hl_aload_n (i := 0) d236_41 rfl rfl (by decide) ?_
      obtain ⟨x17, hx17, h⟩ := hl_bind h
      refine hl_cVi (D := (D + 5)) (z := y235) (n := 0) (av := []) (st := []) d236_42 mlQu_110 rfl (Nat.le_of_ble_eq_true rfl) (Nat.le_of_ble_eq_true rfl) rc55 ((p_Qu_opens D σ hx17).dle (by omega)) ?_
      refine hl_if_eq (tg := 218) d236_45 rfl (fun hc => ?_) (fun hc => ?_)
      · have h := hl_pos hc h
        have h := Option.some.inj h
        subst h
        exact hl_vret d236_218 rfl
      · have h := hl_neg hc h
        refine hl_aload_n (i := 0) d236_48 rfl rfl (by decide) ?_
        obtain ⟨x18, hx18, h⟩ := hl_bind h
        refine hl_cVv (D := (D + 5)) (z := y233) (n := 0) (av := []) (st := []) d236_49 mlQu_67 rfl (Nat.le_of_ble_eq_true rfl) (Nat.le_of_ble_eq_true rfl) rc55 (hrec 2 _ _ hx18) ?_
        refine hl_aload_n (i := 0) d236_52 rfl rfl (by decide) ?_
        refine hl_gr d236_53 gQu_19_55 ?_
        refine hl_bipush d236_56 kb41 ?_
        obtain ⟨x19, hx19, h⟩ := hl_bind h
        refine hl_cVv (D := (D + 5)) (z := y31) (n := 1) (av := [.int 41]) (st := []) d236_58 mlQu_117 rfl (Nat.le_of_ble_eq_true rfl) (Nat.le_of_ble_eq_true rfl) rc3 ((p_Rd_wantSign D 41 x18 hx19).dle (by omega)) ?_
        refine hl_aload_n (i := 0) d236_61 rfl rfl (by decide) ?_
        refine hl_dup d236_62 rfl ?_
        refine hl_gi d236_63 gQu_39_55 ?_
        refine hl_iconst d236_66 ki1 ?_
        refine hl_isub d236_67 ?_
        refine hl_pi d236_68 qQu_39_55 ?_
        refine hl_goto (tg := 218) d236_71 rfl ?_
        have h := Option.some.inj h
        subst h
        exact hl_vret d236_218 rfl
  · have h := hl_pos hc h
    refine hl_aload_n (i := 0) d236_11 rfl rfl (by decide) ?_
    refine hl_aload_n (i := 0) d236_12 rfl rfl (by decide) ?_
    refine hl_gr d236_13 gQu_19_55 ?_
    refine hl_iconst d236_16 ki0 ?_
    refine hl_sipush d236_17 ks9999 ?_
    obtain ⟨x20, hx20, h⟩ := hl_bind h
    refine hl_cVi (D := (D + 5)) (z := y30) (n := 2) (av := [.int 0, .int 9999]) (st := [.ref 55]) d236_20 mlQu_132 rfl (Nat.le_of_ble_eq_true rfl) (Nat.le_of_ble_eq_true rfl) rc3 ((p_Rd_wantNumber D 0 9999 σ hx20).dle (by omega)) ?_
    obtain ⟨x21, hx21, h⟩ := hl_bind h
    refine hl_cVv (D := (D + 5)) (z := y232) (n := 1) (av := [.int x20.1]) (st := []) d236_23 mlQu_104 rfl (Nat.le_of_ble_eq_true rfl) (Nat.le_of_ble_eq_true rfl) rc55 ((p_Qu_emit D x20.1 x20.2 hx21).dle (by omega)) ?_
    refine hl_goto (tg := 218) d236_26 rfl ?_
    have h := Option.some.inj h
    subst h
    exact hl_vret d236_218 rfl
def b_Qu_takePair (rec : Nat → hl_M → Option hl_M) (σ : hl_M) : Option (hl_M) :=
  (f_Rd_isSign 40 σ).bind fun x1 =>
  if x1 = 0 then
  some (f_Rd_fail 1 (σ.1 3 2) σ) else
  (f_Qu_opens σ).bind fun x2 =>
  if x2.1 = 0 then
  some x2.2 else
  (rec 2 x2.2).bind fun x3 =>
  (f_Rd_wantSign 44 x3).bind fun x4 =>
  (rec 2 x4).bind fun x5 =>
  (f_Rd_wantSign 41 x5).bind fun x6 =>
  some (hl_si x6 55 8 ((x6.1 55 8) - 1))
set_option maxRecDepth 20000 in
theorem pb_Qu_takePair {X : hl_X} (D : Nat) (rec : Nat → hl_M → Option hl_M) (hrec : ∀ (k : Nat) (σ τ : hl_M), rec k σ = some τ → hl_RQ X (D + 5) k σ τ) (σ : hl_M) {τ : hl_M} (h : b_Qu_takePair rec σ = some τ) : hl_R X (D + 6) y240 0 [(0, .ref 55)] [] σ none τ := by
  unfold b_Qu_takePair at h
  refine hl_aload_n (i := 0) d240_0 rfl rfl (by decide) ?_
  refine hl_gr d240_1 gQu_19_55 ?_
  refine hl_bipush d240_4 kb40 ?_
  obtain ⟨x1, hx1, h⟩ := hl_bind h
  refine hl_cVi (D := (D + 5)) (z := y32) (n := 1) (av := [.int 40]) (st := []) d240_6 mlQu_113 rfl (Nat.le_of_ble_eq_true rfl) (Nat.le_of_ble_eq_true rfl) rc3 ((p_Rd_isSign D 40 σ hx1).dle (by omega)) ?_
  refine hl_if_ne (tg := 30) d240_9 rfl (fun hc => ?_) (fun hc => ?_)
  · have h := hl_neg hc h
    refine hl_aload_n (i := 0) d240_30 rfl rfl (by decide) ?_
    obtain ⟨x2, hx2, h⟩ := hl_bind h
    refine hl_cVi (D := (D + 5)) (z := y235) (n := 0) (av := []) (st := []) d240_31 mlQu_110 rfl (Nat.le_of_ble_eq_true rfl) (Nat.le_of_ble_eq_true rfl) rc55 ((p_Qu_opens D σ hx2).dle (by omega)) ?_
    refine hl_if_eq (tg := 73) d240_34 rfl (fun hc => ?_) (fun hc => ?_)
    · have h := hl_pos hc h
      have h := Option.some.inj h
      subst h
      exact hl_vret d240_73 rfl
    · have h := hl_neg hc h
      refine hl_aload_n (i := 0) d240_37 rfl rfl (by decide) ?_
      obtain ⟨x3, hx3, h⟩ := hl_bind h
      refine hl_cVv (D := (D + 5)) (z := y233) (n := 0) (av := []) (st := []) d240_38 mlQu_67 rfl (Nat.le_of_ble_eq_true rfl) (Nat.le_of_ble_eq_true rfl) rc55 (hrec 2 _ _ hx3) ?_
      refine hl_aload_n (i := 0) d240_41 rfl rfl (by decide) ?_
      refine hl_gr d240_42 gQu_19_55 ?_
      refine hl_bipush d240_45 kb44 ?_
      obtain ⟨x4, hx4, h⟩ := hl_bind h
      refine hl_cVv (D := (D + 5)) (z := y31) (n := 1) (av := [.int 44]) (st := []) d240_47 mlQu_117 rfl (Nat.le_of_ble_eq_true rfl) (Nat.le_of_ble_eq_true rfl) rc3 ((p_Rd_wantSign D 44 x3 hx4).dle (by omega)) ?_
      refine hl_aload_n (i := 0) d240_50 rfl rfl (by decide) ?_
      obtain ⟨x5, hx5, h⟩ := hl_bind h
      refine hl_cVv (D := (D + 5)) (z := y233) (n := 0) (av := []) (st := []) d240_51 mlQu_67 rfl (Nat.le_of_ble_eq_true rfl) (Nat.le_of_ble_eq_true rfl) rc55 (hrec 2 _ _ hx5) ?_
      refine hl_aload_n (i := 0) d240_54 rfl rfl (by decide) ?_
      refine hl_gr d240_55 gQu_19_55 ?_
      refine hl_bipush d240_58 kb41 ?_
      obtain ⟨x6, hx6, h⟩ := hl_bind h
      refine hl_cVv (D := (D + 5)) (z := y31) (n := 1) (av := [.int 41]) (st := []) d240_60 mlQu_117 rfl (Nat.le_of_ble_eq_true rfl) (Nat.le_of_ble_eq_true rfl) rc3 ((p_Rd_wantSign D 41 x5 hx6).dle (by omega)) ?_
      refine hl_aload_n (i := 0) d240_63 rfl rfl (by decide) ?_
      refine hl_dup d240_64 rfl ?_
      refine hl_gi d240_65 gQu_39_55 ?_
      refine hl_iconst d240_68 ki1 ?_
      refine hl_isub d240_69 ?_
      refine hl_pi d240_70 qQu_39_55 ?_
      have h := Option.some.inj h
      subst h
      exact hl_vret d240_73 rfl
  · have h := hl_pos hc h
    refine hl_aload_n (i := 0) d240_12 rfl rfl (by decide) ?_
    refine hl_gr d240_13 gQu_19_55 ?_
    refine hl_iconst d240_16 ki1 ?_
    refine hl_aload_n (i := 0) d240_17 rfl rfl (by decide) ?_
    refine hl_gr d240_18 gQu_19_55 ?_
    refine hl_gi d240_21 gQu_54_3 ?_
    refine hl_cVv (D := (D + 5)) (z := y23) (n := 2) (av := [.int 1, .int (σ.1 3 2)]) (st := []) d240_24 mlQu_57 rfl (Nat.le_of_ble_eq_true rfl) (Nat.le_of_ble_eq_true rfl) rc3 ((p_Rd_fail D 1 (σ.1 3 2) σ rfl).dle (by omega)) ?_
    refine hl_goto (tg := 73) d240_27 rfl ?_
    have h := Option.some.inj h
    subst h
    exact hl_vret d240_73 rfl
def f_Qu_take : Nat → Nat → hl_M → Option hl_M
  | 0, _, _ => none
  | N + 1, k, σ => if k = 0 then b_Qu_takeTest (f_Qu_take N) σ else if k = 1 then b_Qu_takeFact (f_Qu_take N) σ else if k = 2 then b_Qu_takeSum (f_Qu_take N) σ else if k = 3 then b_Qu_takePart (f_Qu_take N) σ else if k = 4 then b_Qu_takePair (f_Qu_take N) σ else none
set_option maxRecDepth 20000 in
theorem p_Qu_take {X : hl_X} (D : Nat) : ∀ (N k : Nat) (σ τ : hl_M), f_Qu_take N k σ = some τ → hl_RQ X (D + N + 5) k σ τ := by
  intro N
  induction N with
  | zero => intro k σ τ h; cases h
  | succ N ih =>
    intro k σ τ h
    unfold f_Qu_take at h
    by_cases c0 : k = 0
    · have h := hl_pos c0 h
      subst c0
      exact hl_R.dle (by omega) (pb_Qu_takeTest (D + N) (f_Qu_take N) ih σ h)
    have h := hl_neg c0 h
    by_cases c1 : k = 1
    · have h := hl_pos c1 h
      subst c1
      exact hl_R.dle (by omega) (pb_Qu_takeFact (D + N) (f_Qu_take N) ih σ h)
    have h := hl_neg c1 h
    by_cases c2 : k = 2
    · have h := hl_pos c2 h
      subst c2
      exact hl_R.dle (by omega) (pb_Qu_takeSum (D + N) (f_Qu_take N) ih σ h)
    have h := hl_neg c2 h
    by_cases c3 : k = 3
    · have h := hl_pos c3 h
      subst c3
      exact hl_R.dle (by omega) (pb_Qu_takePart (D + N) (f_Qu_take N) ih σ h)
    have h := hl_neg c3 h
    by_cases c4 : k = 4
    · have h := hl_pos c4 h
      subst c4
      exact hl_R.dle (by omega) (pb_Qu_takePair (D + N) (f_Qu_take N) ih σ h)
    have h := hl_neg c4 h
    cases h
def f_Qu_firstWord (σ : hl_M) : Option (Int32) :=
  (f_Rd_isWord 19 σ).bind fun x1 =>
  if x1 = 0 then
  (f_Rd_isWord 20 σ).bind fun x2 =>
  if x2 = 0 then
  (f_Rd_isWord 21 σ).bind fun x3 =>
  if x3 = 0 then
  (f_Rd_isWord 22 σ).bind fun x4 =>
  if x4 = 0 then
  (f_Rd_isWord 23 σ).bind fun x5 =>
  if x5 = 0 then
  (f_Rd_isWord 24 σ).bind fun x6 =>
  if x6 = 0 then
  some 0 else
  some 6 else
  some 5 else
  some 4 else
  some 3 else
  some 2 else
  some 1
set_option maxRecDepth 20000 in
theorem p_Qu_firstWord {X : hl_X} (D : Nat) (σ : hl_M) {r : Int32} (h : f_Qu_firstWord σ = some r) : hl_R X (D + 5) y241 0 [(0, .ref 55)] [] σ (some (.int r)) σ := by
  unfold f_Qu_firstWord at h
  refine hl_aload_n (i := 0) d241_0 rfl rfl (by decide) ?_
  refine hl_gr d241_1 gQu_19_55 ?_
  refine hl_ldcS (j := 19) d241_4 (by decide) ⟨rfl, rfl⟩ ?_
  obtain ⟨x1, hx1, h⟩ := hl_bind h
  refine hl_cVi (D := (D + 4)) (z := y15) (n := 1) (av := [.ref 219]) (st := []) d241_6 mlQu_79 rfl (Nat.le_of_ble_eq_true rfl) (Nat.le_of_ble_eq_true rfl) rc3 ((p_Rd_isWord D 19 (by decide) σ hx1).dle (by omega)) ?_
  refine hl_if_eq (tg := 14) d241_9 rfl (fun hc => ?_) (fun hc => ?_)
  · have h := hl_pos hc h
    refine hl_aload_n (i := 0) d241_14 rfl rfl (by decide) ?_
    refine hl_gr d241_15 gQu_19_55 ?_
    refine hl_ldcS (j := 20) d241_18 (by decide) ⟨rfl, rfl⟩ ?_
    obtain ⟨x2, hx2, h⟩ := hl_bind h
    refine hl_cVi (D := (D + 4)) (z := y15) (n := 1) (av := [.ref 220]) (st := []) d241_20 mlQu_79 rfl (Nat.le_of_ble_eq_true rfl) (Nat.le_of_ble_eq_true rfl) rc3 ((p_Rd_isWord D 20 (by decide) σ hx2).dle (by omega)) ?_
    refine hl_if_eq (tg := 28) d241_23 rfl (fun hc => ?_) (fun hc => ?_)
    · have h := hl_pos hc h
      refine hl_aload_n (i := 0) d241_28 rfl rfl (by decide) ?_
      refine hl_gr d241_29 gQu_19_55 ?_
      refine hl_ldcS (j := 21) d241_32 (by decide) ⟨rfl, rfl⟩ ?_
      obtain ⟨x3, hx3, h⟩ := hl_bind h
      refine hl_cVi (D := (D + 4)) (z := y15) (n := 1) (av := [.ref 221]) (st := []) d241_34 mlQu_79 rfl (Nat.le_of_ble_eq_true rfl) (Nat.le_of_ble_eq_true rfl) rc3 ((p_Rd_isWord D 21 (by decide) σ hx3).dle (by omega)) ?_
      refine hl_if_eq (tg := 42) d241_37 rfl (fun hc => ?_) (fun hc => ?_)
      · have h := hl_pos hc h
        refine hl_aload_n (i := 0) d241_42 rfl rfl (by decide) ?_
        refine hl_gr d241_43 gQu_19_55 ?_
        refine hl_ldcS (j := 22) d241_46 (by decide) ⟨rfl, rfl⟩ ?_
        obtain ⟨x4, hx4, h⟩ := hl_bind h
        refine hl_cVi (D := (D + 4)) (z := y15) (n := 1) (av := [.ref 222]) (st := []) d241_48 mlQu_79 rfl (Nat.le_of_ble_eq_true rfl) (Nat.le_of_ble_eq_true rfl) rc3 ((p_Rd_isWord D 22 (by decide) σ hx4).dle (by omega)) ?_
        refine hl_if_eq (tg := 56) d241_51 rfl (fun hc => ?_) (fun hc => ?_)
        · have h := hl_pos hc h
          refine hl_aload_n (i := 0) d241_56 rfl rfl (by decide) ?_
          refine hl_gr d241_57 gQu_19_55 ?_
          refine hl_ldcS (j := 23) d241_60 (by decide) ⟨rfl, rfl⟩ ?_
          obtain ⟨x5, hx5, h⟩ := hl_bind h
          refine hl_cVi (D := (D + 4)) (z := y15) (n := 1) (av := [.ref 223]) (st := []) d241_62 mlQu_79 rfl (Nat.le_of_ble_eq_true rfl) (Nat.le_of_ble_eq_true rfl) rc3 ((p_Rd_isWord D 23 (by decide) σ hx5).dle (by omega)) ?_
          refine hl_if_eq (tg := 70) d241_65 rfl (fun hc => ?_) (fun hc => ?_)
          · have h := hl_pos hc h
            refine hl_aload_n (i := 0) d241_70 rfl rfl (by decide) ?_
            refine hl_gr d241_71 gQu_19_55 ?_
            refine hl_ldcS (j := 24) d241_74 (by decide) ⟨rfl, rfl⟩ ?_
            obtain ⟨x6, hx6, h⟩ := hl_bind h
            refine hl_cVi (D := (D + 4)) (z := y15) (n := 1) (av := [.ref 224]) (st := []) d241_76 mlQu_79 rfl (Nat.le_of_ble_eq_true rfl) (Nat.le_of_ble_eq_true rfl) rc3 ((p_Rd_isWord D 24 (by decide) σ hx6).dle (by omega)) ?_
            refine hl_if_eq (tg := 87) d241_79 rfl (fun hc => ?_) (fun hc => ?_)
            · have h := hl_pos hc h
              refine hl_iconst d241_87 ki0 ?_
              have h := Option.some.inj h
              subst h
              exact hl_iret d241_88 rfl
            · have h := hl_neg hc h
              refine hl_bipush d241_82 kb6 ?_
              refine hl_goto (tg := 88) d241_84 rfl ?_
              have h := Option.some.inj h
              subst h
              exact hl_iret d241_88 rfl
          · have h := hl_neg hc h
            refine hl_iconst d241_68 ki5 ?_
            have h := Option.some.inj h
            subst h
            exact hl_iret d241_69 rfl
        · have h := hl_neg hc h
          refine hl_iconst d241_54 ki4 ?_
          have h := Option.some.inj h
          subst h
          exact hl_iret d241_55 rfl
      · have h := hl_neg hc h
        refine hl_iconst d241_40 ki3 ?_
        have h := Option.some.inj h
        subst h
        exact hl_iret d241_41 rfl
    · have h := hl_neg hc h
      refine hl_iconst d241_26 ki2 ?_
      have h := Option.some.inj h
      subst h
      exact hl_iret d241_27 rfl
  · have h := hl_neg hc h
    refine hl_iconst d241_12 ki1 ?_
    have h := Option.some.inj h
    subst h
    exact hl_iret d241_13 rfl
def f_Qu_understand_j98 (σ : hl_M) : Option (Int32 × hl_M) :=
  if (f_Rd_failed σ) = 0 then
  some ((1, σ)) else
  some ((0, σ))
def f_Qu_understand_j73 (σ : hl_M) : Option (Int32 × hl_M) :=
  if (σ.1 3 1) = 0 then
  f_Qu_understand_j98 σ else
  f_Qu_understand_j98 (f_Rd_fail 1 (σ.1 3 2) σ)
def f_Qu_understand_j47 (σ : hl_M) : Option (Int32 × hl_M) :=
  (f_Rd_advance σ).bind fun x3 =>
  if 3 < (x3.1 55 9) then
  (f_Qu_take 40 2 x3).bind fun x4 =>
  f_Qu_understand_j73 x4 else
  (f_Qu_take 40 0 x3).bind fun x5 =>
  f_Qu_understand_j73 x5
def f_Qu_understand (σ : hl_M) : Option (Int32 × hl_M) :=
  (f_Rd_begin (hl_si (hl_si σ 55 6 0) 55 8 0)).bind fun x1 =>
  (f_Qu_firstWord x1).bind fun x2 =>
  if ((hl_si x1 55 9 x2).1 55 9) = 0 then
  f_Qu_understand_j47 (f_Rd_fail 1 ((hl_si x1 55 9 x2).1 3 2) (hl_si x1 55 9 x2)) else
  f_Qu_understand_j47 (hl_si x1 55 9 x2)
set_option maxRecDepth 20000 in
theorem p_Qu_understand_j98 {X : hl_X} (D : Nat) (σ : hl_M) {r : Int32} {τ : hl_M} (h : f_Qu_understand_j98 σ = some (r, τ)) : hl_R X (D + 47) y229 98 [(0, .ref 55)] [] σ (some (.int r)) τ := by
  unfold f_Qu_understand_j98 at h
  refine hl_aload_n (i := 0) d229_98 rfl rfl (by decide) ?_
  refine hl_gr d229_99 gQu_19_55 ?_
  refine hl_cVi (D := (D + 46)) (z := y14) (n := 0) (av := []) (st := []) d229_102 mlQu_73 rfl (Nat.le_of_ble_eq_true rfl) (Nat.le_of_ble_eq_true rfl) rc3 ((p_Rd_failed D σ rfl).dle (by omega)) ?_
  refine hl_if_ne (tg := 112) d229_105 rfl (fun hc => ?_) (fun hc => ?_)
  · have h := hl_neg hc h
    refine hl_iconst d229_112 ki0 ?_
    obtain ⟨e1, e2⟩ := hl_some2 h
    subst e1; subst e2
    exact hl_zret d229_113 rfl (by decide)
  · have h := hl_pos hc h
    refine hl_iconst d229_108 ki1 ?_
    refine hl_goto (tg := 113) d229_109 rfl ?_
    obtain ⟨e1, e2⟩ := hl_some2 h
    subst e1; subst e2
    exact hl_zret d229_113 rfl (by decide)
set_option maxRecDepth 20000 in
theorem p_Qu_understand_j73 {X : hl_X} (D : Nat) (σ : hl_M) {r : Int32} {τ : hl_M} (h : f_Qu_understand_j73 σ = some (r, τ)) : hl_R X (D + 47) y229 73 [(0, .ref 55)] [] σ (some (.int r)) τ := by
  unfold f_Qu_understand_j73 at h
  refine hl_aload_n (i := 0) d229_73 rfl rfl (by decide) ?_
  refine hl_gr d229_74 gQu_19_55 ?_
  refine hl_gi d229_77 gQu_70_3 ?_
  refine hl_if_eq (tg := 98) d229_80 rfl (fun hc => ?_) (fun hc => ?_)
  · have h := hl_pos hc h
    exact hl_loc (p_Qu_understand_j98 D σ h) ⟨rfl, trivial⟩
  · have h := hl_neg hc h
    refine hl_aload_n (i := 0) d229_83 rfl rfl (by decide) ?_
    refine hl_gr d229_84 gQu_19_55 ?_
    refine hl_iconst d229_87 ki1 ?_
    refine hl_aload_n (i := 0) d229_88 rfl rfl (by decide) ?_
    refine hl_gr d229_89 gQu_19_55 ?_
    refine hl_gi d229_92 gQu_54_3 ?_
    refine hl_cVv (D := (D + 46)) (z := y23) (n := 2) (av := [.int 1, .int (σ.1 3 2)]) (st := []) d229_95 mlQu_57 rfl (Nat.le_of_ble_eq_true rfl) (Nat.le_of_ble_eq_true rfl) rc3 ((p_Rd_fail D 1 (σ.1 3 2) σ rfl).dle (by omega)) ?_
    exact hl_loc (p_Qu_understand_j98 D (f_Rd_fail 1 (σ.1 3 2) σ) h) ⟨rfl, trivial⟩
set_option maxRecDepth 20000 in
theorem p_Qu_understand_j47 {X : hl_X} (D : Nat) (σ : hl_M) {r : Int32} {τ : hl_M} (h : f_Qu_understand_j47 σ = some (r, τ)) : hl_R X (D + 47) y229 47 [(0, .ref 55)] [] σ (some (.int r)) τ := by
  unfold f_Qu_understand_j47 at h
  refine hl_aload_n (i := 0) d229_47 rfl rfl (by decide) ?_
  refine hl_gr d229_48 gQu_19_55 ?_
  obtain ⟨x3, hx3, h⟩ := hl_bind h
  refine hl_cVv (D := (D + 46)) (z := y10) (n := 0) (av := []) (st := []) d229_51 mlQu_61 rfl (Nat.le_of_ble_eq_true rfl) (Nat.le_of_ble_eq_true rfl) rc3 ((p_Rd_advance D σ hx3).dle (by omega)) ?_
  refine hl_aload_n (i := 0) d229_54 rfl rfl (by decide) ?_
  refine hl_gi d229_55 gQu_51_55 ?_
  refine hl_iconst d229_58 ki3 ?_
  refine hl_icmp_gt (tg := 69) d229_59 rfl (fun hc => ?_) (fun hc => ?_)
  · have h := hl_pos hc h
    refine hl_aload_n (i := 0) d229_69 rfl rfl (by decide) ?_
    obtain ⟨x4, hx4, h⟩ := hl_bind h
    refine hl_cVv (D := (D + 46)) (z := y233) (n := 0) (av := []) (st := []) d229_70 mlQu_67 rfl (Nat.le_of_ble_eq_true rfl) (Nat.le_of_ble_eq_true rfl) rc55 (hl_R.dle (by omega) (p_Qu_take D 40 2 x3 _ hx4)) ?_
    exact hl_loc (p_Qu_understand_j73 D x4 h) ⟨rfl, trivial⟩
  · have h := hl_neg hc h
    refine hl_aload_n (i := 0) d229_62 rfl rfl (by decide) ?_
    obtain ⟨x5, hx5, h⟩ := hl_bind h
    refine hl_cVv (D := (D + 46)) (z := y230) (n := 0) (av := []) (st := []) d229_63 mlQu_64 rfl (Nat.le_of_ble_eq_true rfl) (Nat.le_of_ble_eq_true rfl) rc55 (hl_R.dle (by omega) (p_Qu_take D 40 0 x3 _ hx5)) ?_
    refine hl_goto (tg := 73) d229_66 rfl ?_
    exact hl_loc (p_Qu_understand_j73 D x5 h) ⟨rfl, trivial⟩
set_option maxRecDepth 20000 in
theorem p_Qu_understand {X : hl_X} (D : Nat) (σ : hl_M) {r : Int32} {τ : hl_M} (h : f_Qu_understand σ = some (r, τ)) : hl_R X (D + 47) y229 0 [(0, .ref 55)] [] σ (some (.int r)) τ := by
  unfold f_Qu_understand at h
  refine hl_aload_n (i := 0) d229_0 rfl rfl (by decide) ?_
  refine hl_iconst d229_1 ki0 ?_
  refine hl_pi d229_2 qQu_35_55 ?_
  refine hl_aload_n (i := 0) d229_5 rfl rfl (by decide) ?_
  refine hl_iconst d229_6 ki0 ?_
  refine hl_pi d229_7 qQu_39_55 ?_
  refine hl_aload_n (i := 0) d229_10 rfl rfl (by decide) ?_
  refine hl_gr d229_11 gQu_19_55 ?_
  obtain ⟨x1, hx1, h⟩ := hl_bind h
  refine hl_cVv (D := (D + 46)) (z := y9) (n := 0) (av := []) (st := []) d229_14 mlQu_42 rfl (Nat.le_of_ble_eq_true rfl) (Nat.le_of_ble_eq_true rfl) rc3 ((p_Rd_begin D (hl_si (hl_si σ 55 6 0) 55 8 0) hx1).dle (by omega)) ?_
  refine hl_aload_n (i := 0) d229_17 rfl rfl (by decide) ?_
  refine hl_aload_n (i := 0) d229_18 rfl rfl (by decide) ?_
  obtain ⟨x2, hx2, h⟩ := hl_bind h
  refine hl_cVi (D := (D + 46)) (z := y241) (n := 0) (av := []) (st := [.ref 55]) d229_19 mlQu_47 rfl (Nat.le_of_ble_eq_true rfl) (Nat.le_of_ble_eq_true rfl) rc55 ((p_Qu_firstWord D x1 hx2).dle (by omega)) ?_
  refine hl_pi d229_22 qQu_51_55 ?_
  refine hl_aload_n (i := 0) d229_25 rfl rfl (by decide) ?_
  refine hl_gi d229_26 gQu_51_55 ?_
  refine hl_if_ne (tg := 47) d229_29 rfl (fun hc => ?_) (fun hc => ?_)
  · have h := hl_neg hc h
    exact hl_loc (p_Qu_understand_j47 D (hl_si x1 55 9 x2) h) ⟨rfl, trivial⟩
  · have h := hl_pos hc h
    refine hl_aload_n (i := 0) d229_32 rfl rfl (by decide) ?_
    refine hl_gr d229_33 gQu_19_55 ?_
    refine hl_iconst d229_36 ki1 ?_
    refine hl_aload_n (i := 0) d229_37 rfl rfl (by decide) ?_
    refine hl_gr d229_38 gQu_19_55 ?_
    refine hl_gi d229_41 gQu_54_3 ?_
    refine hl_cVv (D := (D + 46)) (z := y23) (n := 2) (av := [.int 1, .int ((hl_si x1 55 9 x2).1 3 2)]) (st := []) d229_44 mlQu_57 rfl (Nat.le_of_ble_eq_true rfl) (Nat.le_of_ble_eq_true rfl) rc3 ((p_Rd_fail D 1 ((hl_si x1 55 9 x2).1 3 2) (hl_si x1 55 9 x2) rfl).dle (by omega)) ?_
    exact hl_loc (p_Qu_understand_j47 D (f_Rd_fail 1 ((hl_si x1 55 9 x2).1 3 2) (hl_si x1 55 9 x2)) h) ⟨rfl, trivial⟩
def f_Qu_seen (v1 : Int32) (v2 : Int32) (σ : hl_M) : Option (Int64) :=
  if v1 = (-3) then
  some ((f_Vw_litCells σ).toInt64) else
  if v1 = (-2) then
  (f_Wk_clashIn v2 σ).bind fun x1 =>
  if x1 = ((-1)) then
  some 0 else
  some 1 else
  if v1 = (-1) then
  some v2.toInt64 else
  (f_Vw_wordRead σ).bind fun x2 =>
  some ((x2 + 1).toInt64)
set_option maxRecDepth 20000 in
theorem p_Qu_seen {X : hl_X} (D : Nat) (v1 : Int32) (v2 : Int32) (σ : hl_M) {r : Int64} (h : f_Qu_seen v1 v2 σ = some r) : hl_R X (D + 4) y244 0 [(0, .ref 55), (1, .int v1), (2, .int v2)] [] σ (some (.long r)) σ := by
  unfold f_Qu_seen at h
  refine hl_iload_n (i := 1) d244_0 rfl rfl ?_
  by_cases hc1_m3 : v1 = (-3)
  · have h := hl_pos hc1_m3 h
    refine hl_tabIn (off := 48) (tg := 49) d244_1 (by rw [hc1_m3]; decide) (by rw [hc1_m3]; decide) (by rw [hc1_m3]; rfl) rfl ?_
    refine hl_aload_n (i := 0) d244_49 rfl rfl (by decide) ?_
    refine hl_gr d244_50 gQu_31_55 ?_
    refine hl_cVi (D := (D + 3)) (z := y166) (n := 0) (av := []) (st := []) d244_53 mlQu_208 rfl (Nat.le_of_ble_eq_true rfl) (Nat.le_of_ble_eq_true rfl) rc37 ((p_Vw_litCells D σ rfl).dle (by omega)) ?_
    refine hl_i2l d244_56 ?_
    have h := Option.some.inj h
    subst h
    exact hl_lret d244_57 rfl
  have h := hl_neg hc1_m3 h
  by_cases hc1_m2 : v1 = (-2)
  · have h := hl_pos hc1_m2 h
    refine hl_tabIn (off := 30) (tg := 31) d244_1 (by rw [hc1_m2]; decide) (by rw [hc1_m2]; decide) (by rw [hc1_m2]; rfl) rfl ?_
    refine hl_aload_n (i := 0) d244_31 rfl rfl (by decide) ?_
    refine hl_gr d244_32 gQu_27_55 ?_
    refine hl_iload_n (i := 2) d244_35 rfl rfl ?_
    obtain ⟨x1, hx1, h⟩ := hl_bind h
    refine hl_cVi (D := (D + 3)) (z := y144) (n := 1) (av := [.int v2]) (st := []) d244_36 mlQu_202 rfl (Nat.le_of_ble_eq_true rfl) (Nat.le_of_ble_eq_true rfl) rc25 ((p_Wk_clashIn D v2 σ hx1).dle (by omega)) ?_
    refine hl_iconst d244_39 kim1 ?_
    refine hl_icmp_ne (tg := 47) d244_40 rfl (fun hc => ?_) (fun hc => ?_)
    · have h := hl_neg hc h
      refine hl_lconst (x := 1) d244_47 (by decide) ?_
      have h := Option.some.inj h
      subst h
      exact hl_lret d244_48 rfl
    · have h := hl_pos hc h
      refine hl_lconst (x := 0) d244_43 (by decide) ?_
      refine hl_goto (tg := 48) d244_44 rfl ?_
      have h := Option.some.inj h
      subst h
      exact hl_lret d244_48 rfl
  have h := hl_neg hc1_m2 h
  by_cases hc1_m1 : v1 = (-1)
  · have h := hl_pos hc1_m1 h
    refine hl_tabIn (off := 27) (tg := 28) d244_1 (by rw [hc1_m1]; decide) (by rw [hc1_m1]; decide) (by rw [hc1_m1]; rfl) rfl ?_
    refine hl_iload_n (i := 2) d244_28 rfl rfl ?_
    refine hl_i2l d244_29 ?_
    have h := Option.some.inj h
    subst h
    exact hl_lret d244_30 rfl
  have h := hl_neg hc1_m1 h
  refine hl_tabD (tg := 58) d244_1 (fun k g1 g2 e => by
        rcases (by omega : k = (-3) ∨ k = (-2) ∨ k = (-1)) with rfl | rfl | rfl
        · exact hc1_m3 (Int32.toInt_inj.mp (e.trans (by decide)))
        · exact hc1_m2 (Int32.toInt_inj.mp (e.trans (by decide)))
        · exact hc1_m1 (Int32.toInt_inj.mp (e.trans (by decide)))
      ) rfl ?_
  refine hl_aload_n (i := 0) d244_58 rfl rfl (by decide) ?_
  refine hl_gr d244_59 gQu_31_55 ?_
  obtain ⟨x2, hx2, h⟩ := hl_bind h
  refine hl_cVi (D := (D + 3)) (z := y158) (n := 0) (av := []) (st := []) d244_62 mlQu_211 rfl (Nat.le_of_ble_eq_true rfl) (Nat.le_of_ble_eq_true rfl) rc37 ((p_Vw_wordRead D σ hx2).dle (by omega)) ?_
  refine hl_iconst d244_65 ki1 ?_
  refine hl_iadd d244_66 ?_
  refine hl_i2l d244_67 ?_
  have h := Option.some.inj h
  subst h
  exact hl_lret d244_68 rfl
def f_Qu_push (v1 : Int64) (σ : hl_M) : Option (hl_M) :=
  if (f_X_within (σ.1 55 7) 64) = 0 then
  some σ else
  if hl_b (σ.1 55 7) 64 then
  some (hl_si (hl_sl σ 57 (σ.1 55 7).toNatClampNeg v1) 55 7 (((hl_sl σ 57 (σ.1 55 7).toNatClampNeg v1).1 55 7) + 1)) else none
set_option maxRecDepth 20000 in
theorem p_Qu_push {X : hl_X} (D : Nat) (v1 : Int64) (σ : hl_M) {τ : hl_M} (h : f_Qu_push v1 σ = some τ) : hl_R X (D + 1) y245 0 [(0, .ref 55), (1, .long v1)] [] σ none τ := by
  unfold f_Qu_push at h
  refine hl_aload_n (i := 0) d245_0 rfl rfl (by decide) ?_
  refine hl_gi d245_1 gQu_179_55 ?_
  refine hl_aload_n (i := 0) d245_4 rfl rfl (by decide) ?_
  refine hl_gr d245_5 gQu_15_55 ?_
  refine hl_alenl d245_8 sh57 kn64 ?_
  refine hl_cNi (D := D) (z := y2) (n := 2) (av := [.int (σ.1 55 7), .int 64]) (st := []) d245_9 mlQu_93 rfl (Nat.le_of_ble_eq_true rfl) (Nat.le_of_ble_eq_true rfl) ((p_X_within D (σ.1 55 7) 64 σ rfl).dle (by omega)) ?_
  refine hl_if_eq (tg := 35) d245_12 rfl (fun hc => ?_) (fun hc => ?_)
  · have h := hl_pos hc h
    have h := Option.some.inj h
    subst h
    exact hl_vret d245_35 rfl
  · have h := hl_neg hc h
    refine hl_aload_n (i := 0) d245_15 rfl rfl (by decide) ?_
    refine hl_gr d245_16 gQu_15_55 ?_
    refine hl_aload_n (i := 0) d245_19 rfl rfl (by decide) ?_
    refine hl_gi d245_20 gQu_179_55 ?_
    refine hl_lload_n (i := 1) d245_23 rfl rfl ?_
    obtain ⟨hb, h⟩ := hl_gd h
    refine hl_last (q := 57) d245_24 sh57 (hl_b_in hb) ?_
    refine hl_aload_n (i := 0) d245_25 rfl rfl (by decide) ?_
    refine hl_dup d245_26 rfl ?_
    refine hl_gi d245_27 gQu_179_55 ?_
    refine hl_iconst d245_30 ki1 ?_
    refine hl_iadd d245_31 ?_
    refine hl_pi d245_32 qQu_179_55 ?_
    have h := Option.some.inj h
    subst h
    exact hl_vret d245_35 rfl
def f_Qu_pop (σ : hl_M) : Option (Int64 × hl_M) :=
  if (f_X_within ((σ.1 55 7) - 1) 64) = 0 then
  some ((0, σ)) else
  if hl_b ((hl_si σ 55 7 ((σ.1 55 7) - 1)).1 55 7) 64 then
  some (((hl_si σ 55 7 ((σ.1 55 7) - 1)).2 57 ((hl_si σ 55 7 ((σ.1 55 7) - 1)).1 55 7).toNatClampNeg, hl_si σ 55 7 ((σ.1 55 7) - 1))) else none
set_option maxRecDepth 20000 in
theorem p_Qu_pop {X : hl_X} (D : Nat) (σ : hl_M) {r : Int64} {τ : hl_M} (h : f_Qu_pop σ = some (r, τ)) : hl_R X (D + 1) y246 0 [(0, .ref 55)] [] σ (some (.long r)) τ := by
  unfold f_Qu_pop at h
  refine hl_aload_n (i := 0) d246_0 rfl rfl (by decide) ?_
  refine hl_gi d246_1 gQu_179_55 ?_
  refine hl_iconst d246_4 ki1 ?_
  refine hl_isub d246_5 ?_
  refine hl_aload_n (i := 0) d246_6 rfl rfl (by decide) ?_
  refine hl_gr d246_7 gQu_15_55 ?_
  refine hl_alenl d246_10 sh57 kn64 ?_
  refine hl_cNi (D := D) (z := y2) (n := 2) (av := [.int ((σ.1 55 7) - 1), .int 64]) (st := []) d246_11 mlQu_93 rfl (Nat.le_of_ble_eq_true rfl) (Nat.le_of_ble_eq_true rfl) ((p_X_within D ((σ.1 55 7) - 1) 64 σ rfl).dle (by omega)) ?_
  refine hl_if_ne (tg := 19) d246_14 rfl (fun hc => ?_) (fun hc => ?_)
  · have h := hl_neg hc h
    refine hl_aload_n (i := 0) d246_19 rfl rfl (by decide) ?_
    refine hl_dup d246_20 rfl ?_
    refine hl_gi d246_21 gQu_179_55 ?_
    refine hl_iconst d246_24 ki1 ?_
    refine hl_isub d246_25 ?_
    refine hl_pi d246_26 qQu_179_55 ?_
    refine hl_aload_n (i := 0) d246_29 rfl rfl (by decide) ?_
    refine hl_gr d246_30 gQu_15_55 ?_
    refine hl_aload_n (i := 0) d246_33 rfl rfl (by decide) ?_
    refine hl_gi d246_34 gQu_179_55 ?_
    obtain ⟨hb, h⟩ := hl_gd h
    refine hl_lald d246_37 sh57 (hl_b_in hb) ?_
    obtain ⟨e1, e2⟩ := hl_some2 h
    subst e1; subst e2
    exact hl_lret d246_38 rfl
  · have h := hl_pos hc h
    refine hl_lconst (x := 0) d246_17 (by decide) ?_
    obtain ⟨e1, e2⟩ := hl_some2 h
    subst e1; subst e2
    exact hl_lret d246_18 rfl
def f_Math_min_JJJ (v0 : Int64) (v2 : Int64) : Int64 :=
  if v2 < v0 then
  v2 else
  v0
set_option maxRecDepth 20000 in
theorem p_Math_min_JJJ {X : hl_X} (D : Nat) (v0 : Int64) (v2 : Int64) (σ : hl_M) {r : Int64} (h : f_Math_min_JJJ v0 v2 = r) : hl_R X D y248 0 [(0, .long v0), (2, .long v2)] [] σ (some (.long r)) σ := by
  unfold f_Math_min_JJJ at h
  refine hl_lload_n (i := 0) d248_0 rfl rfl ?_
  refine hl_lload_n (i := 2) d248_1 rfl rfl ?_
  refine hl_lc_gt (tg := 10) d248_2 d248_3 rfl (fun hc => ?_) (fun hc => ?_)
  · have h := hl_pos hc h
    refine hl_lload_n (i := 2) d248_10 rfl rfl ?_
    subst h
    exact hl_lret d248_11 rfl
  · have h := hl_neg hc h
    refine hl_lload_n (i := 0) d248_6 rfl rfl ?_
    refine hl_goto (tg := 11) d248_7 rfl ?_
    subst h
    exact hl_lret d248_11 rfl
def f_Math_max_JJJ (v0 : Int64) (v2 : Int64) : Int64 :=
  if v0 < v2 then
  v2 else
  v0
set_option maxRecDepth 20000 in
theorem p_Math_max_JJJ {X : hl_X} (D : Nat) (v0 : Int64) (v2 : Int64) (σ : hl_M) {r : Int64} (h : f_Math_max_JJJ v0 v2 = r) : hl_R X D y249 0 [(0, .long v0), (2, .long v2)] [] σ (some (.long r)) σ := by
  unfold f_Math_max_JJJ at h
  refine hl_lload_n (i := 0) d249_0 rfl rfl ?_
  refine hl_lload_n (i := 2) d249_1 rfl rfl ?_
  refine hl_lc_lt (tg := 10) d249_2 d249_3 rfl (fun hc => ?_) (fun hc => ?_)
  · have h := hl_pos hc h
    refine hl_lload_n (i := 2) d249_10 rfl rfl ?_
    subst h
    exact hl_lret d249_11 rfl
  · have h := hl_neg hc h
    refine hl_lload_n (i := 0) d249_6 rfl rfl ?_
    refine hl_goto (tg := 11) d249_7 rfl ?_
    subst h
    exact hl_lret d249_11 rfl
def f_Qu_found (v1 : Int32) (v2 : Int64) (v4 : Int32) (σ : hl_M) : Option (Int64) :=
  if v1 = (-7) then
  some ((f_Vw_lampOn ((f_Math_max_JJJ ((-1)) (f_Math_min_JJJ v2 1000000)).toInt32) σ).toInt64) else
  if v1 = (-6) then
  if (f_X_within ((f_Math_max_JJJ ((-1)) (f_Math_min_JJJ v2 1000000)).toInt32) (σ.1 4 8)) = 0 then
  some 99 else
  (f_Vw_farFrom ((f_Math_max_JJJ ((-1)) (f_Math_min_JJJ v2 1000000)).toInt32) σ).bind fun x1 =>
  some x1.toInt64 else
  if v1 = (-5) then
  if (f_X_within ((f_Math_max_JJJ ((-1)) (f_Math_min_JJJ v2 1000000)).toInt32) (σ.1 4 3)) = 0 then
  some 99 else
  (f_Wk_cellOf ((f_Math_max_JJJ ((-1)) (f_Math_min_JJJ v2 1000000)).toInt32) v4 σ).bind fun x2 =>
  some x2.toInt64 else
  if v2 = 0 then
  some 1 else
  some 0
set_option maxRecDepth 20000 in
theorem p_Qu_found {X : hl_X} (D : Nat) (v1 : Int32) (v2 : Int64) (v4 : Int32) (σ : hl_M) {r : Int64} (h : f_Qu_found v1 v2 v4 σ = some r) : hl_R X (D + 2) y247 0 [(0, .ref 55), (1, .int v1), (2, .long v2), (4, .int v4)] [] σ (some (.long r)) σ := by
  unfold f_Qu_found at h
  refine hl_ldc2 d247_0 wlQu_214 ?_
  refine hl_lload_n (i := 2) d247_3 rfl rfl ?_
  refine hl_ldc2 d247_4 wlQu_216 ?_
  refine hl_cSl (D := (D + 1)) (z := y248) (n := 2) (av := [.long v2, .long 1000000]) (st := [.long ((-1))]) d247_7 mlQu_172 rfl (Nat.le_of_ble_eq_true rfl) (Nat.le_of_ble_eq_true rfl) ((p_Math_min_JJJ D v2 1000000 σ rfl).dle (by omega)) ?_
  refine hl_cSl (D := (D + 1)) (z := y249) (n := 2) (av := [.long ((-1)), .long (f_Math_min_JJJ v2 1000000)]) (st := []) d247_10 mlQu_167 rfl (Nat.le_of_ble_eq_true rfl) (Nat.le_of_ble_eq_true rfl) ((p_Math_max_JJJ D ((-1)) (f_Math_min_JJJ v2 1000000) σ rfl).dle (by omega)) ?_
  refine hl_l2i d247_13 ?_
  refine hl_istore (ls2 := [(5, .int ((f_Math_max_JJJ ((-1)) (f_Math_min_JJJ v2 1000000)).toInt32)), (0, .ref 55), (1, .int v1), (2, .long v2), (4, .int v4)]) d247_14 (by decide) rfl ?_
  refine hl_iload_n (i := 1) d247_16 rfl rfl ?_
  by_cases hc17_m7 : v1 = (-7)
  · have h := hl_pos hc17_m7 h
    refine hl_tabIn (off := 93) (tg := 110) d247_17 (by rw [hc17_m7]; decide) (by rw [hc17_m7]; decide) (by rw [hc17_m7]; rfl) rfl ?_
    refine hl_aload_n (i := 0) d247_110 rfl rfl (by decide) ?_
    refine hl_gr d247_111 gQu_31_55 ?_
    refine hl_iload d247_114 rfl ?_
    refine hl_cVi (D := (D + 1)) (z := y141) (n := 1) (av := [.int ((f_Math_max_JJJ ((-1)) (f_Math_min_JJJ v2 1000000)).toInt32)]) (st := []) d247_116 mlQu_234 rfl (Nat.le_of_ble_eq_true rfl) (Nat.le_of_ble_eq_true rfl) rc37 ((p_Vw_lampOn D ((f_Math_max_JJJ ((-1)) (f_Math_min_JJJ v2 1000000)).toInt32) σ rfl).dle (by omega)) ?_
    refine hl_i2l d247_119 ?_
    have h := Option.some.inj h
    subst h
    exact hl_lret d247_120 rfl
  have h := hl_neg hc17_m7 h
  by_cases hc17_m6 : v1 = (-6)
  · have h := hl_pos hc17_m6 h
    refine hl_tabIn (off := 61) (tg := 78) d247_17 (by rw [hc17_m6]; decide) (by rw [hc17_m6]; decide) (by rw [hc17_m6]; rfl) rfl ?_
    refine hl_iload d247_78 rfl ?_
    refine hl_aload_n (i := 0) d247_80 rfl rfl (by decide) ?_
    refine hl_gr d247_81 gQu_23_55 ?_
    refine hl_gi d247_84 gQu_228_4 ?_
    refine hl_cNi (D := (D + 1)) (z := y2) (n := 2) (av := [.int ((f_Math_max_JJJ ((-1)) (f_Math_min_JJJ v2 1000000)).toInt32), .int (σ.1 4 8)]) (st := []) d247_87 mlQu_93 rfl (Nat.le_of_ble_eq_true rfl) (Nat.le_of_ble_eq_true rfl) ((p_X_within D ((f_Math_max_JJJ ((-1)) (f_Math_min_JJJ v2 1000000)).toInt32) (σ.1 4 8) σ rfl).dle (by omega)) ?_
    refine hl_if_eq (tg := 106) d247_90 rfl (fun hc => ?_) (fun hc => ?_)
    · have h := hl_pos hc h
      refine hl_ldc2 d247_106 wlQu_226 ?_
      have h := Option.some.inj h
      subst h
      exact hl_lret d247_109 rfl
    · have h := hl_neg hc h
      refine hl_aload_n (i := 0) d247_93 rfl rfl (by decide) ?_
      refine hl_gr d247_94 gQu_31_55 ?_
      refine hl_iload d247_97 rfl ?_
      obtain ⟨x1, hx1, h⟩ := hl_bind h
      refine hl_cVi (D := (D + 1)) (z := y106) (n := 1) (av := [.int ((f_Math_max_JJJ ((-1)) (f_Math_min_JJJ v2 1000000)).toInt32)]) (st := []) d247_99 mlQu_231 rfl (Nat.le_of_ble_eq_true rfl) (Nat.le_of_ble_eq_true rfl) rc37 ((p_Vw_farFrom D ((f_Math_max_JJJ ((-1)) (f_Math_min_JJJ v2 1000000)).toInt32) σ hx1).dle (by omega)) ?_
      refine hl_i2l d247_102 ?_
      refine hl_goto (tg := 109) d247_103 rfl ?_
      have h := Option.some.inj h
      subst h
      exact hl_lret d247_109 rfl
  have h := hl_neg hc17_m6 h
  by_cases hc17_m5 : v1 = (-5)
  · have h := hl_pos hc17_m5 h
    refine hl_tabIn (off := 27) (tg := 44) d247_17 (by rw [hc17_m5]; decide) (by rw [hc17_m5]; decide) (by rw [hc17_m5]; rfl) rfl ?_
    refine hl_iload d247_44 rfl ?_
    refine hl_aload_n (i := 0) d247_46 rfl rfl (by decide) ?_
    refine hl_gr d247_47 gQu_23_55 ?_
    refine hl_gi d247_50 gQu_218_4 ?_
    refine hl_cNi (D := (D + 1)) (z := y2) (n := 2) (av := [.int ((f_Math_max_JJJ ((-1)) (f_Math_min_JJJ v2 1000000)).toInt32), .int (σ.1 4 3)]) (st := []) d247_53 mlQu_93 rfl (Nat.le_of_ble_eq_true rfl) (Nat.le_of_ble_eq_true rfl) ((p_X_within D ((f_Math_max_JJJ ((-1)) (f_Math_min_JJJ v2 1000000)).toInt32) (σ.1 4 3) σ rfl).dle (by omega)) ?_
    refine hl_if_eq (tg := 74) d247_56 rfl (fun hc => ?_) (fun hc => ?_)
    · have h := hl_pos hc h
      refine hl_ldc2 d247_74 wlQu_226 ?_
      have h := Option.some.inj h
      subst h
      exact hl_lret d247_77 rfl
    · have h := hl_neg hc h
      refine hl_aload_n (i := 0) d247_59 rfl rfl (by decide) ?_
      refine hl_gr d247_60 gQu_27_55 ?_
      refine hl_iload d247_63 rfl ?_
      refine hl_iload d247_65 rfl ?_
      obtain ⟨x2, hx2, h⟩ := hl_bind h
      refine hl_cVi (D := (D + 1)) (z := y104) (n := 2) (av := [.int ((f_Math_max_JJJ ((-1)) (f_Math_min_JJJ v2 1000000)).toInt32), .int v4]) (st := []) d247_67 mlQu_223 rfl (Nat.le_of_ble_eq_true rfl) (Nat.le_of_ble_eq_true rfl) rc25 ((p_Wk_cellOf D ((f_Math_max_JJJ ((-1)) (f_Math_min_JJJ v2 1000000)).toInt32) v4 σ hx2).dle (by omega)) ?_
      refine hl_i2l d247_70 ?_
      refine hl_goto (tg := 77) d247_71 rfl ?_
      have h := Option.some.inj h
      subst h
      exact hl_lret d247_77 rfl
  have h := hl_neg hc17_m5 h
  refine hl_tabD (tg := 121) d247_17 (fun k g1 g2 e => by
        rcases (by omega : k = (-7) ∨ k = (-6) ∨ k = (-5)) with rfl | rfl | rfl
        · exact hc17_m7 (Int32.toInt_inj.mp (e.trans (by decide)))
        · exact hc17_m6 (Int32.toInt_inj.mp (e.trans (by decide)))
        · exact hc17_m5 (Int32.toInt_inj.mp (e.trans (by decide)))
      ) rfl ?_
  refine hl_lload_n (i := 2) d247_121 rfl rfl ?_
  refine hl_lconst (x := 0) d247_122 (by decide) ?_
  refine hl_lc_ne (tg := 131) d247_123 d247_124 rfl (fun hc => ?_) (fun hc => ?_)
  · have h := hl_neg hc h
    refine hl_lconst (x := 0) d247_131 (by decide) ?_
    have h := Option.some.inj h
    subst h
    exact hl_lret d247_132 rfl
  · have h := hl_pos hc h
    refine hl_lconst (x := 1) d247_127 (by decide) ?_
    refine hl_goto (tg := 132) d247_128 rfl ?_
    have h := Option.some.inj h
    subst h
    exact hl_lret d247_132 rfl
def f_Math_floorDiv (v0 : Int64) (v2 : Int64) : Option (Int64) :=
  if v2 = 0 then none else
  if 0 ≤ (v0 ^^^ v2) then
  some (v0 / v2) else
  if ((v0 / v2) * v2) = v0 then
  some (v0 / v2) else
  some ((v0 / v2) - 1)
set_option maxRecDepth 20000 in
theorem p_Math_floorDiv {X : hl_X} (D : Nat) (v0 : Int64) (v2 : Int64) (σ : hl_M) {r : Int64} (h : f_Math_floorDiv v0 v2 = some r) : hl_R X D y251 0 [(0, .long v0), (2, .long v2)] [] σ (some (.long r)) σ := by
  unfold f_Math_floorDiv at h
  refine hl_lload_n (i := 0) d251_0 rfl rfl ?_
  refine hl_lload_n (i := 2) d251_1 rfl rfl ?_
  obtain ⟨hb, h⟩ := hl_gn h
  refine hl_ldiv d251_2 hb ?_
  refine hl_lstore (ls2 := [(4, .long (v0 / v2)), (0, .long v0), (2, .long v2)]) d251_3 (by decide) rfl ?_
  refine hl_lload_n (i := 0) d251_5 rfl rfl ?_
  refine hl_lload_n (i := 2) d251_6 rfl rfl ?_
  refine hl_lxor d251_7 ?_
  refine hl_lconst (x := 0) d251_8 (by decide) ?_
  refine hl_lc_ge (tg := 27) d251_9 d251_10 rfl (fun hc => ?_) (fun hc => ?_)
  · have h := hl_pos hc h
    refine hl_lload d251_27 rfl ?_
    have h := Option.some.inj h
    subst h
    exact hl_lret d251_29 rfl
  · have h := hl_neg hc h
    refine hl_lload d251_13 rfl ?_
    refine hl_lload_n (i := 2) d251_15 rfl rfl ?_
    refine hl_lmul d251_16 ?_
    refine hl_lload_n (i := 0) d251_17 rfl rfl ?_
    refine hl_lc_eq (tg := 27) d251_18 d251_19 rfl (fun hc => ?_) (fun hc => ?_)
    · have h := hl_pos hc h
      refine hl_lload d251_27 rfl ?_
      have h := Option.some.inj h
      subst h
      exact hl_lret d251_29 rfl
    · have h := hl_neg hc h
      refine hl_lload d251_22 rfl ?_
      refine hl_lconst (x := 1) d251_24 (by decide) ?_
      refine hl_lsub d251_25 ?_
      have h := Option.some.inj h
      subst h
      exact hl_lret d251_26 rfl
def f_Qu_held (v0 : Int64) : Int64 :=
  f_Math_max_JJJ ((-1000000)) (f_Math_min_JJJ 1000000 v0)
set_option maxRecDepth 20000 in
theorem p_Qu_held {X : hl_X} (D : Nat) (v0 : Int64) (σ : hl_M) {r : Int64} (h : f_Qu_held v0 = r) : hl_R X (D + 1) y252 0 [(0, .long v0)] [] σ (some (.long r)) σ := by
  unfold f_Qu_held at h
  refine hl_ldc2 d252_0 wlQu_244 ?_
  refine hl_ldc2 d252_3 wlQu_216 ?_
  refine hl_lload_n (i := 0) d252_6 rfl rfl ?_
  refine hl_cSl (D := D) (z := y248) (n := 2) (av := [.long 1000000, .long v0]) (st := [.long ((-1000000))]) d252_7 mlQu_172 rfl (Nat.le_of_ble_eq_true rfl) (Nat.le_of_ble_eq_true rfl) ((p_Math_min_JJJ D 1000000 v0 σ rfl).dle (by omega)) ?_
  refine hl_cSl (D := D) (z := y249) (n := 2) (av := [.long ((-1000000)), .long (f_Math_min_JJJ 1000000 v0)]) (st := []) d252_10 mlQu_167 rfl (Nat.le_of_ble_eq_true rfl) (Nat.le_of_ble_eq_true rfl) ((p_Math_max_JJJ D ((-1000000)) (f_Math_min_JJJ 1000000 v0) σ rfl).dle (by omega)) ?_
  subst h
  exact hl_lret d252_13 rfl
