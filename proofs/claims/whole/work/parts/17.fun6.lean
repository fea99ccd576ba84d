def f_Pt_choose_L17 (v2 : Int32) (s : Int32 × Int32 × Int32 × hl_M) : Option ((Int32 × Int32 × Int32 × hl_M) ⊕ (Int32 × hl_M)) :=
  if (s.2.2.2.1 38 4) ≤ s.2.2.1 then
  some (.inr (((s.1, s.2.2.2)))) else
  if s.2.1 = 0 then
  if (s.1 ||| ((1 : Int32) <<< (s.2.2.1 &&& 31))) = s.1 then
  some (.inl ((s.1, s.2.1, s.2.2.1 + 1, s.2.2.2))) else
  if hl_b v2 8 then
  if (hl_shp (43 + 1 + v2.toNatClampNeg)).1 = 100 ∧ hl_b s.2.2.1 (hl_shp (43 + 1 + v2.toNatClampNeg)).2 then
  if hl_b (s.1 ||| ((1 : Int32) <<< (s.2.2.1 &&& 31))) 256 then
  if hl_b s.1 256 then
  if ((s.2.2.2.1 (43 + 1 + v2.toNatClampNeg) s.2.2.1.toNatClampNeg) + (s.2.2.2.1 52 (s.1 ||| ((1 : Int32) <<< (s.2.2.1 &&& 31))).toNatClampNeg)) = (s.2.2.2.1 52 s.1.toNatClampNeg) then
  if hl_b s.2.2.1 8 then
  if hl_b v2 8 then
  some (.inl ((s.1 ||| ((1 : Int32) <<< (s.2.2.1 &&& 31)), 1, s.2.2.1 + 1, hl_si s.2.2.2 54 v2.toNatClampNeg (s.2.2.2.1 42 s.2.2.1.toNatClampNeg)))) else none else none else
  some (.inl ((s.1, s.2.1, s.2.2.1 + 1, s.2.2.2))) else none else none else none else none else
  some (.inr (((s.1, s.2.2.2))))
def f_Pt_choose_L4 (s : Int32 × Int32 × hl_M) : Option ((Int32 × Int32 × hl_M) ⊕ (hl_M)) :=
  if (s.2.2.1 38 4) ≤ s.2.1 then
  some (.inr s.2.2) else
  (hl_lp (f_Pt_choose_L17 s.2.1) hl_big ((s.1, 0, 0, s.2.2))).bind fun x1 =>
  some (.inl ((x1.1, s.2.1 + 1, x1.2)))
def f_Pt_choose (σ : hl_M) : Option (hl_M) :=
  (hl_lp (f_Pt_choose_L4) hl_big ((0, 0, σ))).bind fun x2 =>
  some x2
set_option maxRecDepth 20000 in
theorem p_Pt_choose_L17 {X : hl_X} (D : Nat) (v2 : Int32) (s : Int32 × Int32 × Int32 × hl_M) {o : (Int32 × Int32 × Int32 × hl_M) ⊕ (Int32 × hl_M)} {v : Option Value} {τ : hl_M} (h : f_Pt_choose_L17 v2 s = some o) (k1 : ∀ (c0 : Int32) (c1 : Int32) (c2 : Int32) (c3 : hl_M), o = .inl ((c0, c1, c2, c3)) → hl_R X D y182 17 [(0, .ref 38), (1, .int c0), (2, .int v2), (3, .int c1), (4, .int c2)] [] c3 v τ) (k2 : ∀ (a0 : Int32) (a1 : hl_M), o = .inr ((a0, a1)) → hl_R X D y182 94 [(0, .ref 38), (1, .int a0), (2, .int v2)] [] a1 v τ) : hl_R X D y182 17 [(0, .ref 38), (1, .int s.1), (2, .int v2), (3, .int s.2.1), (4, .int s.2.2.1)] [] s.2.2.2 v τ := by
  unfold f_Pt_choose_L17 at h
  refine hl_iload d182_17 rfl ?_
  refine hl_aload_n (i := 0) d182_19 rfl rfl (by decide) ?_
  refine hl_gi d182_20 gPt_71_38 ?_
  refine hl_icmp_ge (tg := 94) d182_23 rfl (fun hc => ?_) (fun hc => ?_)
  · have h := hl_pos hc h
    have h := Option.some.inj h
    subst h
    exact hl_loc (k2 s.1 s.2.2.2 rfl) ⟨rfl, rfl, rfl, trivial⟩
  · have h := hl_neg hc h
    refine hl_iload_n (i := 3) d182_26 rfl rfl ?_
    refine hl_if_ne (tg := 94) d182_27 rfl (fun hc => ?_) (fun hc => ?_)
    · have h := hl_neg hc h
      have h := Option.some.inj h
      subst h
      exact hl_loc (k2 s.1 s.2.2.2 rfl) ⟨rfl, rfl, rfl, trivial⟩
    · have h := hl_pos hc h
      refine hl_iload_n (i := 1) d182_30 rfl rfl ?_
      refine hl_iconst d182_31 ki1 ?_
      refine hl_iload d182_32 rfl ?_
      refine hl_ishl d182_34 ?_
      refine hl_ior d182_35 ?_
      refine hl_istore (ls2 := [(5, .int (s.1 ||| ((1 : Int32) <<< (s.2.2.1 &&& 31)))), (0, .ref 38), (1, .int s.1), (2, .int v2), (3, .int s.2.1), (4, .int s.2.2.1)]) d182_36 (by decide) rfl ?_
      refine hl_iload d182_38 rfl ?_
      refine hl_iload_n (i := 1) d182_40 rfl rfl ?_
      refine hl_icmp_eq (tg := 88) d182_41 rfl (fun hc => ?_) (fun hc => ?_)
      · have h := hl_pos hc h
        refine hl_iinc (ls2 := [(4, .int (s.2.2.1 + 1)), (5, .int (s.1 ||| ((1 : Int32) <<< (s.2.2.1 &&& 31)))), (0, .ref 38), (1, .int s.1), (2, .int v2), (3, .int s.2.1)]) d182_88 rfl kx1 (by decide) rfl ?_
        refine hl_goto (tg := 17) d182_91 rfl ?_
        have h := Option.some.inj h
        subst h
        exact hl_loc (k1 s.1 s.2.1 (s.2.2.1 + 1) s.2.2.2 rfl) ⟨rfl, rfl, rfl, rfl, rfl, trivial⟩
      · have h := hl_neg hc h
        refine hl_aload_n (i := 0) d182_44 rfl rfl (by decide) ?_
        refine hl_gr d182_45 gPt_26_38 ?_
        refine hl_iload_n (i := 2) d182_48 rfl rfl ?_
        obtain ⟨hb, h⟩ := hl_gd h
        refine hl_aald d182_49 sh43 (hl_b_in hb) (by decide) ?_
        have hq49 := hl_row9 (q := 43) hb (by decide)
        refine hl_iload d182_50 rfl ?_
        obtain ⟨hb, h⟩ := hl_gd h
        refine hl_iald (q := (43 + 1 + v2.toNatClampNeg)) d182_52 (hl_shx hb.1) (hl_b_in hb.2) ?_
        refine hl_aload_n (i := 0) d182_53 rfl rfl (by decide) ?_
        refine hl_gr d182_54 gPt_29_38 ?_
        refine hl_iload d182_57 rfl ?_
        obtain ⟨hb, h⟩ := hl_gd h
        refine hl_iald d182_59 sh52 (hl_b_in hb) ?_
        refine hl_iadd d182_60 ?_
        refine hl_aload_n (i := 0) d182_61 rfl rfl (by decide) ?_
        refine hl_gr d182_62 gPt_29_38 ?_
        refine hl_iload_n (i := 1) d182_65 rfl rfl ?_
        obtain ⟨hb, h⟩ := hl_gd h
        refine hl_iald d182_66 sh52 (hl_b_in hb) ?_
        refine hl_icmp_ne (tg := 88) d182_67 rfl (fun hc => ?_) (fun hc => ?_)
        · have h := hl_neg hc h
          refine hl_iinc (ls2 := [(4, .int (s.2.2.1 + 1)), (5, .int (s.1 ||| ((1 : Int32) <<< (s.2.2.1 &&& 31)))), (0, .ref 38), (1, .int s.1), (2, .int v2), (3, .int s.2.1)]) d182_88 rfl kx1 (by decide) rfl ?_
          refine hl_goto (tg := 17) d182_91 rfl ?_
          have h := Option.some.inj h
          subst h
          exact hl_loc (k1 s.1 s.2.1 (s.2.2.1 + 1) s.2.2.2 rfl) ⟨rfl, rfl, rfl, rfl, rfl, trivial⟩
        · have h := hl_pos hc h
          refine hl_aload_n (i := 0) d182_70 rfl rfl (by decide) ?_
          refine hl_gr d182_71 gPt_35_38 ?_
          refine hl_iload_n (i := 2) d182_74 rfl rfl ?_
          refine hl_aload_n (i := 0) d182_75 rfl rfl (by decide) ?_
          refine hl_gr d182_76 gPt_21_38 ?_
          refine hl_iload d182_79 rfl ?_
          obtain ⟨hb, h⟩ := hl_gd h
          refine hl_iald d182_81 sh42 (hl_b_in hb) ?_
          obtain ⟨hb, h⟩ := hl_gd h
          refine hl_iast (q := 54) d182_82 sh54 (hl_b_in hb) ?_
          refine hl_iload d182_83 rfl ?_
          refine hl_istore_n (i := 1) (ls2 := [(1, .int (s.1 ||| ((1 : Int32) <<< (s.2.2.1 &&& 31)))), (5, .int (s.1 ||| ((1 : Int32) <<< (s.2.2.1 &&& 31)))), (0, .ref 38), (2, .int v2), (3, .int s.2.1), (4, .int s.2.2.1)]) d182_85 rfl (by decide) rfl ?_
          refine hl_iconst d182_86 ki1 ?_
          refine hl_istore_n (i := 3) (ls2 := [(3, .int 1), (1, .int (s.1 ||| ((1 : Int32) <<< (s.2.2.1 &&& 31)))), (5, .int (s.1 ||| ((1 : Int32) <<< (s.2.2.1 &&& 31)))), (0, .ref 38), (2, .int v2), (4, .int s.2.2.1)]) d182_87 rfl (by decide) rfl ?_
          refine hl_iinc (ls2 := [(4, .int (s.2.2.1 + 1)), (3, .int 1), (1, .int (s.1 ||| ((1 : Int32) <<< (s.2.2.1 &&& 31)))), (5, .int (s.1 ||| ((1 : Int32) <<< (s.2.2.1 &&& 31)))), (0, .ref 38), (2, .int v2)]) d182_88 rfl kx1 (by decide) rfl ?_
          refine hl_goto (tg := 17) d182_91 rfl ?_
          have h := Option.some.inj h
          subst h
          exact hl_loc (k1 (s.1 ||| ((1 : Int32) <<< (s.2.2.1 &&& 31))) 1 (s.2.2.1 + 1) (hl_si s.2.2.2 54 v2.toNatClampNeg (s.2.2.2.1 42 s.2.2.1.toNatClampNeg)) rfl) ⟨rfl, rfl, rfl, rfl, rfl, trivial⟩
set_option maxRecDepth 20000 in
theorem p_Pt_choose_L4 {X : hl_X} (D : Nat) (s : Int32 × Int32 × hl_M) {o : (Int32 × Int32 × hl_M) ⊕ (hl_M)} {v : Option Value} {τ : hl_M} (h : f_Pt_choose_L4 s = some o) (k1 : ∀ (c0 : Int32) (c1 : Int32) (c2 : hl_M), o = .inl ((c0, c1, c2)) → hl_R X D y182 4 [(0, .ref 38), (1, .int c0), (2, .int c1)] [] c2 v τ) (k2 : ∀ (a0 : hl_M), o = .inr a0 → hl_R X D y182 100 [] [] a0 v τ) : hl_R X D y182 4 [(0, .ref 38), (1, .int s.1), (2, .int s.2.1)] [] s.2.2 v τ := by
  unfold f_Pt_choose_L4 at h
  refine hl_iload_n (i := 2) d182_4 rfl rfl ?_
  refine hl_aload_n (i := 0) d182_5 rfl rfl (by decide) ?_
  refine hl_gi d182_6 gPt_71_38 ?_
  refine hl_icmp_ge (tg := 100) d182_9 rfl (fun hc => ?_) (fun hc => ?_)
  · have h := hl_pos hc h
    have h := Option.some.inj h
    subst h
    exact hl_loc (k2 s.2.2 rfl) trivial
  · have h := hl_neg hc h
    refine hl_iconst d182_12 ki0 ?_
    refine hl_istore_n (i := 3) (ls2 := [(3, .int 0), (0, .ref 38), (1, .int s.1), (2, .int s.2.1)]) d182_13 rfl (by decide) rfl ?_
    refine hl_iconst d182_14 ki0 ?_
    refine hl_istore (ls2 := [(4, .int 0), (3, .int 0), (0, .ref 38), (1, .int s.1), (2, .int s.2.1)]) d182_15 (by decide) rfl ?_
    obtain ⟨x1, hx1, h⟩ := hl_bind h
    refine hl_R.loc (ls' := [(0, .ref 38), (1, .int s.1), (2, .int s.2.1), (3, .int 0), (4, .int 0)]) ⟨rfl, rfl, rfl, rfl, rfl, trivial⟩ ?_
    refine hl_lp_run4 (P := fun (c0 : Int32) (c1 : Int32) (c2 : Int32) (c3 : hl_M) => hl_R X D y182 17 [(0, .ref 38), (1, .int c0), (2, .int s.2.1), (3, .int c1), (4, .int c2)] [] c3 v τ) (fun x : Int32 × hl_M => hl_R X D y182 94 [(0, .ref 38), (1, .int x.1), (2, .int s.2.1)] [] x.2 v τ) (fun c0 c1 c2 c3 o ho h1 h2 => p_Pt_choose_L17 D s.2.1 (c0, c1, c2, c3) ho h1 (fun a0 a1 e => h2 ((a0, a1)) e)) hl_big s.1 0 0 s.2.2 x1 hx1 ?_
    refine hl_iinc (ls2 := [(2, .int (s.2.1 + 1)), (0, .ref 38), (1, .int x1.1)]) d182_94 rfl kx1 (by decide) rfl ?_
    refine hl_goto (tg := 4) d182_97 rfl ?_
    have h := Option.some.inj h
    subst h
    exact hl_loc (k1 x1.1 (s.2.1 + 1) x1.2 rfl) ⟨rfl, rfl, rfl, trivial⟩
set_option maxRecDepth 20000 in
theorem p_Pt_choose {X : hl_X} (D : Nat) (σ : hl_M) {τ : hl_M} (h : f_Pt_choose σ = some τ) : hl_R X D y182 0 [(0, .ref 38)] [] σ none τ := by
  unfold f_Pt_choose at h
  refine hl_iconst d182_0 ki0 ?_
  refine hl_istore_n (i := 1) (ls2 := [(1, .int 0), (0, .ref 38)]) d182_1 rfl (by decide) rfl ?_
  refine hl_iconst d182_2 ki0 ?_
  refine hl_istore_n (i := 2) (ls2 := [(2, .int 0), (1, .int 0), (0, .ref 38)]) d182_3 rfl (by decide) rfl ?_
  obtain ⟨x2, hx2, h⟩ := hl_bind h
  refine hl_R.loc (ls' := [(0, .ref 38), (1, .int 0), (2, .int 0)]) ⟨rfl, rfl, rfl, trivial⟩ ?_
  refine hl_lp_run3 (P := fun (c0 : Int32) (c1 : Int32) (c2 : hl_M) => hl_R X D y182 4 [(0, .ref 38), (1, .int c0), (2, .int c1)] [] c2 none τ) (fun x : hl_M => hl_R X D y182 100 [] [] x none τ) (fun c0 c1 c2 o ho h1 h2 => p_Pt_choose_L4 D (c0, c1, c2) ho h1 (fun a0 e => h2 a0 e)) hl_big 0 0 σ x2 hx2 ?_
  have h := Option.some.inj h
  subst h
  exact hl_vret d182_100 rfl
def f_Pt_plan_j148 (v1 : Int32) (v2 : Int32) (v3 : Int32) (v4 : Int32) (v5 : Int32) (s0 : Int32) (s1 : Int32) (s2 : Nat) (σ : hl_M) : Option ((Int32 × hl_M) ⊕ (hl_M)) :=
  if (hl_shp s2).1 = 100 ∧ hl_b s1 (hl_shp s2).2 then
  some (.inl ((v5 + 1, hl_si σ s2 s1.toNatClampNeg s0))) else none
def f_Pt_plan_L68 (v1 : Int32) (v2 : Int32) (v3 : Int32) (v4 : Int32) (s : Int32 × hl_M) : Option ((Int32 × hl_M) ⊕ (hl_M)) :=
  if (s.2.1 38 4) ≤ s.1 then
  some (.inr s.2) else
  if hl_b v2 8 then
  if hl_b v2 8 then
  if hl_b s.1 8 then
  if hl_b v3 8 then
  if hl_b v4 10 then
  if (f_X_lampIn (s.2.2 10 v2.toNatClampNeg) (s.2.2 11 v2.toNatClampNeg) (s.2.1 42 s.1.toNatClampNeg)) = (s.2.1 7 v4.toNatClampNeg) then
  if hl_b s.1 8 then
  if hl_b (s.2.1 42 s.1.toNatClampNeg) 54 then
  f_Pt_plan_j148 v1 v2 v3 v4 s.1 (s.2.1 39 (s.2.1 42 s.1.toNatClampNeg).toNatClampNeg) s.1 (43 + 1 + v3.toNatClampNeg) s.2 else none else none else
  f_Pt_plan_j148 v1 v2 v3 v4 s.1 10000 s.1 (43 + 1 + v3.toNatClampNeg) s.2 else none else none else none else none else none
def f_Pt_plan_L35 (v1 : Int32) (v2 : Int32) (s : Int32 × hl_M) : Option ((Int32 × hl_M) ⊕ (hl_M)) :=
  if (s.2.1 38 4) ≤ s.1 then
  some (.inr s.2) else
  if hl_b s.1 8 then
  (f_Wk_cellOf (s.2.1 41 s.1.toNatClampNeg) v1 s.2).bind fun x2 =>
  (f_Pt_spread x2 s.2).bind fun x3 =>
  (hl_lp (f_Pt_plan_L68 v1 v2 s.1 (s.2.1 41 s.1.toNatClampNeg)) hl_big ((0, x3))).bind fun x4 =>
  some (.inl ((s.1 + 1, x4))) else none
def f_Pt_plan (v1 : Int32) (v2 : Int32) (σ : hl_M) : Option (Int32 × hl_M) :=
  if (f_X_within v1 100) = 0 then
  some ((0, σ)) else
  if (f_X_within v2 (σ.1 4 8)) = 0 then
  some ((0, σ)) else
  (f_Pt_gather v2 σ).bind fun x1 =>
  if x1.1 = 0 then
  some ((0, x1.2)) else
  (hl_lp (f_Pt_plan_L35 v1 v2) hl_big ((0, x1.2))).bind fun x5 =>
  (f_Pt_weigh x5).bind fun x6 =>
  if hl_b (0 : Int32) 256 then
  if (x6.1 52 (0 : Int32).toNatClampNeg) < 10000 then
  (f_Pt_choose x6).bind fun x7 =>
  some ((1, x7)) else
  some ((0, x6)) else none
set_option maxRecDepth 20000 in
theorem p_Pt_plan_j148 {X : hl_X} (D : Nat) (v1 : Int32) (v2 : Int32) (v3 : Int32) (v4 : Int32) (v5 : Int32) (s0 : Int32) (s1 : Int32) (s2 : Nat) (hs2 : s2 < 900) (σ : hl_M) {o : (Int32 × hl_M) ⊕ (hl_M)} {v : Option Value} {τ : hl_M} (h : f_Pt_plan_j148 v1 v2 v3 v4 v5 s0 s1 s2 σ = some o) (k1 : ∀ (c0 : Int32) (c1 : hl_M), o = .inl ((c0, c1)) → hl_R X (D + 4) y177 68 [(0, .ref 38), (1, .int v1), (2, .int v2), (3, .int v3), (4, .int v4), (5, .int c0)] [] c1 v τ) (k2 : ∀ (a0 : hl_M), o = .inr a0 → hl_R X (D + 4) y177 155 [(0, .ref 38), (1, .int v1), (2, .int v2), (3, .int v3)] [] a0 v τ) : hl_R X (D + 4) y177 148 [(0, .ref 38), (1, .int v1), (2, .int v2), (3, .int v3), (4, .int v4), (5, .int v5)] [.int s0, .int s1, .ref s2] σ v τ := by
  unfold f_Pt_plan_j148 at h
  obtain ⟨hb, h⟩ := hl_gd h
  refine hl_iast (q := s2) d177_148 (hl_shx hb.1) (hl_b_in hb.2) ?_
  refine hl_iinc (ls2 := [(5, .int (v5 + 1)), (0, .ref 38), (1, .int v1), (2, .int v2), (3, .int v3), (4, .int v4)]) d177_149 rfl kx1 (by decide) rfl ?_
  refine hl_goto (tg := 68) d177_152 rfl ?_
  have h := Option.some.inj h
  subst h
  exact hl_loc (k1 (v5 + 1) (hl_si σ s2 s1.toNatClampNeg s0) rfl) ⟨rfl, rfl, rfl, rfl, rfl, rfl, trivial⟩
set_option maxRecDepth 20000 in
theorem p_Pt_plan_L68 {X : hl_X} (D : Nat) (v1 : Int32) (v2 : Int32) (v3 : Int32) (v4 : Int32) (s : Int32 × hl_M) {o : (Int32 × hl_M) ⊕ (hl_M)} {v : Option Value} {τ : hl_M} (h : f_Pt_plan_L68 v1 v2 v3 v4 s = some o) (k1 : ∀ (c0 : Int32) (c1 : hl_M), o = .inl ((c0, c1)) → hl_R X (D + 4) y177 68 [(0, .ref 38), (1, .int v1), (2, .int v2), (3, .int v3), (4, .int v4), (5, .int c0)] [] c1 v τ) (k2 : ∀ (a0 : hl_M), o = .inr a0 → hl_R X (D + 4) y177 155 [(0, .ref 38), (1, .int v1), (2, .int v2), (3, .int v3)] [] a0 v τ) : hl_R X (D + 4) y177 68 [(0, .ref 38), (1, .int v1), (2, .int v2), (3, .int v3), (4, .int v4), (5, .int s.1)] [] s.2 v τ := by
  unfold f_Pt_plan_L68 at h
  refine hl_iload d177_68 rfl ?_
  refine hl_aload_n (i := 0) d177_70 rfl rfl (by decide) ?_
  refine hl_gi d177_71 gPt_71_38 ?_
  refine hl_icmp_ge (tg := 155) d177_74 rfl (fun hc => ?_) (fun hc => ?_)
  · have h := hl_pos hc h
    have h := Option.some.inj h
    subst h
    exact hl_loc (k2 s.2 rfl) ⟨rfl, rfl, rfl, rfl, trivial⟩
  · have h := hl_neg hc h
    refine hl_aload_n (i := 0) d177_77 rfl rfl (by decide) ?_
    refine hl_gr d177_78 gPt_38_38 ?_
    refine hl_gr d177_81 gPt_79_4 ?_
    refine hl_iload_n (i := 2) d177_84 rfl rfl ?_
    obtain ⟨hb, h⟩ := hl_gd h
    refine hl_lald d177_85 sh10 (hl_b_in hb) ?_
    refine hl_aload_n (i := 0) d177_86 rfl rfl (by decide) ?_
    refine hl_gr d177_87 gPt_38_38 ?_
    refine hl_gr d177_90 gPt_83_4 ?_
    refine hl_iload_n (i := 2) d177_93 rfl rfl ?_
    obtain ⟨hb, h⟩ := hl_gd h
    refine hl_lald d177_94 sh11 (hl_b_in hb) ?_
    refine hl_aload_n (i := 0) d177_95 rfl rfl (by decide) ?_
    refine hl_gr d177_96 gPt_21_38 ?_
    refine hl_iload d177_99 rfl ?_
    obtain ⟨hb, h⟩ := hl_gd h
    refine hl_iald d177_101 sh42 (hl_b_in hb) ?_
    refine hl_cNi (D := (D + 3)) (z := y37) (n := 3) (av := [.long (s.2.2 10 v2.toNatClampNeg), .long (s.2.2 11 v2.toNatClampNeg), .int (s.2.1 42 s.1.toNatClampNeg)]) (st := []) d177_102 mlPt_86 rfl (Nat.le_of_ble_eq_true rfl) (Nat.le_of_ble_eq_true rfl) ((p_X_lampIn D (s.2.2 10 v2.toNatClampNeg) (s.2.2 11 v2.toNatClampNeg) (s.2.1 42 s.1.toNatClampNeg) s.2 rfl).dle (by omega)) ?_
    refine hl_istore (ls2 := [(6, .int (f_X_lampIn (s.2.2 10 v2.toNatClampNeg) (s.2.2 11 v2.toNatClampNeg) (s.2.1 42 s.1.toNatClampNeg))), (0, .ref 38), (1, .int v1), (2, .int v2), (3, .int v3), (4, .int v4), (5, .int s.1)]) d177_105 (by decide) rfl ?_
    refine hl_aload_n (i := 0) d177_107 rfl rfl (by decide) ?_
    refine hl_gr d177_108 gPt_26_38 ?_
    refine hl_iload_n (i := 3) d177_111 rfl rfl ?_
    obtain ⟨hb, h⟩ := hl_gd h
    refine hl_aald d177_112 sh43 (hl_b_in hb) (by decide) ?_
    have hq112 := hl_row9 (q := 43) hb (by decide)
    refine hl_iload d177_113 rfl ?_
    refine hl_iload d177_115 rfl ?_
    refine hl_aload_n (i := 0) d177_117 rfl rfl (by decide) ?_
    refine hl_gr d177_118 gPt_38_38 ?_
    refine hl_gr d177_121 gPt_90_4 ?_
    refine hl_iload d177_124 rfl ?_
    obtain ⟨hb, h⟩ := hl_gd h
    refine hl_iald d177_126 sh7 (hl_b_in hb) ?_
    refine hl_icmp_ne (tg := 145) d177_127 rfl (fun hc => ?_) (fun hc => ?_)
    · have h := hl_neg hc h
      refine hl_sipush d177_145 ks10000 ?_
      exact hl_loc (p_Pt_plan_j148 D v1 v2 v3 v4 s.1 10000 s.1 (43 + 1 + v3.toNatClampNeg) hq112 s.2 h k1 k2) ⟨rfl, rfl, rfl, rfl, rfl, rfl, trivial⟩
    · have h := hl_pos hc h
      refine hl_aload_n (i := 0) d177_130 rfl rfl (by decide) ?_
      refine hl_gr d177_131 gPt_9_38 ?_
      refine hl_aload_n (i := 0) d177_134 rfl rfl (by decide) ?_
      refine hl_gr d177_135 gPt_21_38 ?_
      refine hl_iload d177_138 rfl ?_
      obtain ⟨hb, h⟩ := hl_gd h
      refine hl_iald d177_140 sh42 (hl_b_in hb) ?_
      obtain ⟨hb, h⟩ := hl_gd h
      refine hl_iald d177_141 sh39 (hl_b_in hb) ?_
      refine hl_goto (tg := 148) d177_142 rfl ?_
      exact hl_loc (p_Pt_plan_j148 D v1 v2 v3 v4 s.1 (s.2.1 39 (s.2.1 42 s.1.toNatClampNeg).toNatClampNeg) s.1 (43 + 1 + v3.toNatClampNeg) hq112 s.2 h k1 k2) ⟨rfl, rfl, rfl, rfl, rfl, rfl, trivial⟩
set_option maxRecDepth 20000 in
theorem p_Pt_plan_L35 {X : hl_X} (D : Nat) (v1 : Int32) (v2 : Int32) (s : Int32 × hl_M) {o : (Int32 × hl_M) ⊕ (hl_M)} {v : Option Value} {τ : hl_M} (h : f_Pt_plan_L35 v1 v2 s = some o) (k1 : ∀ (c0 : Int32) (c1 : hl_M), o = .inl ((c0, c1)) → hl_R X (D + 4) y177 35 [(0, .ref 38), (1, .int v1), (2, .int v2), (3, .int c0)] [] c1 v τ) (k2 : ∀ (a0 : hl_M), o = .inr a0 → hl_R X (D + 4) y177 161 [(0, .ref 38)] [] a0 v τ) : hl_R X (D + 4) y177 35 [(0, .ref 38), (1, .int v1), (2, .int v2), (3, .int s.1)] [] s.2 v τ := by
  unfold f_Pt_plan_L35 at h
  refine hl_iload_n (i := 3) d177_35 rfl rfl ?_
  refine hl_aload_n (i := 0) d177_36 rfl rfl (by decide) ?_
  refine hl_gi d177_37 gPt_71_38 ?_
  refine hl_icmp_ge (tg := 161) d177_40 rfl (fun hc => ?_) (fun hc => ?_)
  · have h := hl_pos hc h
    have h := Option.some.inj h
    subst h
    exact hl_loc (k2 s.2 rfl) ⟨rfl, trivial⟩
  · have h := hl_neg hc h
    refine hl_aload_n (i := 0) d177_43 rfl rfl (by decide) ?_
    refine hl_gr d177_44 gPt_18_38 ?_
    refine hl_iload_n (i := 3) d177_47 rfl rfl ?_
    obtain ⟨hb, h⟩ := hl_gd h
    refine hl_iald d177_48 sh41 (hl_b_in hb) ?_
    refine hl_istore (ls2 := [(4, .int (s.2.1 41 s.1.toNatClampNeg)), (0, .ref 38), (1, .int v1), (2, .int v2), (3, .int s.1)]) d177_49 (by decide) rfl ?_
    refine hl_aload_n (i := 0) d177_51 rfl rfl (by decide) ?_
    refine hl_aload_n (i := 0) d177_52 rfl rfl (by decide) ?_
    refine hl_gr d177_53 gPt_42_38 ?_
    refine hl_iload d177_56 rfl ?_
    refine hl_iload_n (i := 1) d177_58 rfl rfl ?_
    obtain ⟨x2, hx2, h⟩ := hl_bind h
    refine hl_cVi (D := (D + 3)) (z := y104) (n := 2) (av := [.int (s.2.1 41 s.1.toNatClampNeg), .int v1]) (st := [.ref 38]) d177_59 mlPt_74 rfl (Nat.le_of_ble_eq_true rfl) (Nat.le_of_ble_eq_true rfl) rc25 ((p_Wk_cellOf D (s.2.1 41 s.1.toNatClampNeg) v1 s.2 hx2).dle (by omega)) ?_
    obtain ⟨x3, hx3, h⟩ := hl_bind h
    refine hl_cVv (D := (D + 3)) (z := y179) (n := 1) (av := [.int x2]) (st := []) d177_62 mlPt_46 rfl (Nat.le_of_ble_eq_true rfl) (Nat.le_of_ble_eq_true rfl) rc38 ((p_Pt_spread D x2 s.2 hx3).dle (by omega)) ?_
    refine hl_iconst d177_65 ki0 ?_
    refine hl_istore (ls2 := [(5, .int 0), (4, .int (s.2.1 41 s.1.toNatClampNeg)), (0, .ref 38), (1, .int v1), (2, .int v2), (3, .int s.1)]) d177_66 (by decide) rfl ?_
    obtain ⟨x4, hx4, h⟩ := hl_bind h
    refine hl_R.loc (ls' := [(0, .ref 38), (1, .int v1), (2, .int v2), (3, .int s.1), (4, .int (s.2.1 41 s.1.toNatClampNeg)), (5, .int 0)]) ⟨rfl, rfl, rfl, rfl, rfl, rfl, trivial⟩ ?_
    refine hl_lp_run2 (P := fun (c0 : Int32) (c1 : hl_M) => hl_R X (D + 4) y177 68 [(0, .ref 38), (1, .int v1), (2, .int v2), (3, .int s.1), (4, .int (s.2.1 41 s.1.toNatClampNeg)), (5, .int c0)] [] c1 v τ) (fun x : hl_M => hl_R X (D + 4) y177 155 [(0, .ref 38), (1, .int v1), (2, .int v2), (3, .int s.1)] [] x v τ) (fun c0 c1 o ho h1 h2 => p_Pt_plan_L68 D v1 v2 s.1 (s.2.1 41 s.1.toNatClampNeg) (c0, c1) ho h1 (fun a0 e => h2 a0 e)) hl_big 0 x3 x4 hx4 ?_
    refine hl_iinc (ls2 := [(3, .int (s.1 + 1)), (0, .ref 38), (1, .int v1), (2, .int v2)]) d177_155 rfl kx1 (by decide) rfl ?_
    refine hl_goto (tg := 35) d177_158 rfl ?_
    have h := Option.some.inj h
    subst h
    exact hl_loc (k1 (s.1 + 1) x4 rfl) ⟨rfl, rfl, rfl, rfl, trivial⟩
set_option maxRecDepth 20000 in
theorem p_Pt_plan {X : hl_X} (D : Nat) (v1 : Int32) (v2 : Int32) (σ : hl_M) {r : Int32} {τ : hl_M} (h : f_Pt_plan v1 v2 σ = some (r, τ)) : hl_R X (D + 4) y177 0 [(0, .ref 38), (1, .int v1), (2, .int v2)] [] σ (some (.int r)) τ := by
  unfold f_Pt_plan at h
  refine hl_iload_n (i := 1) d177_0 rfl rfl ?_
  refine hl_bipush d177_1 kb100 ?_
  refine hl_cNi (D := (D + 3)) (z := y2) (n := 2) (av := [.int v1, .int 100]) (st := []) d177_3 mlPt_50 rfl (Nat.le_of_ble_eq_true rfl) (Nat.le_of_ble_eq_true rfl) ((p_X_within D v1 100 σ rfl).dle (by omega)) ?_
  refine hl_if_eq (tg := 31) d177_6 rfl (fun hc => ?_) (fun hc => ?_)
  · have h := hl_pos hc h
    refine hl_iconst d177_31 ki0 ?_
    obtain ⟨e1, e2⟩ := hl_some2 h
    subst e1; subst e2
    exact hl_zret d177_32 rfl (by decide)
  · have h := hl_neg hc h
    refine hl_iload_n (i := 2) d177_9 rfl rfl ?_
    refine hl_aload_n (i := 0) d177_10 rfl rfl (by decide) ?_
    refine hl_gr d177_11 gPt_38_38 ?_
    refine hl_gi d177_14 gPt_64_4 ?_
    refine hl_cNi (D := (D + 3)) (z := y2) (n := 2) (av := [.int v2, .int (σ.1 4 8)]) (st := []) d177_17 mlPt_50 rfl (Nat.le_of_ble_eq_true rfl) (Nat.le_of_ble_eq_true rfl) ((p_X_within D v2 (σ.1 4 8) σ rfl).dle (by omega)) ?_
    refine hl_if_eq (tg := 31) d177_20 rfl (fun hc => ?_) (fun hc => ?_)
    · have h := hl_pos hc h
      refine hl_iconst d177_31 ki0 ?_
      obtain ⟨e1, e2⟩ := hl_some2 h
      subst e1; subst e2
      exact hl_zret d177_32 rfl (by decide)
    · have h := hl_neg hc h
      refine hl_aload_n (i := 0) d177_23 rfl rfl (by decide) ?_
      refine hl_iload_n (i := 2) d177_24 rfl rfl ?_
      obtain ⟨x1, hx1, h⟩ := hl_bind h
      refine hl_cVi (D := (D + 3)) (z := y178) (n := 1) (av := [.int v2]) (st := []) d177_25 mlPt_68 rfl (Nat.le_of_ble_eq_true rfl) (Nat.le_of_ble_eq_true rfl) rc38 ((p_Pt_gather D v2 σ hx1).dle (by omega)) ?_
      refine hl_if_ne (tg := 33) d177_28 rfl (fun hc => ?_) (fun hc => ?_)
      · have h := hl_neg hc h
        refine hl_iconst d177_33 ki0 ?_
        refine hl_istore_n (i := 3) (ls2 := [(3, .int 0), (0, .ref 38), (1, .int v1), (2, .int v2)]) d177_34 rfl (by decide) rfl ?_
        obtain ⟨x5, hx5, h⟩ := hl_bind h
        refine hl_R.loc (ls' := [(0, .ref 38), (1, .int v1), (2, .int v2), (3, .int 0)]) ⟨rfl, rfl, rfl, rfl, trivial⟩ ?_
        refine hl_lp_run2 (P := fun (c0 : Int32) (c1 : hl_M) => hl_R X (D + 4) y177 35 [(0, .ref 38), (1, .int v1), (2, .int v2), (3, .int c0)] [] c1 (some (.int r)) τ) (fun x : hl_M => hl_R X (D + 4) y177 161 [(0, .ref 38)] [] x (some (.int r)) τ) (fun c0 c1 o ho h1 h2 => p_Pt_plan_L35 D v1 v2 (c0, c1) ho h1 (fun a0 e => h2 a0 e)) hl_big 0 x1.2 x5 hx5 ?_
        refine hl_aload_n (i := 0) d177_161 rfl rfl (by decide) ?_
        obtain ⟨x6, hx6, h⟩ := hl_bind h
        refine hl_cVv (D := (D + 3)) (z := y180) (n := 0) (av := []) (st := []) d177_162 mlPt_93 rfl (Nat.le_of_ble_eq_true rfl) (Nat.le_of_ble_eq_true rfl) rc38 ((p_Pt_weigh D x5 hx6).dle (by omega)) ?_
        refine hl_aload_n (i := 0) d177_165 rfl rfl (by decide) ?_
        refine hl_gr d177_166 gPt_29_38 ?_
        refine hl_iconst d177_169 ki0 ?_
        obtain ⟨hb, h⟩ := hl_gd h
        refine hl_iald d177_170 sh52 (hl_b_in hb) ?_
        refine hl_sipush d177_171 ks10000 ?_
        refine hl_icmp_lt (tg := 179) d177_174 rfl (fun hc => ?_) (fun hc => ?_)
        · have h := hl_pos hc h
          refine hl_aload_n (i := 0) d177_179 rfl rfl (by decide) ?_
          obtain ⟨x7, hx7, h⟩ := hl_bind h
          refine hl_cVv (D := (D + 3)) (z := y182) (n := 0) (av := []) (st := []) d177_180 mlPt_96 rfl (Nat.le_of_ble_eq_true rfl) (Nat.le_of_ble_eq_true rfl) rc38 ((p_Pt_choose D x6 hx7).dle (by omega)) ?_
          refine hl_iconst d177_183 ki1 ?_
          obtain ⟨e1, e2⟩ := hl_some2 h
          subst e1; subst e2
          exact hl_zret d177_184 rfl (by decide)
        · have h := hl_neg hc h
          refine hl_iconst d177_177 ki0 ?_
          obtain ⟨e1, e2⟩ := hl_some2 h
          subst e1; subst e2
          exact hl_zret d177_178 rfl (by decide)
      · have h := hl_pos hc h
        refine hl_iconst d177_31 ki0 ?_
        obtain ⟨e1, e2⟩ := hl_some2 h
        subst e1; subst e2
        exact hl_zret d177_32 rfl (by decide)
def f_Pt_leastSteps (σ : hl_M) : Option (Int32) :=
  if hl_b (0 : Int32) 256 then
  some (σ.1 52 (0 : Int32).toNatClampNeg) else none
set_option maxRecDepth 20000 in
theorem p_Pt_leastSteps {X : hl_X} (D : Nat) (σ : hl_M) {r : Int32} (h : f_Pt_leastSteps σ = some r) : hl_R X D y183 0 [(0, .ref 38)] [] σ (some (.int r)) σ := by
  unfold f_Pt_leastSteps at h
  refine hl_aload_n (i := 0) d183_0 rfl rfl (by decide) ?_
  refine hl_gr d183_1 gPt_29_38 ?_
  refine hl_iconst d183_4 ki0 ?_
  obtain ⟨hb, h⟩ := hl_gd h
  refine hl_iald d183_5 sh52 (hl_b_in hb) ?_
  have h := Option.some.inj h
  subst h
  exact hl_iret d183_6 rfl
def f_X_least (v1 : Int32) (v2 : Int32) (v3 : Int32) (σ : hl_M) : Option (Int32 × hl_M) :=
  (f_Pt_plan v1 v2 σ).bind fun x1 =>
  if x1.1 = 0 then
  some (((-1), x1.2)) else
  if v3 = ((-1)) then
  (f_Pt_leastSteps x1.2).bind fun x2 =>
  some ((x2, x1.2)) else
  if (f_X_within v3 (x1.2.1 38 4)) = 0 then
  some (((-1), x1.2)) else
  if hl_b v3 8 then
  some ((x1.2.1 54 v3.toNatClampNeg, x1.2)) else none
set_option maxRecDepth 20000 in
theorem p_X_least {X : hl_X} (D : Nat) (v1 : Int32) (v2 : Int32) (v3 : Int32) (σ : hl_M) {r : Int32} {τ : hl_M} (h : f_X_least v1 v2 v3 σ = some (r, τ)) : hl_R X (D + 5) y176 0 [(0, .ref 0), (1, .int v1), (2, .int v2), (3, .int v3)] [] σ (some (.int r)) τ := by
  unfold f_X_least at h
  refine hl_aload_n (i := 0) d176_0 rfl rfl (by decide) ?_
  refine hl_gr d176_1 gX_65_0 ?_
  refine hl_iload_n (i := 1) d176_4 rfl rfl ?_
  refine hl_iload_n (i := 2) d176_5 rfl rfl ?_
  obtain ⟨x1, hx1, h⟩ := hl_bind h
  refine hl_cVi (D := (D + 4)) (z := y177) (n := 2) (av := [.int v1, .int v2]) (st := []) d176_6 mlX_250 rfl (Nat.le_of_ble_eq_true rfl) (Nat.le_of_ble_eq_true rfl) rc38 ((p_Pt_plan D v1 v2 σ hx1).dle (by omega)) ?_
  refine hl_if_ne (tg := 14) d176_9 rfl (fun hc => ?_) (fun hc => ?_)
  · have h := hl_neg hc h
    refine hl_iload_n (i := 3) d176_14 rfl rfl ?_
    refine hl_iconst d176_15 kim1 ?_
    refine hl_icmp_ne (tg := 27) d176_16 rfl (fun hc => ?_) (fun hc => ?_)
    · have h := hl_neg hc h
      refine hl_iload_n (i := 3) d176_27 rfl rfl ?_
      refine hl_aload_n (i := 0) d176_28 rfl rfl (by decide) ?_
      refine hl_gr d176_29 gX_65_0 ?_
      refine hl_gi d176_32 gX_256_38 ?_
      refine hl_cSi (D := (D + 4)) (z := y2) (n := 2) (av := [.int v3, .int (x1.2.1 38 4)]) (st := []) d176_35 mlX_154 rfl (Nat.le_of_ble_eq_true rfl) (Nat.le_of_ble_eq_true rfl) ((p_X_within D v3 (x1.2.1 38 4) x1.2 rfl).dle (by omega)) ?_
      refine hl_if_eq (tg := 53) d176_38 rfl (fun hc => ?_) (fun hc => ?_)
      · have h := hl_pos hc h
        refine hl_iconst d176_53 kim1 ?_
        obtain ⟨e1, e2⟩ := hl_some2 h
        subst e1; subst e2
        exact hl_iret d176_54 rfl
      · have h := hl_neg hc h
        refine hl_aload_n (i := 0) d176_41 rfl rfl (by decide) ?_
        refine hl_gr d176_42 gX_65_0 ?_
        refine hl_gr d176_45 gX_257_38 ?_
        refine hl_iload_n (i := 3) d176_48 rfl rfl ?_
        obtain ⟨hb, h⟩ := hl_gd h
        refine hl_iald d176_49 sh54 (hl_b_in hb) ?_
        refine hl_goto (tg := 54) d176_50 rfl ?_
        obtain ⟨e1, e2⟩ := hl_some2 h
        subst e1; subst e2
        exact hl_iret d176_54 rfl
    · have h := hl_pos hc h
      refine hl_aload_n (i := 0) d176_19 rfl rfl (by decide) ?_
      refine hl_gr d176_20 gX_65_0 ?_
      obtain ⟨x2, hx2, h⟩ := hl_bind h
      refine hl_cVi (D := (D + 4)) (z := y183) (n := 0) (av := []) (st := []) d176_23 mlX_253 rfl (Nat.le_of_ble_eq_true rfl) (Nat.le_of_ble_eq_true rfl) rc38 ((p_Pt_leastSteps D x1.2 hx2).dle (by omega)) ?_
      obtain ⟨e1, e2⟩ := hl_some2 h
      subst e1; subst e2
      exact hl_iret d176_26 rfl
  · have h := hl_pos hc h
    refine hl_iconst d176_12 kim1 ?_
    obtain ⟨e1, e2⟩ := hl_some2 h
    subst e1; subst e2
    exact hl_iret d176_13 rfl
def f_M_gathers_L12 (v1 : Int32) (s : Int32 × hl_M) : Option ((Int32 × hl_M) ⊕ (hl_M)) :=
  (f_M_personMany s.2).bind fun x1 =>
  if x1 ≤ s.1 then
  some (.inr s.2) else
  (f_M_lampOf s.1 s.2).bind fun x2 =>
  if x2 ≤ 0 then
  some (.inl ((s.1 + 1, s.2))) else
  if hl_b (s.2.1 64 41) 10 then
  some (.inl ((s.1 + 1, hl_si (hl_si s.2 84 (s.2.1 64 41).toNatClampNeg s.1) 64 41 (((hl_si s.2 84 (s.2.1 64 41).toNatClampNeg s.1).1 64 41) + 1)))) else none
def f_M_gathers_L56 (v1 : Int32) (s : Int32 × hl_M) : Option ((Int32 × hl_M) ⊕ (hl_M)) :=
  if (f_M_cells s.2) ≤ s.1 then
  some (.inr s.2) else
  if hl_b ((432 + (54 * v1)) + s.1) 864 then
  if (s.2.1 79 ((432 + (54 * v1)) + s.1).toNatClampNeg) ≤ 0 then
  some (.inl ((s.1 + 1, s.2))) else
  if hl_b (s.2.1 64 43) 8 then
  some (.inl ((s.1 + 1, hl_si (hl_si s.2 85 (s.2.1 64 43).toNatClampNeg s.1) 64 43 (((hl_si s.2 85 (s.2.1 64 43).toNatClampNeg s.1).1 64 43) + 1)))) else none else none
def f_M_gathers (v1 : Int32) (σ : hl_M) : Option (hl_M) :=
  (hl_lp (f_M_gathers_L12 v1) hl_big ((0, hl_si (hl_si σ 64 41 0) 64 43 0))).bind fun x3 =>
  (hl_lp (f_M_gathers_L56 v1) hl_big ((0, x3))).bind fun x4 =>
  some x4
set_option maxRecDepth 20000 in
theorem p_M_gathers_L12 {X : hl_X} (D : Nat) (v1 : Int32) (s : Int32 × hl_M) {o : (Int32 × hl_M) ⊕ (hl_M)} {v : Option Value} {τ : hl_M} (h : f_M_gathers_L12 v1 s = some o) (k1 : ∀ (c0 : Int32) (c1 : hl_M), o = .inl ((c0, c1)) → hl_R X (D + 1) y187 12 [(0, .ref 64), (1, .int v1), (2, .int c0)] [] c1 v τ) (k2 : ∀ (a0 : hl_M), o = .inr a0 → hl_R X (D + 1) y187 54 [(0, .ref 64), (1, .int v1)] [] a0 v τ) : hl_R X (D + 1) y187 12 [(0, .ref 64), (1, .int v1), (2, .int s.1)] [] s.2 v τ := by
  unfold f_M_gathers_L12 at h
  refine hl_iload_n (i := 2) d187_12 rfl rfl ?_
  refine hl_aload_n (i := 0) d187_13 rfl rfl (by decide) ?_
  obtain ⟨x1, hx1, h⟩ := hl_bind h
  refine hl_cVi (D := D) (z := y93) (n := 0) (av := []) (st := [.int s.1]) d187_14 mlM_335 rfl (Nat.le_of_ble_eq_true rfl) (Nat.le_of_ble_eq_true rfl) rc64 ((p_M_personMany D s.2 hx1).dle (by omega)) ?_
  refine hl_icmp_ge (tg := 54) d187_17 rfl (fun hc => ?_) (fun hc => ?_)
  · have h := hl_pos hc h
    have h := Option.some.inj h
    subst h
    exact hl_loc (k2 s.2 rfl) ⟨rfl, rfl, trivial⟩
  · have h := hl_neg hc h
    refine hl_aload_n (i := 0) d187_20 rfl rfl (by decide) ?_
    refine hl_iload_n (i := 2) d187_21 rfl rfl ?_
    obtain ⟨x2, hx2, h⟩ := hl_bind h
    refine hl_cVi (D := D) (z := y110) (n := 1) (av := [.int s.1]) (st := []) d187_22 mlM_358 rfl (Nat.le_of_ble_eq_true rfl) (Nat.le_of_ble_eq_true rfl) rc64 ((p_M_lampOf D s.1 s.2 hx2).dle (by omega)) ?_
    refine hl_if_le (tg := 48) d187_25 rfl (fun hc => ?_) (fun hc => ?_)
    · have h := hl_pos hc h
      refine hl_iinc (ls2 := [(2, .int (s.1 + 1)), (0, .ref 64), (1, .int v1)]) d187_48 rfl kx1 (by decide) rfl ?_
      refine hl_goto (tg := 12) d187_51 rfl ?_
      have h := Option.some.inj h
      subst h
      exact hl_loc (k1 (s.1 + 1) s.2 rfl) ⟨rfl, rfl, rfl, trivial⟩
    · have h := hl_neg hc h
      refine hl_aload_n (i := 0) d187_28 rfl rfl (by decide) ?_
      refine hl_gr d187_29 gM_80_64 ?_
      refine hl_aload_n (i := 0) d187_32 rfl rfl (by decide) ?_
      refine hl_gi d187_33 gM_429_64 ?_
      refine hl_iload_n (i := 2) d187_36 rfl rfl ?_
      obtain ⟨hb, h⟩ := hl_gd h
      refine hl_iast (q := 84) d187_37 sh84 (hl_b_in hb) ?_
      refine hl_aload_n (i := 0) d187_38 rfl rfl (by decide) ?_
      refine hl_dup d187_39 rfl ?_
      refine hl_gi d187_40 gM_429_64 ?_
      refine hl_iconst d187_43 ki1 ?_
      refine hl_iadd d187_44 ?_
      refine hl_pi d187_45 qM_429_64 ?_
      refine hl_iinc (ls2 := [(2, .int (s.1 + 1)), (0, .ref 64), (1, .int v1)]) d187_48 rfl kx1 (by decide) rfl ?_
      refine hl_goto (tg := 12) d187_51 rfl ?_
      have h := Option.some.inj h
      subst h
      exact hl_loc (k1 (s.1 + 1) (hl_si (hl_si s.2 84 (s.2.1 64 41).toNatClampNeg s.1) 64 41 (((hl_si s.2 84 (s.2.1 64 41).toNatClampNeg s.1).1 64 41) + 1)) rfl) ⟨rfl, rfl, rfl, trivial⟩
set_option maxRecDepth 20000 in
theorem p_M_gathers_L56 {X : hl_X} (D : Nat) (v1 : Int32) (s : Int32 × hl_M) {o : (Int32 × hl_M) ⊕ (hl_M)} {v : Option Value} {τ : hl_M} (h : f_M_gathers_L56 v1 s = some o) (k1 : ∀ (c0 : Int32) (c1 : hl_M), o = .inl ((c0, c1)) → hl_R X (D + 1) y187 56 [(0, .ref 64), (1, .int v1), (2, .int c0)] [] c1 v τ) (k2 : ∀ (a0 : hl_M), o = .inr a0 → hl_R X (D + 1) y187 108 [] [] a0 v τ) : hl_R X (D + 1) y187 56 [(0, .ref 64), (1, .int v1), (2, .int s.1)] [] s.2 v τ := by
  unfold f_M_gathers_L56 at h
  refine hl_iload_n (i := 2) d187_56 rfl rfl ?_
  refine hl_aload_n (i := 0) d187_57 rfl rfl (by decide) ?_
  refine hl_cVi (D := D) (z := y89) (n := 0) (av := []) (st := [.int s.1]) d187_58 mlM_320 rfl (Nat.le_of_ble_eq_true rfl) (Nat.le_of_ble_eq_true rfl) rc64 ((p_M_cells D s.2 rfl).dle (by omega)) ?_
  refine hl_icmp_ge (tg := 108) d187_61 rfl (fun hc => ?_) (fun hc => ?_)
  · have h := hl_pos hc h
    have h := Option.some.inj h
    subst h
    exact hl_loc (k2 s.2 rfl) trivial
  · have h := hl_neg hc h
    refine hl_aload_n (i := 0) d187_64 rfl rfl (by decide) ?_
    refine hl_gr d187_65 gM_59_64 ?_
    refine hl_sipush d187_68 ks432 ?_
    refine hl_bipush d187_71 kb54 ?_
    refine hl_iload_n (i := 1) d187_73 rfl rfl ?_
    refine hl_imul d187_74 ?_
    refine hl_iadd d187_75 ?_
    refine hl_iload_n (i := 2) d187_76 rfl rfl ?_
    refine hl_iadd d187_77 ?_
    obtain ⟨hb, h⟩ := hl_gd h
    refine hl_iald d187_78 sh79 (hl_b_in hb) ?_
    refine hl_if_le (tg := 102) d187_79 rfl (fun hc => ?_) (fun hc => ?_)
    · have h := hl_pos hc h
      refine hl_iinc (ls2 := [(2, .int (s.1 + 1)), (0, .ref 64), (1, .int v1)]) d187_102 rfl kx1 (by decide) rfl ?_
      refine hl_goto (tg := 56) d187_105 rfl ?_
      have h := Option.some.inj h
      subst h
      exact hl_loc (k1 (s.1 + 1) s.2 rfl) ⟨rfl, rfl, rfl, trivial⟩
    · have h := hl_neg hc h
      refine hl_aload_n (i := 0) d187_82 rfl rfl (by decide) ?_
      refine hl_gr d187_83 gM_83_64 ?_
      refine hl_aload_n (i := 0) d187_86 rfl rfl (by decide) ?_
      refine hl_gi d187_87 gM_432_64 ?_
      refine hl_iload_n (i := 2) d187_90 rfl rfl ?_
      obtain ⟨hb, h⟩ := hl_gd h
      refine hl_iast (q := 85) d187_91 sh85 (hl_b_in hb) ?_
      refine hl_aload_n (i := 0) d187_92 rfl rfl (by decide) ?_
      refine hl_dup d187_93 rfl ?_
      refine hl_gi d187_94 gM_432_64 ?_
      refine hl_iconst d187_97 ki1 ?_
      refine hl_iadd d187_98 ?_
      refine hl_pi d187_99 qM_432_64 ?_
      refine hl_iinc (ls2 := [(2, .int (s.1 + 1)), (0, .ref 64), (1, .int v1)]) d187_102 rfl kx1 (by decide) rfl ?_
      refine hl_goto (tg := 56) d187_105 rfl ?_
      have h := Option.some.inj h
      subst h
      exact hl_loc (k1 (s.1 + 1) (hl_si (hl_si s.2 85 (s.2.1 64 43).toNatClampNeg s.1) 64 43 (((hl_si s.2 85 (s.2.1 64 43).toNatClampNeg s.1).1 64 43) + 1)) rfl) ⟨rfl, rfl, rfl, trivial⟩
set_option maxRecDepth 20000 in
theorem p_M_gathers {X : hl_X} (D : Nat) (v1 : Int32) (σ : hl_M) {τ : hl_M} (h : f_M_gathers v1 σ = some τ) : hl_R X (D + 1) y187 0 [(0, .ref 64), (1, .int v1)] [] σ none τ := by
  unfold f_M_gathers at h
  refine hl_aload_n (i := 0) d187_0 rfl rfl (by decide) ?_
  refine hl_iconst d187_1 ki0 ?_
  refine hl_pi d187_2 qM_429_64 ?_
  refine hl_aload_n (i := 0) d187_5 rfl rfl (by decide) ?_
  refine hl_iconst d187_6 ki0 ?_
  refine hl_pi d187_7 qM_432_64 ?_
  refine hl_iconst d187_10 ki0 ?_
  refine hl_istore_n (i := 2) (ls2 := [(2, .int 0), (0, .ref 64), (1, .int v1)]) d187_11 rfl (by decide) rfl ?_
  obtain ⟨x3, hx3, h⟩ := hl_bind h
  refine hl_R.loc (ls' := [(0, .ref 64), (1, .int v1), (2, .int 0)]) ⟨rfl, rfl, rfl, trivial⟩ ?_
  refine hl_lp_run2 (P := fun (c0 : Int32) (c1 : hl_M) => hl_R X (D + 1) y187 12 [(0, .ref 64), (1, .int v1), (2, .int c0)] [] c1 none τ) (fun x : hl_M => hl_R X (D + 1) y187 54 [(0, .ref 64), (1, .int v1)] [] x none τ) (fun c0 c1 o ho h1 h2 => p_M_gathers_L12 D v1 (c0, c1) ho h1 (fun a0 e => h2 a0 e)) hl_big 0 (hl_si (hl_si σ 64 41 0) 64 43 0) x3 hx3 ?_
  refine hl_iconst d187_54 ki0 ?_
  refine hl_istore_n (i := 2) (ls2 := [(2, .int 0), (0, .ref 64), (1, .int v1)]) d187_55 rfl (by decide) rfl ?_
  obtain ⟨x4, hx4, h⟩ := hl_bind h
  refine hl_R.loc (ls' := [(0, .ref 64), (1, .int v1), (2, .int 0)]) ⟨rfl, rfl, rfl, trivial⟩ ?_
  refine hl_lp_run2 (P := fun (c0 : Int32) (c1 : hl_M) => hl_R X (D + 1) y187 56 [(0, .ref 64), (1, .int v1), (2, .int c0)] [] c1 none τ) (fun x : hl_M => hl_R X (D + 1) y187 108 [] [] x none τ) (fun c0 c1 o ho h1 h2 => p_M_gathers_L56 D v1 (c0, c1) ho h1 (fun a0 e => h2 a0 e)) hl_big 0 x3 x4 hx4 ?_
  have h := Option.some.inj h
  subst h
  exact hl_vret d187_108 rfl
def f_M_stepsTo (v1 : Int32) (v2 : Int32) (v3 : Int32) (v4 : Int32) (σ : hl_M) : Option (Int32) :=
  if hl_b v1 10 then
  (f_M_lampOf (σ.1 84 v1.toNatClampNeg) σ).bind fun x1 =>
  if hl_b v2 8 then
  if hl_b ((432 + (54 * v4)) + (σ.1 85 v2.toNatClampNeg)) 864 then
  if x1 = (σ.1 79 ((432 + (54 * v4)) + (σ.1 85 v2.toNatClampNeg)).toNatClampNeg) then
  (f_M_whereIn (σ.1 84 v1.toNatClampNeg) v3 σ).bind fun x2 =>
  if hl_b v2 8 then
  if hl_b ((54 * x2) + (σ.1 85 v2.toNatClampNeg)) 2916 then
  some (σ.1 81 ((54 * x2) + (σ.1 85 v2.toNatClampNeg)).toNatClampNeg) else none else none else
  some 1000 else none else none else none
set_option maxRecDepth 20000 in
theorem p_M_stepsTo {X : hl_X} (D : Nat) (v1 : Int32) (v2 : Int32) (v3 : Int32) (v4 : Int32) (σ : hl_M) {r : Int32} (h : f_M_stepsTo v1 v2 v3 v4 σ = some r) : hl_R X (D + 1) y189 0 [(0, .ref 64), (1, .int v1), (2, .int v2), (3, .int v3), (4, .int v4)] [] σ (some (.int r)) σ := by
  unfold f_M_stepsTo at h
  refine hl_aload_n (i := 0) d189_0 rfl rfl (by decide) ?_
  refine hl_gr d189_1 gM_80_64 ?_
  refine hl_iload_n (i := 1) d189_4 rfl rfl ?_
  obtain ⟨hb, h⟩ := hl_gd h
  refine hl_iald d189_5 sh84 (hl_b_in hb) ?_
  refine hl_istore (ls2 := [(5, .int (σ.1 84 v1.toNatClampNeg)), (0, .ref 64), (1, .int v1), (2, .int v2), (3, .int v3), (4, .int v4)]) d189_6 (by decide) rfl ?_
  refine hl_aload_n (i := 0) d189_8 rfl rfl (by decide) ?_
  refine hl_iload d189_9 rfl ?_
  obtain ⟨x1, hx1, h⟩ := hl_bind h
  refine hl_cVi (D := D) (z := y110) (n := 1) (av := [.int (σ.1 84 v1.toNatClampNeg)]) (st := []) d189_11 mlM_358 rfl (Nat.le_of_ble_eq_true rfl) (Nat.le_of_ble_eq_true rfl) rc64 ((p_M_lampOf D (σ.1 84 v1.toNatClampNeg) σ hx1).dle (by omega)) ?_
  refine hl_aload_n (i := 0) d189_14 rfl rfl (by decide) ?_
  refine hl_gr d189_15 gM_59_64 ?_
  refine hl_sipush d189_18 ks432 ?_
  refine hl_bipush d189_21 kb54 ?_
  refine hl_iload d189_23 rfl ?_
  refine hl_imul d189_25 ?_
  refine hl_iadd d189_26 ?_
  refine hl_aload_n (i := 0) d189_27 rfl rfl (by decide) ?_
  refine hl_gr d189_28 gM_83_64 ?_
  refine hl_iload_n (i := 2) d189_31 rfl rfl ?_
  obtain ⟨hb, h⟩ := hl_gd h
  refine hl_iald d189_32 sh85 (hl_b_in hb) ?_
  refine hl_iadd d189_33 ?_
  obtain ⟨hb, h⟩ := hl_gd h
  refine hl_iald d189_34 sh79 (hl_b_in hb) ?_
  refine hl_icmp_ne (tg := 63) d189_35 rfl (fun hc => ?_) (fun hc => ?_)
  · have h := hl_neg hc h
    refine hl_sipush d189_63 ks1000 ?_
    have h := Option.some.inj h
    subst h
    exact hl_iret d189_66 rfl
  · have h := hl_pos hc h
    refine hl_aload_n (i := 0) d189_38 rfl rfl (by decide) ?_
    refine hl_gr d189_39 gM_65_64 ?_
    refine hl_bipush d189_42 kb54 ?_
    refine hl_aload_n (i := 0) d189_44 rfl rfl (by decide) ?_
    refine hl_iload d189_45 rfl ?_
    refine hl_iload_n (i := 3) d189_47 rfl rfl ?_
    obtain ⟨x2, hx2, h⟩ := hl_bind h
    refine hl_cVi (D := D) (z := y117) (n := 2) (av := [.int (σ.1 84 v1.toNatClampNeg), .int v3]) (st := [.int 54, .ref 81]) d189_48 mlM_349 rfl (Nat.le_of_ble_eq_true rfl) (Nat.le_of_ble_eq_true rfl) rc64 ((p_M_whereIn D (σ.1 84 v1.toNatClampNeg) v3 σ hx2).dle (by omega)) ?_
    refine hl_imul d189_51 ?_
    refine hl_aload_n (i := 0) d189_52 rfl rfl (by decide) ?_
    refine hl_gr d189_53 gM_83_64 ?_
    refine hl_iload_n (i := 2) d189_56 rfl rfl ?_
    obtain ⟨hb, h⟩ := hl_gd h
    refine hl_iald d189_57 sh85 (hl_b_in hb) ?_
    refine hl_iadd d189_58 ?_
    obtain ⟨hb, h⟩ := hl_gd h
    refine hl_iald d189_59 sh81 (hl_b_in hb) ?_
    refine hl_goto (tg := 66) d189_60 rfl ?_
    have h := Option.some.inj h
    subst h
    exact hl_iret d189_66 rfl
def f_M_finds_L6 (v1 : Int32) (v2 : Int32) (v3 : Int32) (v4 : Int32) (σ : hl_M) (s : Int32 × Int32) : Option ((Int32 × Int32) ⊕ (Int32)) :=
  if s.2 = 0 then
  some (.inr s.1) else
  some (.inl ((s.1 + 1, s.2 &&& (s.2 - 1))))
def f_M_finds_j147 (v1 : Int32) (v2 : Int32) (v3 : Int32) (v4 : Int32) (v6 : Int32) (v7 : Int32) (v8 : Int32) (s0 : Int32) (σ : hl_M) : Option ((Int32 × Int32 × Int32) ⊕ (Int32 × Int32)) :=
  if v7 ≤ s0 then
  some (.inl ((v6, v7, v8 + 1))) else
  some (.inl ((v6, s0, v8 + 1)))
def f_M_finds_j123 (v1 : Int32) (v2 : Int32) (v3 : Int32) (v4 : Int32) (v6 : Int32) (v7 : Int32) (v8 : Int32) (v9 : Int32) (v10 : Int32) (σ : hl_M) : Option ((Int32 × Int32 × Int32) ⊕ (Int32 × Int32)) :=
  if hl_b v10 2304 then
  if v9 ≤ (σ.1 87 v10.toNatClampNeg) then
  if hl_b v10 2304 then
  f_M_finds_j147 v1 v2 v3 v4 v6 v7 v8 (σ.1 87 v10.toNatClampNeg) σ else none else
  f_M_finds_j147 v1 v2 v3 v4 v6 v7 v8 v9 σ else none
def f_M_finds_L46 (v1 : Int32) (v2 : Int32) (v3 : Int32) (v4 : Int32) (σ : hl_M) (s : Int32 × Int32 × Int32) : Option ((Int32 × Int32 × Int32) ⊕ (Int32 × Int32)) :=
  if (σ.1 64 43) ≤ s.2.2 then
  some (.inr (((s.1, s.2.1)))) else
  if ((v2 >>> (s.2.2 &&& 31)) &&& 1) = 1 then
  some (.inl ((s.1, s.2.1, s.2.2 + 1))) else
  (f_M_stepsTo v1 s.2.2 v3 v4 σ).bind fun x2 =>
  if hl_b ((256 * (v1 + 1)) + (v2 ||| ((1 : Int32) <<< (s.2.2 &&& 31)))) 2304 then
  if s.1 ≤ (x2 + (σ.1 86 ((256 * (v1 + 1)) + (v2 ||| ((1 : Int32) <<< (s.2.2 &&& 31)))).toNatClampNeg)) then
  f_M_finds_j123 v1 v2 v3 v4 s.1 s.2.1 s.2.2 x2 ((256 * (v1 + 1)) + (v2 ||| ((1 : Int32) <<< (s.2.2 &&& 31)))) σ else
  if hl_b ((256 * (v1 + 1)) + (v2 ||| ((1 : Int32) <<< (s.2.2 &&& 31)))) 2304 then
  f_M_finds_j123 v1 v2 v3 v4 (x2 + (σ.1 86 ((256 * (v1 + 1)) + (v2 ||| ((1 : Int32) <<< (s.2.2 &&& 31)))).toNatClampNeg)) s.2.1 s.2.2 x2 ((256 * (v1 + 1)) + (v2 ||| ((1 : Int32) <<< (s.2.2 &&& 31)))) σ else none else none
def f_M_finds (v1 : Int32) (v2 : Int32) (v3 : Int32) (v4 : Int32) (σ : hl_M) : Option (hl_M) :=
  (hl_lp (f_M_finds_L6 v1 v2 v3 v4 σ) hl_big ((0, v2))).bind fun x1 =>
  if x1 = v1 then
  (hl_lp (f_M_finds_L46 v1 v2 v3 v4 σ) hl_big ((1000, 1000, 0))).bind fun x3 =>
  if hl_b ((256 * v1) + v2) 2304 then
  if hl_b ((256 * v1) + v2) 2304 then
  some (hl_si (hl_si σ 86 ((256 * v1) + v2).toNatClampNeg x3.1) 87 ((256 * v1) + v2).toNatClampNeg x3.2) else none else none else
  some σ
set_option maxRecDepth 20000 in
theorem p_M_finds_L6 {X : hl_X} (D : Nat) (v1 : Int32) (v2 : Int32) (v3 : Int32) (v4 : Int32) (σ : hl_M) (s : Int32 × Int32) {o : (Int32 × Int32) ⊕ (Int32)} {v : Option Value} {τ : hl_M} (h : f_M_finds_L6 v1 v2 v3 v4 σ s = some o) (k1 : ∀ (c0 : Int32) (c1 : Int32), o = .inl ((c0, c1)) → hl_R X (D + 2) y188 6 [(0, .ref 64), (1, .int v1), (2, .int v2), (3, .int v3), (4, .int v4), (5, .int c0), (6, .int c1)] [] σ v τ) (k2 : ∀ (a0 : Int32), o = .inr a0 → hl_R X (D + 2) y188 26 [(0, .ref 64), (1, .int v1), (2, .int v2), (3, .int v3), (4, .int v4), (5, .int a0)] [] σ v τ) : hl_R X (D + 2) y188 6 [(0, .ref 64), (1, .int v1), (2, .int v2), (3, .int v3), (4, .int v4), (5, .int s.1), (6, .int s.2)] [] σ v τ := by
  unfold f_M_finds_L6 at h
  refine hl_iload d188_6 rfl ?_
  refine hl_if_eq (tg := 26) d188_8 rfl (fun hc => ?_) (fun hc => ?_)
  · have h := hl_pos hc h
    have h := Option.some.inj h
    subst h
    exact hl_loc (k2 s.1 rfl) ⟨rfl, rfl, rfl, rfl, rfl, rfl, trivial⟩
  · have h := hl_neg hc h
    refine hl_iinc (ls2 := [(5, .int (s.1 + 1)), (0, .ref 64), (1, .int v1), (2, .int v2), (3, .int v3), (4, .int v4), (6, .int s.2)]) d188_11 rfl kx1 (by decide) rfl ?_
    refine hl_iload d188_14 rfl ?_
    refine hl_iload d188_16 rfl ?_
    refine hl_iconst d188_18 ki1 ?_
    refine hl_isub d188_19 ?_
    refine hl_iand d188_20 ?_
    refine hl_istore (ls2 := [(6, .int (s.2 &&& (s.2 - 1))), (5, .int (s.1 + 1)), (0, .ref 64), (1, .int v1), (2, .int v2), (3, .int v3), (4, .int v4)]) d188_21 (by decide) rfl ?_
    refine hl_goto (tg := 6) d188_23 rfl ?_
    have h := Option.some.inj h
    subst h
    exact hl_loc (k1 (s.1 + 1) (s.2 &&& (s.2 - 1)) rfl) ⟨rfl, rfl, rfl, rfl, rfl, rfl, rfl, trivial⟩
set_option maxRecDepth 20000 in
theorem p_M_finds_j147 {X : hl_X} (D : Nat) (v1 : Int32) (v2 : Int32) (v3 : Int32) (v4 : Int32) (v6 : Int32) (v7 : Int32) (v8 : Int32) (s0 : Int32) (σ : hl_M) {o : (Int32 × Int32 × Int32) ⊕ (Int32 × Int32)} {v : Option Value} {τ : hl_M} (h : f_M_finds_j147 v1 v2 v3 v4 v6 v7 v8 s0 σ = some o) (k1 : ∀ (c0 : Int32) (c1 : Int32) (c2 : Int32), o = .inl ((c0, c1, c2)) → hl_R X (D + 2) y188 46 [(0, .ref 64), (1, .int v1), (2, .int v2), (3, .int v3), (4, .int v4), (6, .int c0), (7, .int c1), (8, .int c2)] [] σ v τ) (k2 : ∀ (a0 : Int32) (a1 : Int32), o = .inr ((a0, a1)) → hl_R X (D + 2) y188 166 [(0, .ref 64), (1, .int v1), (2, .int v2), (6, .int a0), (7, .int a1)] [] σ v τ) : hl_R X (D + 2) y188 147 [(0, .ref 64), (1, .int v1), (2, .int v2), (3, .int v3), (4, .int v4), (6, .int v6), (7, .int v7), (8, .int v8)] [.int s0] σ v τ := by
  unfold f_M_finds_j147 at h
  refine hl_istore (ls2 := [(11, .int s0), (0, .ref 64), (1, .int v1), (2, .int v2), (3, .int v3), (4, .int v4), (6, .int v6), (7, .int v7), (8, .int v8)]) d188_147 (by decide) rfl ?_
  refine hl_iload d188_149 rfl ?_
  refine hl_iload d188_151 rfl ?_
  refine hl_icmp_ge (tg := 160) d188_153 rfl (fun hc => ?_) (fun hc => ?_)
  · have h := hl_pos hc h
    refine hl_iinc (ls2 := [(8, .int (v8 + 1)), (11, .int s0), (0, .ref 64), (1, .int v1), (2, .int v2), (3, .int v3), (4, .int v4), (6, .int v6), (7, .int v7)]) d188_160 rfl kx1 (by decide) rfl ?_
    refine hl_goto (tg := 46) d188_163 rfl ?_
    have h := Option.some.inj h
    subst h
    exact hl_loc (k1 v6 v7 (v8 + 1) rfl) ⟨rfl, rfl, rfl, rfl, rfl, rfl, rfl, rfl, trivial⟩
  · have h := hl_neg hc h
    refine hl_iload d188_156 rfl ?_
    refine hl_istore (ls2 := [(7, .int s0), (11, .int s0), (0, .ref 64), (1, .int v1), (2, .int v2), (3, .int v3), (4, .int v4), (6, .int v6), (8, .int v8)]) d188_158 (by decide) rfl ?_
    refine hl_iinc (ls2 := [(8, .int (v8 + 1)), (7, .int s0), (11, .int s0), (0, .ref 64), (1, .int v1), (2, .int v2), (3, .int v3), (4, .int v4), (6, .int v6)]) d188_160 rfl kx1 (by decide) rfl ?_
    refine hl_goto (tg := 46) d188_163 rfl ?_
    have h := Option.some.inj h
    subst h
    exact hl_loc (k1 v6 s0 (v8 + 1) rfl) ⟨rfl, rfl, rfl, rfl, rfl, rfl, rfl, rfl, trivial⟩
set_option maxRecDepth 20000 in
theorem p_M_finds_j123 {X : hl_X} (D : Nat) (v1 : Int32) (v2 : Int32) (v3 : Int32) (v4 : Int32) (v6 : Int32) (v7 : Int32) (v8 : Int32) (v9 : Int32) (v10 : Int32) (σ : hl_M) {o : (Int32 × Int32 × Int32) ⊕ (Int32 × Int32)} {v : Option Value} {τ : hl_M} (h : f_M_finds_j123 v1 v2 v3 v4 v6 v7 v8 v9 v10 σ = some o) (k1 : ∀ (c0 : Int32) (c1 : Int32) (c2 : Int32), o = .inl ((c0, c1, c2)) → hl_R X (D + 2) y188 46 [(0, .ref 64), (1, .int v1), (2, .int v2), (3, .int v3), (4, .int v4), (6, .int c0), (7, .int c1), (8, .int c2)] [] σ v τ) (k2 : ∀ (a0 : Int32) (a1 : Int32), o = .inr ((a0, a1)) → hl_R X (D + 2) y188 166 [(0, .ref 64), (1, .int v1), (2, .int v2), (6, .int a0), (7, .int a1)] [] σ v τ) : hl_R X (D + 2) y188 123 [(0, .ref 64), (1, .int v1), (2, .int v2), (3, .int v3), (4, .int v4), (6, .int v6), (7, .int v7), (8, .int v8), (9, .int v9), (10, .int v10)] [] σ v τ := by
  unfold f_M_finds_j123 at h
  refine hl_iload d188_123 rfl ?_
  refine hl_aload_n (i := 0) d188_125 rfl rfl (by decide) ?_
  refine hl_gr d188_126 gM_89_64 ?_
  refine hl_iload d188_129 rfl ?_
  obtain ⟨hb, h⟩ := hl_gd h
  refine hl_iald d188_131 sh87 (hl_b_in hb) ?_
  refine hl_icmp_le (tg := 140) d188_132 rfl (fun hc => ?_) (fun hc => ?_)
  · have h := hl_pos hc h
    refine hl_aload_n (i := 0) d188_140 rfl rfl (by decide) ?_
    refine hl_gr d188_141 gM_89_64 ?_
    refine hl_iload d188_144 rfl ?_
    obtain ⟨hb, h⟩ := hl_gd h
    refine hl_iald d188_146 sh87 (hl_b_in hb) ?_
    exact hl_loc (p_M_finds_j147 D v1 v2 v3 v4 v6 v7 v8 (σ.1 87 v10.toNatClampNeg) σ h k1 k2) ⟨rfl, rfl, rfl, rfl, rfl, rfl, rfl, rfl, trivial⟩
  · have h := hl_neg hc h
    refine hl_iload d188_135 rfl ?_
    refine hl_goto (tg := 147) d188_137 rfl ?_
    exact hl_loc (p_M_finds_j147 D v1 v2 v3 v4 v6 v7 v8 v9 σ h k1 k2) ⟨rfl, rfl, rfl, rfl, rfl, rfl, rfl, rfl, trivial⟩
set_option maxRecDepth 20000 in
theorem p_M_finds_L46 {X : hl_X} (D : Nat) (v1 : Int32) (v2 : Int32) (v3 : Int32) (v4 : Int32) (σ : hl_M) (s : Int32 × Int32 × Int32) {o : (Int32 × Int32 × Int32) ⊕ (Int32 × Int32)} {v : Option Value} {τ : hl_M} (h : f_M_finds_L46 v1 v2 v3 v4 σ s = some o) (k1 : ∀ (c0 : Int32) (c1 : Int32) (c2 : Int32), o = .inl ((c0, c1, c2)) → hl_R X (D + 2) y188 46 [(0, .ref 64), (1, .int v1), (2, .int v2), (3, .int v3), (4, .int v4), (6, .int c0), (7, .int c1), (8, .int c2)] [] σ v τ) (k2 : ∀ (a0 : Int32) (a1 : Int32), o = .inr ((a0, a1)) → hl_R X (D + 2) y188 166 [(0, .ref 64), (1, .int v1), (2, .int v2), (6, .int a0), (7, .int a1)] [] σ v τ) : hl_R X (D + 2) y188 46 [(0, .ref 64), (1, .int v1), (2, .int v2), (3, .int v3), (4, .int v4), (6, .int s.1), (7, .int s.2.1), (8, .int s.2.2)] [] σ v τ := by
  unfold f_M_finds_L46 at h
  refine hl_iload d188_46 rfl ?_
  refine hl_aload_n (i := 0) d188_48 rfl rfl (by decide) ?_
  refine hl_gi d188_49 gM_432_64 ?_
  refine hl_icmp_ge (tg := 166) d188_52 rfl (fun hc => ?_) (fun hc => ?_)
  · have h := hl_pos hc h
    have h := Option.some.inj h
    subst h
    exact hl_loc (k2 s.1 s.2.1 rfl) ⟨rfl, rfl, rfl, rfl, rfl, trivial⟩
  · have h := hl_neg hc h
    refine hl_iload_n (i := 2) d188_55 rfl rfl ?_
    refine hl_iload d188_56 rfl ?_
    refine hl_ishr d188_58 ?_
    refine hl_iconst d188_59 ki1 ?_
    refine hl_iand d188_60 ?_
    refine hl_iconst d188_61 ki1 ?_
    refine hl_icmp_ne (tg := 68) d188_62 rfl (fun hc => ?_) (fun hc => ?_)
    · have h := hl_neg hc h
      refine hl_aload_n (i := 0) d188_68 rfl rfl (by decide) ?_
      refine hl_iload_n (i := 1) d188_69 rfl rfl ?_
      refine hl_iload d188_70 rfl ?_
      refine hl_iload_n (i := 3) d188_72 rfl rfl ?_
      refine hl_iload d188_73 rfl ?_
      obtain ⟨x2, hx2, h⟩ := hl_bind h
      refine hl_cVi (D := (D + 1)) (z := y189) (n := 4) (av := [.int v1, .int s.2.2, .int v3, .int v4]) (st := []) d188_75 mlM_442 rfl (Nat.le_of_ble_eq_true rfl) (Nat.le_of_ble_eq_true rfl) rc64 ((p_M_stepsTo D v1 s.2.2 v3 v4 σ hx2).dle (by omega)) ?_
      refine hl_istore (ls2 := [(9, .int x2), (0, .ref 64), (1, .int v1), (2, .int v2), (3, .int v3), (4, .int v4), (6, .int s.1), (7, .int s.2.1), (8, .int s.2.2)]) d188_78 (by decide) rfl ?_
      refine hl_sipush d188_80 ks256 ?_
      refine hl_iload_n (i := 1) d188_83 rfl rfl ?_
      refine hl_iconst d188_84 ki1 ?_
      refine hl_iadd d188_85 ?_
      refine hl_imul d188_86 ?_
      refine hl_iload_n (i := 2) d188_87 rfl rfl ?_
      refine hl_iconst d188_88 ki1 ?_
      refine hl_iload d188_89 rfl ?_
      refine hl_ishl d188_91 ?_
      refine hl_ior d188_92 ?_
      refine hl_iadd d188_93 ?_
      refine hl_istore (ls2 := [(10, .int ((256 * (v1 + 1)) + (v2 ||| ((1 : Int32) <<< (s.2.2 &&& 31))))), (9, .int x2), (0, .ref 64), (1, .int v1), (2, .int v2), (3, .int v3), (4, .int v4), (6, .int s.1), (7, .int s.2.1), (8, .int s.2.2)]) d188_94 (by decide) rfl ?_
      refine hl_iload d188_96 rfl ?_
      refine hl_aload_n (i := 0) d188_98 rfl rfl (by decide) ?_
      refine hl_gr d188_99 gM_86_64 ?_
      refine hl_iload d188_102 rfl ?_
      obtain ⟨hb, h⟩ := hl_gd h
      refine hl_iald d188_104 sh86 (hl_b_in hb) ?_
      refine hl_iadd d188_105 ?_
      refine hl_iload d188_106 rfl ?_
      refine hl_icmp_ge (tg := 123) d188_108 rfl (fun hc => ?_) (fun hc => ?_)
      · have h := hl_pos hc h
        exact hl_loc (p_M_finds_j123 D v1 v2 v3 v4 s.1 s.2.1 s.2.2 x2 ((256 * (v1 + 1)) + (v2 ||| ((1 : Int32) <<< (s.2.2 &&& 31)))) σ h k1 k2) ⟨rfl, rfl, rfl, rfl, rfl, rfl, rfl, rfl, rfl, rfl, trivial⟩
      · have h := hl_neg hc h
        refine hl_iload d188_111 rfl ?_
        refine hl_aload_n (i := 0) d188_113 rfl rfl (by decide) ?_
        refine hl_gr d188_114 gM_86_64 ?_
        refine hl_iload d188_117 rfl ?_
        obtain ⟨hb, h⟩ := hl_gd h
        refine hl_iald d188_119 sh86 (hl_b_in hb) ?_
        refine hl_iadd d188_120 ?_
        refine hl_istore (ls2 := [(6, .int (x2 + (σ.1 86 ((256 * (v1 + 1)) + (v2 ||| ((1 : Int32) <<< (s.2.2 &&& 31)))).toNatClampNeg))), (10, .int ((256 * (v1 + 1)) + (v2 ||| ((1 : Int32) <<< (s.2.2 &&& 31))))), (9, .int x2), (0, .ref 64), (1, .int v1), (2, .int v2), (3, .int v3), (4, .int v4), (7, .int s.2.1), (8, .int s.2.2)]) d188_121 (by decide) rfl ?_
        exact hl_loc (p_M_finds_j123 D v1 v2 v3 v4 (x2 + (σ.1 86 ((256 * (v1 + 1)) + (v2 ||| ((1 : Int32) <<< (s.2.2 &&& 31)))).toNatClampNeg)) s.2.1 s.2.2 x2 ((256 * (v1 + 1)) + (v2 ||| ((1 : Int32) <<< (s.2.2 &&& 31)))) σ h k1 k2) ⟨rfl, rfl, rfl, rfl, rfl, rfl, rfl, rfl, rfl, rfl, trivial⟩
    · have h := hl_pos hc h
      refine hl_goto (tg := 160) d188_65 rfl ?_
      refine hl_iinc (ls2 := [(8, .int (s.2.2 + 1)), (0, .ref 64), (1, .int v1), (2, .int v2), (3, .int v3), (4, .int v4), (6, .int s.1), (7, .int s.2.1)]) d188_160 rfl kx1 (by decide) rfl ?_
      refine hl_goto (tg := 46) d188_163 rfl ?_
      have h := Option.some.inj h
      subst h
      exact hl_loc (k1 s.1 s.2.1 (s.2.2 + 1) rfl) ⟨rfl, rfl, rfl, rfl, rfl, rfl, rfl, rfl, trivial⟩
set_option maxRecDepth 20000 in
theorem p_M_finds {X : hl_X} (D : Nat) (v1 : Int32) (v2 : Int32) (v3 : Int32) (v4 : Int32) (σ : hl_M) {τ : hl_M} (h : f_M_finds v1 v2 v3 v4 σ = some τ) : hl_R X (D + 2) y188 0 [(0, .ref 64), (1, .int v1), (2, .int v2), (3, .int v3), (4, .int v4)] [] σ none τ := by
  unfold f_M_finds at h
  refine hl_iconst d188_0 ki0 ?_
  refine hl_istore (ls2 := [(5, .int 0), (0, .ref 64), (1, .int v1), (2, .int v2), (3, .int v3), (4, .int v4)]) d188_1 (by decide) rfl ?_
  refine hl_iload_n (i := 2) d188_3 rfl rfl ?_
  refine hl_istore (ls2 := [(6, .int v2), (5, .int 0), (0, .ref 64), (1, .int v1), (2, .int v2), (3, .int v3), (4, .int v4)]) d188_4 (by decide) rfl ?_
  obtain ⟨x1, hx1, h⟩ := hl_bind h
  refine hl_R.loc (ls' := [(0, .ref 64), (1, .int v1), (2, .int v2), (3, .int v3), (4, .int v4), (5, .int 0), (6, .int v2)]) ⟨rfl, rfl, rfl, rfl, rfl, rfl, rfl, trivial⟩ ?_
  refine hl_lp_run2 (P := fun (c0 : Int32) (c1 : Int32) => hl_R X (D + 2) y188 6 [(0, .ref 64), (1, .int v1), (2, .int v2), (3, .int v3), (4, .int v4), (5, .int c0), (6, .int c1)] [] σ none τ) (fun x : Int32 => hl_R X (D + 2) y188 26 [(0, .ref 64), (1, .int v1), (2, .int v2), (3, .int v3), (4, .int v4), (5, .int x)] [] σ none τ) (fun c0 c1 o ho h1 h2 => p_M_finds_L6 D v1 v2 v3 v4 σ (c0, c1) ho h1 (fun a0 e => h2 a0 e)) hl_big 0 v2 x1 hx1 ?_
  refine hl_iload d188_26 rfl ?_
  refine hl_iload_n (i := 1) d188_28 rfl rfl ?_
  refine hl_icmp_eq (tg := 33) d188_29 rfl (fun hc => ?_) (fun hc => ?_)
  · have h := hl_pos hc h
    refine hl_sipush d188_33 ks1000 ?_
    refine hl_istore (ls2 := [(6, .int 1000), (0, .ref 64), (1, .int v1), (2, .int v2), (3, .int v3), (4, .int v4), (5, .int x1)]) d188_36 (by decide) rfl ?_
    refine hl_sipush d188_38 ks1000 ?_
    refine hl_istore (ls2 := [(7, .int 1000), (6, .int 1000), (0, .ref 64), (1, .int v1), (2, .int v2), (3, .int v3), (4, .int v4), (5, .int x1)]) d188_41 (by decide) rfl ?_
    refine hl_iconst d188_43 ki0 ?_
    refine hl_istore (ls2 := [(8, .int 0), (7, .int 1000), (6, .int 1000), (0, .ref 64), (1, .int v1), (2, .int v2), (3, .int v3), (4, .int v4), (5, .int x1)]) d188_44 (by decide) rfl ?_
    obtain ⟨x3, hx3, h⟩ := hl_bind h
    refine hl_R.loc (ls' := [(0, .ref 64), (1, .int v1), (2, .int v2), (3, .int v3), (4, .int v4), (6, .int 1000), (7, .int 1000), (8, .int 0)]) ⟨rfl, rfl, rfl, rfl, rfl, rfl, rfl, rfl, trivial⟩ ?_
    refine hl_lp_run3 (P := fun (c0 : Int32) (c1 : Int32) (c2 : Int32) => hl_R X (D + 2) y188 46 [(0, .ref 64), (1, .int v1), (2, .int v2), (3, .int v3), (4, .int v4), (6, .int c0), (7, .int c1), (8, .int c2)] [] σ none τ) (fun x : Int32 × Int32 => hl_R X (D + 2) y188 166 [(0, .ref 64), (1, .int v1), (2, .int v2), (6, .int x.1), (7, .int x.2)] [] σ none τ) (fun c0 c1 c2 o ho h1 h2 => p_M_finds_L46 D v1 v2 v3 v4 σ (c0, c1, c2) ho h1 (fun a0 a1 e => h2 ((a0, a1)) e)) hl_big 1000 1000 0 x3 hx3 ?_
    refine hl_aload_n (i := 0) d188_166 rfl rfl (by decide) ?_
    refine hl_gr d188_167 gM_86_64 ?_
    refine hl_sipush d188_170 ks256 ?_
    refine hl_iload_n (i := 1) d188_173 rfl rfl ?_
    refine hl_imul d188_174 ?_
    refine hl_iload_n (i := 2) d188_175 rfl rfl ?_
    refine hl_iadd d188_176 ?_
    refine hl_iload d188_177 rfl ?_
    obtain ⟨hb, h⟩ := hl_gd h
    refine hl_iast (q := 86) d188_179 sh86 (hl_b_in hb) ?_
    refine hl_aload_n (i := 0) d188_180 rfl rfl (by decide) ?_
    refine hl_gr d188_181 gM_89_64 ?_
    refine hl_sipush d188_184 ks256 ?_
    refine hl_iload_n (i := 1) d188_187 rfl rfl ?_
    refine hl_imul d188_188 ?_
    refine hl_iload_n (i := 2) d188_189 rfl rfl ?_
    refine hl_iadd d188_190 ?_
    refine hl_iload d188_191 rfl ?_
    obtain ⟨hb, h⟩ := hl_gd h
    refine hl_iast (q := 87) d188_193 sh87 (hl_b_in hb) ?_
    have h := Option.some.inj h
    subst h
    exact hl_vret d188_194 rfl
  · have h := hl_neg hc h
    have h := Option.some.inj h
    subst h
    exact hl_vret d188_32 rfl
def f_M_canGo_L75 (v1 : Int32) (v2 : Int32) (v3 : Int32) (v4 : Int32) (s : Int32 × hl_M) : Option ((Int32 × hl_M) ⊕ (hl_M)) :=
  if v3 < s.1 then
  some (.inr s.2) else
  (f_M_finds v4 s.1 v1 v2 s.2).bind fun x3 =>
  some (.inl ((s.1 + 1, x3)))
def f_M_canGo_L67 (v1 : Int32) (v2 : Int32) (v3 : Int32) (s : Int32 × hl_M) : Option ((Int32 × hl_M) ⊕ (hl_M)) :=
  if s.1 < 0 then
  some (.inr s.2) else
  (hl_lp (f_M_canGo_L75 v1 v2 v3 s.1) hl_big ((0, s.2))).bind fun x4 =>
  some (.inl ((s.1 + (-1), x4)))
def f_M_canGo (v1 : Int32) (v2 : Int32) (σ : hl_M) : Option (Int32 × hl_M) :=
  (f_M_gathers v2 σ).bind fun x1 =>
  if (x1.1 64 41) = (x1.1 64 43) then
  if hl_b ((256 * (x1.1 64 43)) + (((1 : Int32) <<< ((x1.1 64 43) &&& 31)) - 1)) 2304 then
  if hl_b ((256 * ((hl_si x1 86 ((256 * (x1.1 64 43)) + (((1 : Int32) <<< ((x1.1 64 43) &&& 31)) - 1)).toNatClampNeg 0).1 64 43)) + (((1 : Int32) <<< ((x1.1 64 43) &&& 31)) - 1)) 2304 then
  hl_let (((hl_si (hl_si x1 86 ((256 * (x1.1 64 43)) + (((1 : Int32) <<< ((x1.1 64 43) &&& 31)) - 1)).toNatClampNeg 0) 87 ((256 * ((hl_si x1 86 ((256 * (x1.1 64 43)) + (((1 : Int32) <<< ((x1.1 64 43) &&& 31)) - 1)).toNatClampNeg 0).1 64 43)) + (((1 : Int32) <<< ((x1.1 64 43) &&& 31)) - 1)).toNatClampNeg 0).1 64 43) - 1) (fun w2 =>
  (hl_lp (f_M_canGo_L67 v1 v2 (((1 : Int32) <<< ((x1.1 64 43) &&& 31)) - 1)) hl_big ((w2, hl_si (hl_si x1 86 ((256 * (x1.1 64 43)) + (((1 : Int32) <<< ((x1.1 64 43) &&& 31)) - 1)).toNatClampNeg 0) 87 ((256 * ((hl_si x1 86 ((256 * (x1.1 64 43)) + (((1 : Int32) <<< ((x1.1 64 43) &&& 31)) - 1)).toNatClampNeg 0).1 64 43)) + (((1 : Int32) <<< ((x1.1 64 43) &&& 31)) - 1)).toNatClampNeg 0))).bind fun x5 =>
  if hl_b (0 : Int32) 2304 then
  if 1000 ≤ (x5.1 86 (0 : Int32).toNatClampNeg) then
  some ((0, x5)) else
  some ((1, x5)) else none) else none else none else
  some ((0, x1))
set_option maxRecDepth 20000 in
theorem p_M_canGo_L75 {X : hl_X} (D : Nat) (v1 : Int32) (v2 : Int32) (v3 : Int32) (v4 : Int32) (s : Int32 × hl_M) {o : (Int32 × hl_M) ⊕ (hl_M)} {v : Option Value} {τ : hl_M} (h : f_M_canGo_L75 v1 v2 v3 v4 s = some o) (k1 : ∀ (c0 : Int32) (c1 : hl_M), o = .inl ((c0, c1)) → hl_R X (D + 3) y186 75 [(0, .ref 64), (1, .int v1), (2, .int v2), (3, .int v3), (4, .int v4), (5, .int c0)] [] c1 v τ) (k2 : ∀ (a0 : hl_M), o = .inr a0 → hl_R X (D + 3) y186 97 [(0, .ref 64), (1, .int v1), (2, .int v2), (3, .int v3), (4, .int v4)] [] a0 v τ) : hl_R X (D + 3) y186 75 [(0, .ref 64), (1, .int v1), (2, .int v2), (3, .int v3), (4, .int v4), (5, .int s.1)] [] s.2 v τ := by
  unfold f_M_canGo_L75 at h
  refine hl_iload d186_75 rfl ?_
  refine hl_iload_n (i := 3) d186_77 rfl rfl ?_
  refine hl_icmp_gt (tg := 97) d186_78 rfl (fun hc => ?_) (fun hc => ?_)
  · have h := hl_pos hc h
    have h := Option.some.inj h
    subst h
    exact hl_loc (k2 s.2 rfl) ⟨rfl, rfl, rfl, rfl, rfl, trivial⟩
  · have h := hl_neg hc h
    refine hl_aload_n (i := 0) d186_81 rfl rfl (by decide) ?_
    refine hl_iload d186_82 rfl ?_
    refine hl_iload d186_84 rfl ?_
    refine hl_iload_n (i := 1) d186_86 rfl rfl ?_
    refine hl_iload_n (i := 2) d186_87 rfl rfl ?_
    obtain ⟨x3, hx3, h⟩ := hl_bind h
    refine hl_cVv (D := (D + 2)) (z := y188) (n := 4) (av := [.int v4, .int s.1, .int v1, .int v2]) (st := []) d186_88 mlM_438 rfl (Nat.le_of_ble_eq_true rfl) (Nat.le_of_ble_eq_true rfl) rc64 ((p_M_finds D v4 s.1 v1 v2 s.2 hx3).dle (by omega)) ?_
    refine hl_iinc (ls2 := [(5, .int (s.1 + 1)), (0, .ref 64), (1, .int v1), (2, .int v2), (3, .int v3), (4, .int v4)]) d186_91 rfl kx1 (by decide) rfl ?_
    refine hl_goto (tg := 75) d186_94 rfl ?_
    have h := Option.some.inj h
    subst h
    exact hl_loc (k1 (s.1 + 1) x3 rfl) ⟨rfl, rfl, rfl, rfl, rfl, rfl, trivial⟩
set_option maxRecDepth 20000 in
theorem p_M_canGo_L67 {X : hl_X} (D : Nat) (v1 : Int32) (v2 : Int32) (v3 : Int32) (s : Int32 × hl_M) {o : (Int32 × hl_M) ⊕ (hl_M)} {v : Option Value} {τ : hl_M} (h : f_M_canGo_L67 v1 v2 v3 s = some o) (k1 : ∀ (c0 : Int32) (c1 : hl_M), o = .inl ((c0, c1)) → hl_R X (D + 3) y186 67 [(0, .ref 64), (1, .int v1), (2, .int v2), (3, .int v3), (4, .int c0)] [] c1 v τ) (k2 : ∀ (a0 : hl_M), o = .inr a0 → hl_R X (D + 3) y186 103 [(0, .ref 64)] [] a0 v τ) : hl_R X (D + 3) y186 67 [(0, .ref 64), (1, .int v1), (2, .int v2), (3, .int v3), (4, .int s.1)] [] s.2 v τ := by
  unfold f_M_canGo_L67 at h
  refine hl_iload d186_67 rfl ?_
  refine hl_if_lt (tg := 103) d186_69 rfl (fun hc => ?_) (fun hc => ?_)
  · have h := hl_pos hc h
    have h := Option.some.inj h
    subst h
    exact hl_loc (k2 s.2 rfl) ⟨rfl, trivial⟩
  · have h := hl_neg hc h
    refine hl_iconst d186_72 ki0 ?_
    refine hl_istore (ls2 := [(5, .int 0), (0, .ref 64), (1, .int v1), (2, .int v2), (3, .int v3), (4, .int s.1)]) d186_73 (by decide) rfl ?_
    obtain ⟨x4, hx4, h⟩ := hl_bind h
    refine hl_R.loc (ls' := [(0, .ref 64), (1, .int v1), (2, .int v2), (3, .int v3), (4, .int s.1), (5, .int 0)]) ⟨rfl, rfl, rfl, rfl, rfl, rfl, trivial⟩ ?_
    refine hl_lp_run2 (P := fun (c0 : Int32) (c1 : hl_M) => hl_R X (D + 3) y186 75 [(0, .ref 64), (1, .int v1), (2, .int v2), (3, .int v3), (4, .int s.1), (5, .int c0)] [] c1 v τ) (fun x : hl_M => hl_R X (D + 3) y186 97 [(0, .ref 64), (1, .int v1), (2, .int v2), (3, .int v3), (4, .int s.1)] [] x v τ) (fun c0 c1 o ho h1 h2 => p_M_canGo_L75 D v1 v2 v3 s.1 (c0, c1) ho h1 (fun a0 e => h2 a0 e)) hl_big 0 s.2 x4 hx4 ?_
    refine hl_iinc (ls2 := [(4, .int (s.1 + (-1))), (0, .ref 64), (1, .int v1), (2, .int v2), (3, .int v3)]) d186_97 rfl kxm1 (by decide) rfl ?_
    refine hl_goto (tg := 67) d186_100 rfl ?_
    have h := Option.some.inj h
    subst h
    exact hl_loc (k1 (s.1 + (-1)) x4 rfl) ⟨rfl, rfl, rfl, rfl, rfl, trivial⟩
set_option maxRecDepth 20000 in
theorem p_M_canGo {X : hl_X} (D : Nat) (v1 : Int32) (v2 : Int32) (σ : hl_M) {r : Int32} {τ : hl_M} (h : f_M_canGo v1 v2 σ = some (r, τ)) : hl_R X (D + 3) y186 0 [(0, .ref 64), (1, .int v1), (2, .int v2)] [] σ (some (.int r)) τ := by
  unfold f_M_canGo at h
  refine hl_aload_n (i := 0) d186_0 rfl rfl (by decide) ?_
  refine hl_iload_n (i := 2) d186_1 rfl rfl ?_
  obtain ⟨x1, hx1, h⟩ := hl_bind h
  refine hl_cVv (D := (D + 2)) (z := y187) (n := 1) (av := [.int v2]) (st := []) d186_2 mlM_435 rfl (Nat.le_of_ble_eq_true rfl) (Nat.le_of_ble_eq_true rfl) rc64 ((p_M_gathers D v2 σ hx1).dle (by omega)) ?_
  refine hl_aload_n (i := 0) d186_5 rfl rfl (by decide) ?_
  refine hl_gi d186_6 gM_429_64 ?_
  refine hl_aload_n (i := 0) d186_9 rfl rfl (by decide) ?_
  refine hl_gi d186_10 gM_432_64 ?_
  refine hl_icmp_eq (tg := 18) d186_13 rfl (fun hc => ?_) (fun hc => ?_)
  · have h := hl_pos hc h
    refine hl_iconst d186_18 ki1 ?_
    refine hl_aload_n (i := 0) d186_19 rfl rfl (by decide) ?_
    refine hl_gi d186_20 gM_432_64 ?_
    refine hl_ishl d186_23 ?_
    refine hl_iconst d186_24 ki1 ?_
    refine hl_isub d186_25 ?_
    refine hl_istore_n (i := 3) (ls2 := [(3, .int (((1 : Int32) <<< ((x1.1 64 43) &&& 31)) - 1)), (0, .ref 64), (1, .int v1), (2, .int v2)]) d186_26 rfl (by decide) rfl ?_
    refine hl_aload_n (i := 0) d186_27 rfl rfl (by decide) ?_
    refine hl_gr d186_28 gM_86_64 ?_
    refine hl_sipush d186_31 ks256 ?_
    refine hl_aload_n (i := 0) d186_34 rfl rfl (by decide) ?_
    refine hl_gi d186_35 gM_432_64 ?_
    refine hl_imul d186_38 ?_
    refine hl_iload_n (i := 3) d186_39 rfl rfl ?_
    refine hl_iadd d186_40 ?_
    refine hl_iconst d186_41 ki0 ?_
    obtain ⟨hb, h⟩ := hl_gd h
    refine hl_iast (q := 86) d186_42 sh86 (hl_b_in hb) ?_
    refine hl_aload_n (i := 0) d186_43 rfl rfl (by decide) ?_
    refine hl_gr d186_44 gM_89_64 ?_
    refine hl_sipush d186_47 ks256 ?_
    refine hl_aload_n (i := 0) d186_50 rfl rfl (by decide) ?_
    refine hl_gi d186_51 gM_432_64 ?_
    refine hl_imul d186_54 ?_
    refine hl_iload_n (i := 3) d186_55 rfl rfl ?_
    refine hl_iadd d186_56 ?_
    refine hl_iconst d186_57 ki0 ?_
    obtain ⟨hb, h⟩ := hl_gd h
    refine hl_iast (q := 87) d186_58 sh87 (hl_b_in hb) ?_
    refine hl_aload_n (i := 0) d186_59 rfl rfl (by decide) ?_
    refine hl_gi d186_60 gM_432_64 ?_
    refine hl_iconst d186_63 ki1 ?_
    refine hl_isub d186_64 ?_
    refine hl_nmi h (fun w2 h => ?_)
    refine hl_istore (ls2 := [(4, .int w2), (3, .int (((1 : Int32) <<< ((x1.1 64 43) &&& 31)) - 1)), (0, .ref 64), (1, .int v1), (2, .int v2)]) d186_65 (by decide) rfl ?_
    obtain ⟨x5, hx5, h⟩ := hl_bind h
    refine hl_R.loc (ls' := [(0, .ref 64), (1, .int v1), (2, .int v2), (3, .int (((1 : Int32) <<< ((x1.1 64 43) &&& 31)) - 1)), (4, .int w2)]) ⟨rfl, rfl, rfl, rfl, rfl, trivial⟩ ?_
    refine hl_lp_run2 (P := fun (c0 : Int32) (c1 : hl_M) => hl_R X (D + 3) y186 67 [(0, .ref 64), (1, .int v1), (2, .int v2), (3, .int (((1 : Int32) <<< ((x1.1 64 43) &&& 31)) - 1)), (4, .int c0)] [] c1 (some (.int r)) τ) (fun x : hl_M => hl_R X (D + 3) y186 103 [(0, .ref 64)] [] x (some (.int r)) τ) (fun c0 c1 o ho h1 h2 => p_M_canGo_L67 D v1 v2 (((1 : Int32) <<< ((x1.1 64 43) &&& 31)) - 1) (c0, c1) ho h1 (fun a0 e => h2 a0 e)) hl_big w2 (hl_si (hl_si x1 86 ((256 * (x1.1 64 43)) + (((1 : Int32) <<< ((x1.1 64 43) &&& 31)) - 1)).toNatClampNeg 0) 87 ((256 * ((hl_si x1 86 ((256 * (x1.1 64 43)) + (((1 : Int32) <<< ((x1.1 64 43) &&& 31)) - 1)).toNatClampNeg 0).1 64 43)) + (((1 : Int32) <<< ((x1.1 64 43) &&& 31)) - 1)).toNatClampNeg 0) x5 hx5 ?_
    refine hl_aload_n (i := 0) d186_103 rfl rfl (by decide) ?_
    refine hl_gr d186_104 gM_86_64 ?_
    refine hl_iconst d186_107 ki0 ?_
    obtain ⟨hb, h⟩ := hl_gd h
    refine hl_iald d186_108 sh86 (hl_b_in hb) ?_
    refine hl_sipush d186_109 ks1000 ?_
    refine hl_icmp_ge (tg := 119) d186_112 rfl (fun hc => ?_) (fun hc => ?_)
    · have h := hl_pos hc h
      refine hl_iconst d186_119 ki0 ?_
      obtain ⟨e1, e2⟩ := hl_some2 h
      subst e1; subst e2
      exact hl_zret d186_120 rfl (by decide)
    · have h := hl_neg hc h
      refine hl_iconst d186_115 ki1 ?_
      refine hl_goto (tg := 120) d186_116 rfl ?_
      obtain ⟨e1, e2⟩ := hl_some2 h
      subst e1; subst e2
      exact hl_zret d186_120 rfl (by decide)
  · have h := hl_neg hc h
    refine hl_iconst d186_16 ki0 ?_
    obtain ⟨e1, e2⟩ := hl_some2 h
    subst e1; subst e2
    exact hl_zret d186_17 rfl (by decide)
def f_M_goes_L28 (v1 : Int32) (v2 : Int32) (v3 : Int32) (v4 : Int32) (σ : hl_M) (s : Int32) : Option ((Int32) ⊕ (Int32)) :=
  if ((v3 >>> (s &&& 31)) &&& 1) = 1 then
  some (.inl (s + 1)) else
  (f_M_stepsTo v4 s v1 v2 σ).bind fun x2 =>
  if hl_b ((256 * (v4 + 1)) + (v3 ||| ((1 : Int32) <<< (s &&& 31)))) 2304 then
  if hl_b ((256 * v4) + v3) 2304 then
  if (x2 + (σ.1 86 ((256 * (v4 + 1)) + (v3 ||| ((1 : Int32) <<< (s &&& 31)))).toNatClampNeg)) = (σ.1 86 ((256 * v4) + v3).toNatClampNeg) then
  some (.inr s) else
  some (.inl (s + 1)) else none else none
def f_M_goes_L16 (v1 : Int32) (v2 : Int32) (s : Int32 × Int32 × hl_M) : Option ((Int32 × Int32 × hl_M) ⊕ (hl_M)) :=
  if (s.2.2.1 64 43) ≤ s.2.1 then
  some (.inr s.2.2) else
  (hl_lp (f_M_goes_L28 v1 v2 s.1 s.2.1 s.2.2) hl_big 0).bind fun x3 =>
  if hl_b x3 8 then
  if hl_b s.2.1 10 then
  some (.inl ((s.1 ||| ((1 : Int32) <<< (x3 &&& 31)), s.2.1 + 1, hl_si s.2.2 88 s.2.1.toNatClampNeg (s.2.2.1 85 x3.toNatClampNeg)))) else none else none
def f_M_goes (v1 : Int32) (v2 : Int32) (σ : hl_M) : Option (Int32 × hl_M) :=
  (f_M_canGo v1 v2 σ).bind fun x1 =>
  if x1.1 = 0 then
  some ((0, x1.2)) else
  (hl_lp (f_M_goes_L16 v1 v2) hl_big ((0, 0, x1.2))).bind fun x4 =>
  some ((1, x4))
set_option maxRecDepth 20000 in
theorem p_M_goes_L28 {X : hl_X} (D : Nat) (v1 : Int32) (v2 : Int32) (v3 : Int32) (v4 : Int32) (σ : hl_M) (s : Int32) {o : (Int32) ⊕ (Int32)} {v : Option Value} {τ : hl_M} (h : f_M_goes_L28 v1 v2 v3 v4 σ s = some o) (k1 : ∀ (c0 : Int32), o = .inl c0 → hl_R X (D + 4) y185 28 [(0, .ref 64), (1, .int v1), (2, .int v2), (3, .int v3), (4, .int v4), (5, .int c0)] [] σ v τ) (k2 : ∀ (a0 : Int32), o = .inr a0 → hl_R X (D + 4) y185 91 [(0, .ref 64), (1, .int v1), (2, .int v2), (3, .int v3), (4, .int v4), (5, .int a0)] [] σ v τ) : hl_R X (D + 4) y185 28 [(0, .ref 64), (1, .int v1), (2, .int v2), (3, .int v3), (4, .int v4), (5, .int s)] [] σ v τ := by
  unfold f_M_goes_L28 at h
  refine hl_iload_n (i := 3) d185_28 rfl rfl ?_
  refine hl_iload d185_29 rfl ?_
  refine hl_ishr d185_31 ?_
  refine hl_iconst d185_32 ki1 ?_
  refine hl_iand d185_33 ?_
  refine hl_iconst d185_34 ki1 ?_
  refine hl_icmp_eq (tg := 85) d185_35 rfl (fun hc => ?_) (fun hc => ?_)
  · have h := hl_pos hc h
    refine hl_iinc (ls2 := [(5, .int (s + 1)), (0, .ref 64), (1, .int v1), (2, .int v2), (3, .int v3), (4, .int v4)]) d185_85 rfl kx1 (by decide) rfl ?_
    refine hl_goto (tg := 28) d185_88 rfl ?_
    have h := Option.some.inj h
    subst h
    exact hl_loc (k1 (s + 1) rfl) ⟨rfl, rfl, rfl, rfl, rfl, rfl, trivial⟩
  · have h := hl_neg hc h
    refine hl_aload_n (i := 0) d185_38 rfl rfl (by decide) ?_
    refine hl_iload d185_39 rfl ?_
    refine hl_iload d185_41 rfl ?_
    refine hl_iload_n (i := 1) d185_43 rfl rfl ?_
    refine hl_iload_n (i := 2) d185_44 rfl rfl ?_
    obtain ⟨x2, hx2, h⟩ := hl_bind h
    refine hl_cVi (D := (D + 3)) (z := y189) (n := 4) (av := [.int v4, .int s, .int v1, .int v2]) (st := []) d185_45 mlM_442 rfl (Nat.le_of_ble_eq_true rfl) (Nat.le_of_ble_eq_true rfl) rc64 ((p_M_stepsTo D v4 s v1 v2 σ hx2).dle (by omega)) ?_
    refine hl_aload_n (i := 0) d185_48 rfl rfl (by decide) ?_
    refine hl_gr d185_49 gM_86_64 ?_
    refine hl_sipush d185_52 ks256 ?_
    refine hl_iload d185_55 rfl ?_
    refine hl_iconst d185_57 ki1 ?_
    refine hl_iadd d185_58 ?_
    refine hl_imul d185_59 ?_
    refine hl_iload_n (i := 3) d185_60 rfl rfl ?_
    refine hl_iconst d185_61 ki1 ?_
    refine hl_iload d185_62 rfl ?_
    refine hl_ishl d185_64 ?_
    refine hl_ior d185_65 ?_
    refine hl_iadd d185_66 ?_
    obtain ⟨hb, h⟩ := hl_gd h
    refine hl_iald d185_67 sh86 (hl_b_in hb) ?_
    refine hl_iadd d185_68 ?_
    refine hl_aload_n (i := 0) d185_69 rfl rfl (by decide) ?_
    refine hl_gr d185_70 gM_86_64 ?_
    refine hl_sipush d185_73 ks256 ?_
    refine hl_iload d185_76 rfl ?_
    refine hl_imul d185_78 ?_
    refine hl_iload_n (i := 3) d185_79 rfl rfl ?_
    refine hl_iadd d185_80 ?_
    obtain ⟨hb, h⟩ := hl_gd h
    refine hl_iald d185_81 sh86 (hl_b_in hb) ?_
    refine hl_icmp_eq (tg := 91) d185_82 rfl (fun hc => ?_) (fun hc => ?_)
    · have h := hl_pos hc h
      have h := Option.some.inj h
      subst h
      exact hl_loc (k2 s rfl) ⟨rfl, rfl, rfl, rfl, rfl, rfl, trivial⟩
    · have h := hl_neg hc h
      refine hl_iinc (ls2 := [(5, .int (s + 1)), (0, .ref 64), (1, .int v1), (2, .int v2), (3, .int v3), (4, .int v4)]) d185_85 rfl kx1 (by decide) rfl ?_
      refine hl_goto (tg := 28) d185_88 rfl ?_
      have h := Option.some.inj h
      subst h
      exact hl_loc (k1 (s + 1) rfl) ⟨rfl, rfl, rfl, rfl, rfl, rfl, trivial⟩
set_option maxRecDepth 20000 in
theorem p_M_goes_L16 {X : hl_X} (D : Nat) (v1 : Int32) (v2 : Int32) (s : Int32 × Int32 × hl_M) {o : (Int32 × Int32 × hl_M) ⊕ (hl_M)} {v : Option Value} {τ : hl_M} (h : f_M_goes_L16 v1 v2 s = some o) (k1 : ∀ (c0 : Int32) (c1 : Int32) (c2 : hl_M), o = .inl ((c0, c1, c2)) → hl_R X (D + 4) y185 16 [(0, .ref 64), (1, .int v1), (2, .int v2), (3, .int c0), (4, .int c1)] [] c2 v τ) (k2 : ∀ (a0 : hl_M), o = .inr a0 → hl_R X (D + 4) y185 118 [] [] a0 v τ) : hl_R X (D + 4) y185 16 [(0, .ref 64), (1, .int v1), (2, .int v2), (3, .int s.1), (4, .int s.2.1)] [] s.2.2 v τ := by
  unfold f_M_goes_L16 at h
  refine hl_iload d185_16 rfl ?_
  refine hl_aload_n (i := 0) d185_18 rfl rfl (by decide) ?_
  refine hl_gi d185_19 gM_432_64 ?_
  refine hl_icmp_ge (tg := 118) d185_22 rfl (fun hc => ?_) (fun hc => ?_)
  · have h := hl_pos hc h
    have h := Option.some.inj h
    subst h
    exact hl_loc (k2 s.2.2 rfl) trivial
  · have h := hl_neg hc h
    refine hl_iconst d185_25 ki0 ?_
    refine hl_istore (ls2 := [(5, .int 0), (0, .ref 64), (1, .int v1), (2, .int v2), (3, .int s.1), (4, .int s.2.1)]) d185_26 (by decide) rfl ?_
    obtain ⟨x3, hx3, h⟩ := hl_bind h
    refine hl_R.loc (ls' := [(0, .ref 64), (1, .int v1), (2, .int v2), (3, .int s.1), (4, .int s.2.1), (5, .int 0)]) ⟨rfl, rfl, rfl, rfl, rfl, rfl, trivial⟩ ?_
    refine hl_lp_run1 (P := fun (c0 : Int32) => hl_R X (D + 4) y185 28 [(0, .ref 64), (1, .int v1), (2, .int v2), (3, .int s.1), (4, .int s.2.1), (5, .int c0)] [] s.2.2 v τ) (fun x : Int32 => hl_R X (D + 4) y185 91 [(0, .ref 64), (1, .int v1), (2, .int v2), (3, .int s.1), (4, .int s.2.1), (5, .int x)] [] s.2.2 v τ) (fun c0 o ho h1 h2 => p_M_goes_L28 D v1 v2 s.1 s.2.1 s.2.2 c0 ho h1 (fun a0 e => h2 a0 e)) hl_big 0 x3 hx3 ?_
    refine hl_aload_n (i := 0) d185_91 rfl rfl (by decide) ?_
    refine hl_gr d185_92 gM_92_64 ?_
    refine hl_iload d185_95 rfl ?_
    refine hl_aload_n (i := 0) d185_97 rfl rfl (by decide) ?_
    refine hl_gr d185_98 gM_83_64 ?_
    refine hl_iload d185_101 rfl ?_
    obtain ⟨hb, h⟩ := hl_gd h
    refine hl_iald d185_103 sh85 (hl_b_in hb) ?_
    obtain ⟨hb, h⟩ := hl_gd h
    refine hl_iast (q := 88) d185_104 sh88 (hl_b_in hb) ?_
    refine hl_iload_n (i := 3) d185_105 rfl rfl ?_
    refine hl_iconst d185_106 ki1 ?_
    refine hl_iload d185_107 rfl ?_
    refine hl_ishl d185_109 ?_
    refine hl_ior d185_110 ?_
    refine hl_istore_n (i := 3) (ls2 := [(3, .int (s.1 ||| ((1 : Int32) <<< (x3 &&& 31)))), (0, .ref 64), (1, .int v1), (2, .int v2), (4, .int s.2.1), (5, .int x3)]) d185_111 rfl (by decide) rfl ?_
    refine hl_iinc (ls2 := [(4, .int (s.2.1 + 1)), (3, .int (s.1 ||| ((1 : Int32) <<< (x3 &&& 31)))), (0, .ref 64), (1, .int v1), (2, .int v2), (5, .int x3)]) d185_112 rfl kx1 (by decide) rfl ?_
    refine hl_goto (tg := 16) d185_115 rfl ?_
    have h := Option.some.inj h
    subst h
    exact hl_loc (k1 (s.1 ||| ((1 : Int32) <<< (x3 &&& 31))) (s.2.1 + 1) (hl_si s.2.2 88 s.2.1.toNatClampNeg (s.2.2.1 85 x3.toNatClampNeg)) rfl) ⟨rfl, rfl, rfl, rfl, rfl, trivial⟩
set_option maxRecDepth 20000 in
theorem p_M_goes {X : hl_X} (D : Nat) (v1 : Int32) (v2 : Int32) (σ : hl_M) {r : Int32} {τ : hl_M} (h : f_M_goes v1 v2 σ = some (r, τ)) : hl_R X (D + 4) y185 0 [(0, .ref 64), (1, .int v1), (2, .int v2)] [] σ (some (.int r)) τ := by
  unfold f_M_goes at h
  refine hl_aload_n (i := 0) d185_0 rfl rfl (by decide) ?_
  refine hl_iload_n (i := 1) d185_1 rfl rfl ?_
  refine hl_iload_n (i := 2) d185_2 rfl rfl ?_
  obtain ⟨x1, hx1, h⟩ := hl_bind h
  refine hl_cVi (D := (D + 3)) (z := y186) (n := 2) (av := [.int v1, .int v2]) (st := []) d185_3 mlM_446 rfl (Nat.le_of_ble_eq_true rfl) (Nat.le_of_ble_eq_true rfl) rc64 ((p_M_canGo D v1 v2 σ hx1).dle (by omega)) ?_
  refine hl_if_ne (tg := 11) d185_6 rfl (fun hc => ?_) (fun hc => ?_)
  · have h := hl_neg hc h
    refine hl_iconst d185_11 ki0 ?_
    refine hl_istore_n (i := 3) (ls2 := [(3, .int 0), (0, .ref 64), (1, .int v1), (2, .int v2)]) d185_12 rfl (by decide) rfl ?_
    refine hl_iconst d185_13 ki0 ?_
    refine hl_istore (ls2 := [(4, .int 0), (3, .int 0), (0, .ref 64), (1, .int v1), (2, .int v2)]) d185_14 (by decide) rfl ?_
    obtain ⟨x4, hx4, h⟩ := hl_bind h
    refine hl_R.loc (ls' := [(0, .ref 64), (1, .int v1), (2, .int v2), (3, .int 0), (4, .int 0)]) ⟨rfl, rfl, rfl, rfl, rfl, trivial⟩ ?_
    refine hl_lp_run3 (P := fun (c0 : Int32) (c1 : Int32) (c2 : hl_M) => hl_R X (D + 4) y185 16 [(0, .ref 64), (1, .int v1), (2, .int v2), (3, .int c0), (4, .int c1)] [] c2 (some (.int r)) τ) (fun x : hl_M => hl_R X (D + 4) y185 118 [] [] x (some (.int r)) τ) (fun c0 c1 c2 o ho h1 h2 => p_M_goes_L16 D v1 v2 (c0, c1, c2) ho h1 (fun a0 e => h2 a0 e)) hl_big 0 0 x1.2 x4 hx4 ?_
    refine hl_iconst d185_118 ki1 ?_
    obtain ⟨e1, e2⟩ := hl_some2 h
    subst e1; subst e2
    exact hl_zret d185_119 rfl (by decide)
  · have h := hl_pos hc h
    refine hl_iconst d185_9 ki0 ?_
    obtain ⟨e1, e2⟩ := hl_some2 h
    subst e1; subst e2
    exact hl_zret d185_10 rfl (by decide)
def f_M_least (v1 : Int32) (v2 : Int32) (v3 : Int32) (σ : hl_M) : Option (Int32 × hl_M) :=
  if (f_M_isBeat v1) = 0 then
  some (((-1), σ)) else
  (f_M_isWord v2 σ).bind fun x1 =>
  if x1 = 0 then
  some (((-1), σ)) else
  (f_M_goes v1 v2 σ).bind fun x2 =>
  if x2.1 = 0 then
  some (((-1), x2.2)) else
  if v3 = ((-1)) then
  if hl_b (0 : Int32) 2304 then
  some ((x2.2.1 86 (0 : Int32).toNatClampNeg, x2.2)) else none else
  if (f_M_isIn v3.toInt64 0 (((x2.2.1 64 43) - 1).toInt64)) = 0 then
  some (((-1), x2.2)) else
  if hl_b v3 10 then
  some ((x2.2.1 88 v3.toNatClampNeg, x2.2)) else none
set_option maxRecDepth 20000 in
theorem p_M_least {X : hl_X} (D : Nat) (v1 : Int32) (v2 : Int32) (v3 : Int32) (σ : hl_M) {r : Int32} {τ : hl_M} (h : f_M_least v1 v2 v3 σ = some (r, τ)) : hl_R X (D + 5) y184 0 [(0, .ref 64), (1, .int v1), (2, .int v2), (3, .int v3)] [] σ (some (.int r)) τ := by
  unfold f_M_least at h
  refine hl_iload_n (i := 1) d184_0 rfl rfl ?_
  refine hl_cSi (D := (D + 4)) (z := y139) (n := 1) (av := [.int v1]) (st := []) d184_1 mlM_409 rfl (Nat.le_of_ble_eq_true rfl) (Nat.le_of_ble_eq_true rfl) ((p_M_isBeat D v1 σ rfl).dle (by omega)) ?_
  refine hl_if_eq (tg := 24) d184_4 rfl (fun hc => ?_) (fun hc => ?_)
  · have h := hl_pos hc h
    refine hl_iconst d184_24 kim1 ?_
    obtain ⟨e1, e2⟩ := hl_some2 h
    subst e1; subst e2
    exact hl_iret d184_25 rfl
  · have h := hl_neg hc h
    refine hl_aload_n (i := 0) d184_7 rfl rfl (by decide) ?_
    refine hl_iload_n (i := 2) d184_8 rfl rfl ?_
    obtain ⟨x1, hx1, h⟩ := hl_bind h
    refine hl_cVi (D := (D + 4)) (z := y132) (n := 1) (av := [.int v2]) (st := []) d184_9 mlM_403 rfl (Nat.le_of_ble_eq_true rfl) (Nat.le_of_ble_eq_true rfl) rc64 ((p_M_isWord D v2 σ hx1).dle (by omega)) ?_
    refine hl_if_eq (tg := 24) d184_12 rfl (fun hc => ?_) (fun hc => ?_)
    · have h := hl_pos hc h
      refine hl_iconst d184_24 kim1 ?_
      obtain ⟨e1, e2⟩ := hl_some2 h
      subst e1; subst e2
      exact hl_iret d184_25 rfl
    · have h := hl_neg hc h
      refine hl_aload_n (i := 0) d184_15 rfl rfl (by decide) ?_
      refine hl_iload_n (i := 1) d184_16 rfl rfl ?_
      refine hl_iload_n (i := 2) d184_17 rfl rfl ?_
      obtain ⟨x2, hx2, h⟩ := hl_bind h
      refine hl_cVi (D := (D + 4)) (z := y185) (n := 2) (av := [.int v1, .int v2]) (st := []) d184_18 mlM_450 rfl (Nat.le_of_ble_eq_true rfl) (Nat.le_of_ble_eq_true rfl) rc64 ((p_M_goes D v1 v2 σ hx2).dle (by omega)) ?_
      refine hl_if_ne (tg := 26) d184_21 rfl (fun hc => ?_) (fun hc => ?_)
      · have h := hl_neg hc h
        refine hl_iload_n (i := 3) d184_26 rfl rfl ?_
        refine hl_iconst d184_27 kim1 ?_
        refine hl_icmp_ne (tg := 40) d184_28 rfl (fun hc => ?_) (fun hc => ?_)
        · have h := hl_neg hc h
          refine hl_iload_n (i := 3) d184_40 rfl rfl ?_
          refine hl_i2l d184_41 ?_
          refine hl_lconst (x := 0) d184_42 (by decide) ?_
          refine hl_aload_n (i := 0) d184_43 rfl rfl (by decide) ?_
          refine hl_gi d184_44 gM_432_64 ?_
          refine hl_iconst d184_47 ki1 ?_
          refine hl_isub d184_48 ?_
          refine hl_i2l d184_49 ?_
          refine hl_cSi (D := (D + 4)) (z := y70) (n := 3) (av := [.long v3.toInt64, .long 0, .long (((x2.2.1 64 43) - 1).toInt64)]) (st := []) d184_50 mlM_216 rfl (Nat.le_of_ble_eq_true rfl) (Nat.le_of_ble_eq_true rfl) ((p_M_isIn D v3.toInt64 0 (((x2.2.1 64 43) - 1).toInt64) x2.2 rfl).dle (by omega)) ?_
          refine hl_if_eq (tg := 65) d184_53 rfl (fun hc => ?_) (fun hc => ?_)
          · have h := hl_pos hc h
            refine hl_iconst d184_65 kim1 ?_
            obtain ⟨e1, e2⟩ := hl_some2 h
            subst e1; subst e2
            exact hl_iret d184_66 rfl
          · have h := hl_neg hc h
            refine hl_aload_n (i := 0) d184_56 rfl rfl (by decide) ?_
            refine hl_gr d184_57 gM_92_64 ?_
            refine hl_iload_n (i := 3) d184_60 rfl rfl ?_
            obtain ⟨hb, h⟩ := hl_gd h
            refine hl_iald d184_61 sh88 (hl_b_in hb) ?_
            refine hl_goto (tg := 66) d184_62 rfl ?_
            obtain ⟨e1, e2⟩ := hl_some2 h
            subst e1; subst e2
            exact hl_iret d184_66 rfl
        · have h := hl_pos hc h
          refine hl_aload_n (i := 0) d184_31 rfl rfl (by decide) ?_
          refine hl_gr d184_32 gM_86_64 ?_
          refine hl_iconst d184_35 ki0 ?_
          obtain ⟨hb, h⟩ := hl_gd h
          refine hl_iald d184_36 sh86 (hl_b_in hb) ?_
          refine hl_goto (tg := 66) d184_37 rfl ?_
          obtain ⟨e1, e2⟩ := hl_some2 h
          subst e1; subst e2
          exact hl_iret d184_66 rfl
      · have h := hl_pos hc h
        refine hl_iconst d184_24 kim1 ?_
        obtain ⟨e1, e2⟩ := hl_some2 h
        subst e1; subst e2
        exact hl_iret d184_25 rfl
def f_Pt_soonestBeats (σ : hl_M) : Option (Int32) :=
  if hl_b (0 : Int32) 256 then
  some (σ.1 53 (0 : Int32).toNatClampNeg) else none
set_option maxRecDepth 20000 in
theorem p_Pt_soonestBeats {X : hl_X} (D : Nat) (σ : hl_M) {r : Int32} (h : f_Pt_soonestBeats σ = some r) : hl_R X D y191 0 [(0, .ref 38)] [] σ (some (.int r)) σ := by
  unfold f_Pt_soonestBeats at h
  refine hl_aload_n (i := 0) d191_0 rfl rfl (by decide) ?_
  refine hl_gr d191_1 gPt_32_38 ?_
  refine hl_iconst d191_4 ki0 ?_
  obtain ⟨hb, h⟩ := hl_gd h
  refine hl_iald d191_5 sh53 (hl_b_in hb) ?_
  have h := Option.some.inj h
  subst h
  exact hl_iret d191_6 rfl
def f_X_soon (v1 : Int32) (v2 : Int32) (σ : hl_M) : Option (Int32 × hl_M) :=
  (f_Pt_plan v1 v2 σ).bind fun x1 =>
  if x1.1 = 0 then
  some (((-1), x1.2)) else
  (f_Pt_soonestBeats x1.2).bind fun x2 =>
  some ((x2, x1.2))
set_option maxRecDepth 20000 in
theorem p_X_soon {X : hl_X} (D : Nat) (v1 : Int32) (v2 : Int32) (σ : hl_M) {r : Int32} {τ : hl_M} (h : f_X_soon v1 v2 σ = some (r, τ)) : hl_R X (D + 5) y190 0 [(0, .ref 0), (1, .int v1), (2, .int v2)] [] σ (some (.int r)) τ := by
  unfold f_X_soon at h
  refine hl_aload_n (i := 0) d190_0 rfl rfl (by decide) ?_
  refine hl_gr d190_1 gX_65_0 ?_
  refine hl_iload_n (i := 1) d190_4 rfl rfl ?_
  refine hl_iload_n (i := 2) d190_5 rfl rfl ?_
  obtain ⟨x1, hx1, h⟩ := hl_bind h
  refine hl_cVi (D := (D + 4)) (z := y177) (n := 2) (av := [.int v1, .int v2]) (st := []) d190_6 mlX_250 rfl (Nat.le_of_ble_eq_true rfl) (Nat.le_of_ble_eq_true rfl) rc38 ((p_Pt_plan D v1 v2 σ hx1).dle (by omega)) ?_
  refine hl_if_eq (tg := 22) d190_9 rfl (fun hc => ?_) (fun hc => ?_)
  · have h := hl_pos hc h
    refine hl_iconst d190_22 kim1 ?_
    obtain ⟨e1, e2⟩ := hl_some2 h
    subst e1; subst e2
    exact hl_iret d190_23 rfl
  · have h := hl_neg hc h
    refine hl_aload_n (i := 0) d190_12 rfl rfl (by decide) ?_
    refine hl_gr d190_13 gX_65_0 ?_
    obtain ⟨x2, hx2, h⟩ := hl_bind h
    refine hl_cVi (D := (D + 4)) (z := y191) (n := 0) (av := []) (st := []) d190_16 mlX_260 rfl (Nat.le_of_ble_eq_true rfl) (Nat.le_of_ble_eq_true rfl) rc38 ((p_Pt_soonestBeats D x1.2 hx2).dle (by omega)) ?_
    refine hl_goto (tg := 23) d190_19 rfl ?_
    obtain ⟨e1, e2⟩ := hl_some2 h
    subst e1; subst e2
    exact hl_iret d190_23 rfl
def f_M_soon (v1 : Int32) (v2 : Int32) (σ : hl_M) : Option (Int32 × hl_M) :=
  if (f_M_isBeat v1) = 0 then
  some (((-1), σ)) else
  (f_M_isWord v2 σ).bind fun x1 =>
  if x1 = 0 then
  some (((-1), σ)) else
  (f_M_canGo v1 v2 σ).bind fun x2 =>
  if x2.1 = 0 then
  some (((-1), x2.2)) else
  if hl_b (0 : Int32) 2304 then
  some ((x2.2.1 87 (0 : Int32).toNatClampNeg, x2.2)) else none
set_option maxRecDepth 20000 in
theorem p_M_soon {X : hl_X} (D : Nat) (v1 : Int32) (v2 : Int32) (σ : hl_M) {r : Int32} {τ : hl_M} (h : f_M_soon v1 v2 σ = some (r, τ)) : hl_R X (D + 4) y192 0 [(0, .ref 64), (1, .int v1), (2, .int v2)] [] σ (some (.int r)) τ := by
  unfold f_M_soon at h
  refine hl_iload_n (i := 1) d192_0 rfl rfl ?_
  refine hl_cSi (D := (D + 3)) (z := y139) (n := 1) (av := [.int v1]) (st := []) d192_1 mlM_409 rfl (Nat.le_of_ble_eq_true rfl) (Nat.le_of_ble_eq_true rfl) ((p_M_isBeat D v1 σ rfl).dle (by omega)) ?_
  refine hl_if_eq (tg := 33) d192_4 rfl (fun hc => ?_) (fun hc => ?_)
  · have h := hl_pos hc h
    refine hl_iconst d192_33 kim1 ?_
    obtain ⟨e1, e2⟩ := hl_some2 h
    subst e1; subst e2
    exact hl_iret d192_34 rfl
  · have h := hl_neg hc h
    refine hl_aload_n (i := 0) d192_7 rfl rfl (by decide) ?_
    refine hl_iload_n (i := 2) d192_8 rfl rfl ?_
    obtain ⟨x1, hx1, h⟩ := hl_bind h
    refine hl_cVi (D := (D + 3)) (z := y132) (n := 1) (av := [.int v2]) (st := []) d192_9 mlM_403 rfl (Nat.le_of_ble_eq_true rfl) (Nat.le_of_ble_eq_true rfl) rc64 ((p_M_isWord D v2 σ hx1).dle (by omega)) ?_
    refine hl_if_eq (tg := 33) d192_12 rfl (fun hc => ?_) (fun hc => ?_)
    · have h := hl_pos hc h
      refine hl_iconst d192_33 kim1 ?_
      obtain ⟨e1, e2⟩ := hl_some2 h
      subst e1; subst e2
      exact hl_iret d192_34 rfl
    · have h := hl_neg hc h
      refine hl_aload_n (i := 0) d192_15 rfl rfl (by decide) ?_
      refine hl_iload_n (i := 1) d192_16 rfl rfl ?_
      refine hl_iload_n (i := 2) d192_17 rfl rfl ?_
      obtain ⟨x2, hx2, h⟩ := hl_bind h
      refine hl_cVi (D := (D + 3)) (z := y186) (n := 2) (av := [.int v1, .int v2]) (st := []) d192_18 mlM_446 rfl (Nat.le_of_ble_eq_true rfl) (Nat.le_of_ble_eq_true rfl) rc64 ((p_M_canGo D v1 v2 σ hx2).dle (by omega)) ?_
      refine hl_if_eq (tg := 33) d192_21 rfl (fun hc => ?_) (fun hc => ?_)
      · have h := hl_pos hc h
        refine hl_iconst d192_33 kim1 ?_
        obtain ⟨e1, e2⟩ := hl_some2 h
        subst e1; subst e2
        exact hl_iret d192_34 rfl
      · have h := hl_neg hc h
        refine hl_aload_n (i := 0) d192_24 rfl rfl (by decide) ?_
        refine hl_gr d192_25 gM_89_64 ?_
        refine hl_iconst d192_28 ki0 ?_
        obtain ⟨hb, h⟩ := hl_gd h
        refine hl_iald d192_29 sh87 (hl_b_in hb) ?_
        refine hl_goto (tg := 34) d192_30 rfl ?_
        obtain ⟨e1, e2⟩ := hl_some2 h
        subst e1; subst e2
        exact hl_iret d192_34 rfl
def f_Pt_aim_L2 (v1 : Int32) (σ : hl_M) (s : Int32) : Option ((Int32) ⊕ ((Int32) ⊕ (Int32 × hl_M))) :=
  if (σ.1 38 4) ≤ s then
  some (.inr (.inr (((0, σ))))) else
  if hl_b s 8 then
  if (σ.1 41 s.toNatClampNeg) = v1 then
  some (.inr (.inl s)) else
  some (.inl (s + 1)) else none
def f_Pt_aim (v1 : Int32) (σ : hl_M) : Option (Int32 × hl_M) :=
  (hl_lp (f_Pt_aim_L2 v1 σ) hl_big 0).bind fun x1 =>
  Sum.elim (fun x2 =>
  if hl_b x2 8 then
  (f_Pt_spread (σ.1 54 x2.toNatClampNeg) σ).bind fun x3 =>
  some ((1, x3)) else none) (fun x4 =>
  some x4) x1
set_option maxRecDepth 20000 in
theorem p_Pt_aim_L2 {X : hl_X} (D : Nat) (v1 : Int32) (σ : hl_M) (s : Int32) {o : (Int32) ⊕ ((Int32) ⊕ (Int32 × hl_M))} {v : Option Value} {τ : hl_M} (h : f_Pt_aim_L2 v1 σ s = some o) (k1 : ∀ (c0 : Int32), o = .inl c0 → hl_R X (D + 4) y194 2 [(0, .ref 38), (1, .int v1), (2, .int c0)] [] σ v τ) (k2 : ∀ (a0 : Int32), o = .inr (.inl a0) → hl_R X (D + 4) y194 20 [(0, .ref 38), (2, .int a0)] [] σ v τ) (kr : ∀ (a : Int32) (b : hl_M), o = .inr (.inr ((a, b))) → v = some (.int a) ∧ τ = b) : hl_R X (D + 4) y194 2 [(0, .ref 38), (1, .int v1), (2, .int s)] [] σ v τ := by
  unfold f_Pt_aim_L2 at h
  refine hl_iload_n (i := 2) d194_2 rfl rfl ?_
  refine hl_aload_n (i := 0) d194_3 rfl rfl (by decide) ?_
  refine hl_gi d194_4 gPt_71_38 ?_
  refine hl_icmp_ge (tg := 38) d194_7 rfl (fun hc => ?_) (fun hc => ?_)
  · have h := hl_pos hc h
    refine hl_iconst d194_38 ki0 ?_
    have h := Option.some.inj h
    subst h
    obtain ⟨e1, e2⟩ := kr 0 σ rfl
    subst e1; subst e2
    exact hl_zret d194_39 rfl (by decide)
  · have h := hl_neg hc h
    refine hl_aload_n (i := 0) d194_10 rfl rfl (by decide) ?_
    refine hl_gr d194_11 gPt_18_38 ?_
    refine hl_iload_n (i := 2) d194_14 rfl rfl ?_
    obtain ⟨hb, h⟩ := hl_gd h
    refine hl_iald d194_15 sh41 (hl_b_in hb) ?_
    refine hl_iload_n (i := 1) d194_16 rfl rfl ?_
    refine hl_icmp_ne (tg := 32) d194_17 rfl (fun hc => ?_) (fun hc => ?_)
    · have h := hl_neg hc h
      refine hl_iinc (ls2 := [(2, .int (s + 1)), (0, .ref 38), (1, .int v1)]) d194_32 rfl kx1 (by decide) rfl ?_
      refine hl_goto (tg := 2) d194_35 rfl ?_
      have h := Option.some.inj h
      subst h
      exact hl_loc (k1 (s + 1) rfl) ⟨rfl, rfl, rfl, trivial⟩
    · have h := hl_pos hc h
      have h := Option.some.inj h
      subst h
      exact hl_loc (k2 s rfl) ⟨rfl, rfl, trivial⟩
set_option maxRecDepth 20000 in
theorem p_Pt_aim {X : hl_X} (D : Nat) (v1 : Int32) (σ : hl_M) {r : Int32} {τ : hl_M} (h : f_Pt_aim v1 σ = some (r, τ)) : hl_R X (D + 4) y194 0 [(0, .ref 38), (1, .int v1)] [] σ (some (.int r)) τ := by
  unfold f_Pt_aim at h
  refine hl_iconst d194_0 ki0 ?_
  refine hl_istore_n (i := 2) (ls2 := [(2, .int 0), (0, .ref 38), (1, .int v1)]) d194_1 rfl (by decide) rfl ?_
  obtain ⟨x1, hx1, h⟩ := hl_bind h
  refine hl_R.loc (ls' := [(0, .ref 38), (1, .int v1), (2, .int 0)]) ⟨rfl, rfl, rfl, trivial⟩ ?_
  refine hl_lp_run1 (P := fun (c0 : Int32) => hl_R X (D + 4) y194 2 [(0, .ref 38), (1, .int v1), (2, .int c0)] [] σ (some (.int r)) τ) (Sum.elim (fun x : Int32 => hl_R X (D + 4) y194 20 [(0, .ref 38), (2, .int x)] [] σ (some (.int r)) τ) (fun a : Int32 × hl_M => ((some (.int r)) : Option Value) = some (.int a.1) ∧ τ = a.2)) (fun c0 o ho h1 h2 => p_Pt_aim_L2 D v1 σ c0 ho h1 (fun a0 e => h2 (.inl a0) e) (fun a b e => h2 (.inr ((a, b))) e)) hl_big 0 x1 hx1 ?_
  rcases hl_sum h with ⟨x2, e_x2, h⟩ | ⟨x4, e_x4, h⟩
  · subst e_x2
    refine hl_aload_n (i := 0) d194_20 rfl rfl (by decide) ?_
    refine hl_aload_n (i := 0) d194_21 rfl rfl (by decide) ?_
    refine hl_gr d194_22 gPt_35_38 ?_
    refine hl_iload_n (i := 2) d194_25 rfl rfl ?_
    obtain ⟨hb, h⟩ := hl_gd h
    refine hl_iald d194_26 sh54 (hl_b_in hb) ?_
    obtain ⟨x3, hx3, h⟩ := hl_bind h
    refine hl_cVv (D := (D + 3)) (z := y179) (n := 1) (av := [.int (σ.1 54 x2.toNatClampNeg)]) (st := []) d194_27 mlPt_46 rfl (Nat.le_of_ble_eq_true rfl) (Nat.le_of_ble_eq_true rfl) rc38 ((p_Pt_spread D (σ.1 54 x2.toNatClampNeg) σ hx3).dle (by omega)) ?_
    refine hl_iconst d194_30 ki1 ?_
    obtain ⟨e1, e2⟩ := hl_some2 h
    subst e1; subst e2
    exact hl_zret d194_31 rfl (by decide)
  · subst e_x4
    cases h
    exact ⟨rfl, rfl⟩
def f_Pt_nearer_L2 (v1 : Int32) (σ : hl_M) (s : Int32) : Option ((Int32) ⊕ ((Unit) ⊕ (Int32))) :=
  if 4 ≤ s then
  some (.inr (.inl (()))) else
  (f_Gr_nextCell v1 s σ).bind fun x1 =>
  if (f_X_within v1 54) = 0 then
  some (.inl (s + 1)) else
  if (f_X_within x1 54) = 0 then
  some (.inl (s + 1)) else
  if hl_b x1 54 then
  if hl_b v1 54 then
  if (σ.1 39 v1.toNatClampNeg) ≤ (σ.1 39 x1.toNatClampNeg) then
  some (.inl (s + 1)) else
  some (.inr (.inr (s))) else none else none
def f_Pt_nearer (v1 : Int32) (σ : hl_M) : Option (Int32) :=
  (hl_lp (f_Pt_nearer_L2 v1 σ) hl_big 0).bind fun x2 =>
  Sum.elim (fun x3 =>
  some ((-1))) (fun x4 =>
  some x4) x2
set_option maxRecDepth 20000 in
theorem p_Pt_nearer_L2 {X : hl_X} (D : Nat) (v1 : Int32) (σ : hl_M) (s : Int32) {o : (Int32) ⊕ ((Unit) ⊕ (Int32))} {v : Option Value} (h : f_Pt_nearer_L2 v1 σ s = some o) (k1 : ∀ (c0 : Int32), o = .inl c0 → hl_R X (D + 3) y196 2 [(0, .ref 38), (1, .int v1), (2, .int c0)] [] σ v σ) (k2 : o = .inr (.inl ()) → hl_R X (D + 3) y196 58 [] [] σ v σ) (kr : ∀ (a : Int32), o = .inr (.inr (a)) → v = some (.int a)) : hl_R X (D + 3) y196 2 [(0, .ref 38), (1, .int v1), (2, .int s)] [] σ v σ := by
  unfold f_Pt_nearer_L2 at h
  refine hl_iload_n (i := 2) d196_2 rfl rfl ?_
  refine hl_iconst d196_3 ki4 ?_
  refine hl_icmp_ge (tg := 58) d196_4 rfl (fun hc => ?_) (fun hc => ?_)
  · have h := hl_pos hc h
    have h := Option.some.inj h
    subst h
    exact hl_loc (k2 rfl) trivial
  · have h := hl_neg hc h
    refine hl_aload_n (i := 0) d196_7 rfl rfl (by decide) ?_
    refine hl_gr d196_8 gPt_38_38 ?_
    refine hl_iload_n (i := 1) d196_11 rfl rfl ?_
    refine hl_iload_n (i := 2) d196_12 rfl rfl ?_
    obtain ⟨x1, hx1, h⟩ := hl_bind h
    refine hl_cVi (D := (D + 2)) (z := y60) (n := 2) (av := [.int v1, .int s]) (st := []) d196_13 mlPt_60 rfl (Nat.le_of_ble_eq_true rfl) (Nat.le_of_ble_eq_true rfl) rc4 ((p_Gr_nextCell D v1 s σ hx1).dle (by omega)) ?_
    refine hl_istore_n (i := 3) (ls2 := [(3, .int x1), (0, .ref 38), (1, .int v1), (2, .int s)]) d196_16 rfl (by decide) rfl ?_
    refine hl_iload_n (i := 1) d196_17 rfl rfl ?_
    refine hl_bipush d196_18 kb54 ?_
    refine hl_cNi (D := (D + 2)) (z := y2) (n := 2) (av := [.int v1, .int 54]) (st := []) d196_20 mlPt_50 rfl (Nat.le_of_ble_eq_true rfl) (Nat.le_of_ble_eq_true rfl) ((p_X_within D v1 54 σ rfl).dle (by omega)) ?_
    refine hl_if_eq (tg := 52) d196_23 rfl (fun hc => ?_) (fun hc => ?_)
    · have h := hl_pos hc h
      refine hl_iinc (ls2 := [(2, .int (s + 1)), (3, .int x1), (0, .ref 38), (1, .int v1)]) d196_52 rfl kx1 (by decide) rfl ?_
      refine hl_goto (tg := 2) d196_55 rfl ?_
      have h := Option.some.inj h
      subst h
      exact hl_loc (k1 (s + 1) rfl) ⟨rfl, rfl, rfl, trivial⟩
    · have h := hl_neg hc h
      refine hl_iload_n (i := 3) d196_26 rfl rfl ?_
      refine hl_bipush d196_27 kb54 ?_
      refine hl_cNi (D := (D + 2)) (z := y2) (n := 2) (av := [.int x1, .int 54]) (st := []) d196_29 mlPt_50 rfl (Nat.le_of_ble_eq_true rfl) (Nat.le_of_ble_eq_true rfl) ((p_X_within D x1 54 σ rfl).dle (by omega)) ?_
      refine hl_if_eq (tg := 52) d196_32 rfl (fun hc => ?_) (fun hc => ?_)
      · have h := hl_pos hc h
        refine hl_iinc (ls2 := [(2, .int (s + 1)), (3, .int x1), (0, .ref 38), (1, .int v1)]) d196_52 rfl kx1 (by decide) rfl ?_
        refine hl_goto (tg := 2) d196_55 rfl ?_
        have h := Option.some.inj h
        subst h
        exact hl_loc (k1 (s + 1) rfl) ⟨rfl, rfl, rfl, trivial⟩
      · have h := hl_neg hc h
        refine hl_aload_n (i := 0) d196_35 rfl rfl (by decide) ?_
        refine hl_gr d196_36 gPt_9_38 ?_
        refine hl_iload_n (i := 3) d196_39 rfl rfl ?_
        obtain ⟨hb, h⟩ := hl_gd h
        refine hl_iald d196_40 sh39 (hl_b_in hb) ?_
        refine hl_aload_n (i := 0) d196_41 rfl rfl (by decide) ?_
        refine hl_gr d196_42 gPt_9_38 ?_
        refine hl_iload_n (i := 1) d196_45 rfl rfl ?_
        obtain ⟨hb, h⟩ := hl_gd h
        refine hl_iald d196_46 sh39 (hl_b_in hb) ?_
        refine hl_icmp_ge (tg := 52) d196_47 rfl (fun hc => ?_) (fun hc => ?_)
        · have h := hl_pos hc h
          refine hl_iinc (ls2 := [(2, .int (s + 1)), (3, .int x1), (0, .ref 38), (1, .int v1)]) d196_52 rfl kx1 (by decide) rfl ?_
          refine hl_goto (tg := 2) d196_55 rfl ?_
          have h := Option.some.inj h
          subst h
          exact hl_loc (k1 (s + 1) rfl) ⟨rfl, rfl, rfl, trivial⟩
        · have h := hl_neg hc h
          refine hl_iload_n (i := 2) d196_50 rfl rfl ?_
          have h := Option.some.inj h
          subst h
          have e1 := kr s rfl
          subst e1
          exact hl_iret d196_51 rfl
set_option maxRecDepth 20000 in
theorem p_Pt_nearer {X : hl_X} (D : Nat) (v1 : Int32) (σ : hl_M) {r : Int32} (h : f_Pt_nearer v1 σ = some r) : hl_R X (D + 3) y196 0 [(0, .ref 38), (1, .int v1)] [] σ (some (.int r)) σ := by
  unfold f_Pt_nearer at h
  refine hl_iconst d196_0 ki0 ?_
  refine hl_istore_n (i := 2) (ls2 := [(2, .int 0), (0, .ref 38), (1, .int v1)]) d196_1 rfl (by decide) rfl ?_
  obtain ⟨x2, hx2, h⟩ := hl_bind h
  refine hl_R.loc (ls' := [(0, .ref 38), (1, .int v1), (2, .int 0)]) ⟨rfl, rfl, rfl, trivial⟩ ?_
  refine hl_lp_run1 (P := fun (c0 : Int32) => hl_R X (D + 3) y196 2 [(0, .ref 38), (1, .int v1), (2, .int c0)] [] σ (some (.int r)) σ) (Sum.elim (fun x : Unit => hl_R X (D + 3) y196 58 [] [] σ (some (.int r)) σ) (fun a : Int32 => ((some (.int r)) : Option Value) = some (.int a))) (fun c0 o ho h1 h2 => p_Pt_nearer_L2 D v1 σ c0 ho h1 (fun e => h2 (.inl ()) e) (fun a e => h2 (.inr (a)) e)) hl_big 0 x2 hx2 ?_
  rcases hl_sum h with ⟨x3, e_x3, h⟩ | ⟨x4, e_x4, h⟩
  · subst e_x3
    refine hl_iconst d196_58 kim1 ?_
    have h := Option.some.inj h
    subst h
    exact hl_iret d196_59 rfl
  · subst e_x4
    cases h
    rfl
def f_Pt_stepOfWay_L5 (v2 : Int32) (σ : hl_M) (s : Int32 × Int32) : Option ((Int32 × Int32) ⊕ (Int32)) :=
  if v2 ≤ s.2 then
  some (.inr s.1) else
  if 54 ≤ s.2 then
  some (.inr s.1) else
  (f_Pt_nearer s.1 σ).bind fun x1 =>
  (f_Gr_nextCell s.1 x1 σ).bind fun x2 =>
  some (.inl ((x2, s.2 + 1)))
def f_Pt_stepOfWay (v1 : Int32) (v2 : Int32) (σ : hl_M) : Option (Int32) :=
  (hl_lp (f_Pt_stepOfWay_L5 v2 σ) hl_big ((v1, 0))).bind fun x3 =>
  (f_Pt_nearer x3 σ).bind fun x4 =>
  some x4
set_option maxRecDepth 20000 in
theorem p_Pt_stepOfWay_L5 {X : hl_X} (D : Nat) (v2 : Int32) (σ : hl_M) (s : Int32 × Int32) {o : (Int32 × Int32) ⊕ (Int32)} {v : Option Value} (h : f_Pt_stepOfWay_L5 v2 σ s = some o) (k1 : ∀ (c0 : Int32) (c1 : Int32), o = .inl ((c0, c1)) → hl_R X (D + 4) y195 5 [(0, .ref 38), (2, .int v2), (3, .int c0), (4, .int c1)] [] σ v σ) (k2 : ∀ (a0 : Int32), o = .inr a0 → hl_R X (D + 4) y195 38 [(0, .ref 38), (3, .int a0)] [] σ v σ) : hl_R X (D + 4) y195 5 [(0, .ref 38), (2, .int v2), (3, .int s.1), (4, .int s.2)] [] σ v σ := by
  unfold f_Pt_stepOfWay_L5 at h
  refine hl_iload d195_5 rfl ?_
  refine hl_iload_n (i := 2) d195_7 rfl rfl ?_
  refine hl_icmp_ge (tg := 38) d195_8 rfl (fun hc => ?_) (fun hc => ?_)
  · have h := hl_pos hc h
    have h := Option.some.inj h
    subst h
    exact hl_loc (k2 s.1 rfl) ⟨rfl, rfl, trivial⟩
  · have h := hl_neg hc h
    refine hl_iload d195_11 rfl ?_
    refine hl_bipush d195_13 kb54 ?_
    refine hl_icmp_ge (tg := 38) d195_15 rfl (fun hc => ?_) (fun hc => ?_)
    · have h := hl_pos hc h
      have h := Option.some.inj h
      subst h
      exact hl_loc (k2 s.1 rfl) ⟨rfl, rfl, trivial⟩
    · have h := hl_neg hc h
      refine hl_aload_n (i := 0) d195_18 rfl rfl (by decide) ?_
      refine hl_gr d195_19 gPt_38_38 ?_
      refine hl_iload_n (i := 3) d195_22 rfl rfl ?_
      refine hl_aload_n (i := 0) d195_23 rfl rfl (by decide) ?_
      refine hl_iload_n (i := 3) d195_24 rfl rfl ?_
      obtain ⟨x1, hx1, h⟩ := hl_bind h
      refine hl_cVi (D := (D + 3)) (z := y196) (n := 1) (av := [.int s.1]) (st := [.int s.1, .ref 4]) d195_25 mlPt_125 rfl (Nat.le_of_ble_eq_true rfl) (Nat.le_of_ble_eq_true rfl) rc38 ((p_Pt_nearer D s.1 σ hx1).dle (by omega)) ?_
      obtain ⟨x2, hx2, h⟩ := hl_bind h
      refine hl_cVi (D := (D + 3)) (z := y60) (n := 2) (av := [.int s.1, .int x1]) (st := []) d195_28 mlPt_60 rfl (Nat.le_of_ble_eq_true rfl) (Nat.le_of_ble_eq_true rfl) rc4 ((p_Gr_nextCell D s.1 x1 σ hx2).dle (by omega)) ?_
      refine hl_istore_n (i := 3) (ls2 := [(3, .int x2), (0, .ref 38), (2, .int v2), (4, .int s.2)]) d195_31 rfl (by decide) rfl ?_
      refine hl_iinc (ls2 := [(4, .int (s.2 + 1)), (3, .int x2), (0, .ref 38), (2, .int v2)]) d195_32 rfl kx1 (by decide) rfl ?_
      refine hl_goto (tg := 5) d195_35 rfl ?_
      have h := Option.some.inj h
      subst h
      exact hl_loc (k1 x2 (s.2 + 1) rfl) ⟨rfl, rfl, rfl, rfl, trivial⟩
set_option maxRecDepth 20000 in
theorem p_Pt_stepOfWay {X : hl_X} (D : Nat) (v1 : Int32) (v2 : Int32) (σ : hl_M) {r : Int32} (h : f_Pt_stepOfWay v1 v2 σ = some r) : hl_R X (D + 4) y195 0 [(0, .ref 38), (1, .int v1), (2, .int v2)] [] σ (some (.int r)) σ := by
  unfold f_Pt_stepOfWay at h
  refine hl_iload_n (i := 1) d195_0 rfl rfl ?_
  refine hl_istore_n (i := 3) (ls2 := [(3, .int v1), (0, .ref 38), (1, .int v1), (2, .int v2)]) d195_1 rfl (by decide) rfl ?_
  refine hl_iconst d195_2 ki0 ?_
  refine hl_istore (ls2 := [(4, .int 0), (3, .int v1), (0, .ref 38), (1, .int v1), (2, .int v2)]) d195_3 (by decide) rfl ?_
  obtain ⟨x3, hx3, h⟩ := hl_bind h
  refine hl_R.loc (ls' := [(0, .ref 38), (2, .int v2), (3, .int v1), (4, .int 0)]) ⟨rfl, rfl, rfl, rfl, trivial⟩ ?_
  refine hl_lp_run2 (P := fun (c0 : Int32) (c1 : Int32) => hl_R X (D + 4) y195 5 [(0, .ref 38), (2, .int v2), (3, .int c0), (4, .int c1)] [] σ (some (.int r)) σ) (fun x : Int32 => hl_R X (D + 4) y195 38 [(0, .ref 38), (3, .int x)] [] σ (some (.int r)) σ) (fun c0 c1 o ho h1 h2 => p_Pt_stepOfWay_L5 D v2 σ (c0, c1) ho h1 (fun a0 e => h2 a0 e)) hl_big v1 0 x3 hx3 ?_
  refine hl_aload_n (i := 0) d195_38 rfl rfl (by decide) ?_
  refine hl_iload_n (i := 3) d195_39 rfl rfl ?_
  obtain ⟨x4, hx4, h⟩ := hl_bind h
  refine hl_cVi (D := (D + 3)) (z := y196) (n := 1) (av := [.int x3]) (st := []) d195_40 mlPt_125 rfl (Nat.le_of_ble_eq_true rfl) (Nat.le_of_ble_eq_true rfl) rc38 ((p_Pt_nearer D x3 σ hx4).dle (by omega)) ?_
  have h := Option.some.inj h
  subst h
  exact hl_iret d195_43 rfl
def f_X_way (v1 : Int32) (v2 : Int32) (v3 : Int32) (v4 : Int32) (σ : hl_M) : Option (Int32 × hl_M) :=
  if v4 < 0 then
  some (((-1), σ)) else
  (f_Pt_plan v1 v2 σ).bind fun x1 =>
  if x1.1 = 0 then
  some (((-1), x1.2)) else
  (f_Pt_aim v3 x1.2).bind fun x2 =>
  if x2.1 = 0 then
  some (((-1), x2.2)) else
  (f_Wk_cellOf v3 v1 x2.2).bind fun x3 =>
  (f_Pt_stepOfWay x3 v4 x2.2).bind fun x4 =>
  some ((x4, x2.2))
set_option maxRecDepth 20000 in
theorem p_X_way {X : hl_X} (D : Nat) (v1 : Int32) (v2 : Int32) (v3 : Int32) (v4 : Int32) (σ : hl_M) {r : Int32} {τ : hl_M} (h : f_X_way v1 v2 v3 v4 σ = some (r, τ)) : hl_R X (D + 5) y193 0 [(0, .ref 0), (1, .int v1), (2, .int v2), (3, .int v3), (4, .int v4)] [] σ (some (.int r)) τ := by
  unfold f_X_way at h
  refine hl_iload d193_0 rfl ?_
  refine hl_if_lt (tg := 28) d193_2 rfl (fun hc => ?_) (fun hc => ?_)
  · have h := hl_pos hc h
    refine hl_iconst d193_28 kim1 ?_
    obtain ⟨e1, e2⟩ := hl_some2 h
    subst e1; subst e2
    exact hl_iret d193_29 rfl
  · have h := hl_neg hc h
    refine hl_aload_n (i := 0) d193_5 rfl rfl (by decide) ?_
    refine hl_gr d193_6 gX_65_0 ?_
    refine hl_iload_n (i := 1) d193_9 rfl rfl ?_
    refine hl_iload_n (i := 2) d193_10 rfl rfl ?_
    obtain ⟨x1, hx1, h⟩ := hl_bind h
    refine hl_cVi (D := (D + 4)) (z := y177) (n := 2) (av := [.int v1, .int v2]) (st := []) d193_11 mlX_250 rfl (Nat.le_of_ble_eq_true rfl) (Nat.le_of_ble_eq_true rfl) rc38 ((p_Pt_plan D v1 v2 σ hx1).dle (by omega)) ?_
    refine hl_if_eq (tg := 28) d193_14 rfl (fun hc => ?_) (fun hc => ?_)
    · have h := hl_pos hc h
      refine hl_iconst d193_28 kim1 ?_
      obtain ⟨e1, e2⟩ := hl_some2 h
      subst e1; subst e2
      exact hl_iret d193_29 rfl
    · have h := hl_neg hc h
      refine hl_aload_n (i := 0) d193_17 rfl rfl (by decide) ?_
      refine hl_gr d193_18 gX_65_0 ?_
      refine hl_iload_n (i := 3) d193_21 rfl rfl ?_
      obtain ⟨x2, hx2, h⟩ := hl_bind h
      refine hl_cVi (D := (D + 4)) (z := y194) (n := 1) (av := [.int v3]) (st := []) d193_22 mlX_263 rfl (Nat.le_of_ble_eq_true rfl) (Nat.le_of_ble_eq_true rfl) rc38 ((p_Pt_aim D v3 x1.2 hx2).dle (by omega)) ?_
      refine hl_if_ne (tg := 30) d193_25 rfl (fun hc => ?_) (fun hc => ?_)
      · have h := hl_neg hc h
        refine hl_aload_n (i := 0) d193_30 rfl rfl (by decide) ?_
        refine hl_gr d193_31 gX_65_0 ?_
        refine hl_aload_n (i := 0) d193_34 rfl rfl (by decide) ?_
        refine hl_gr d193_35 gX_49_0 ?_
        refine hl_iload_n (i := 3) d193_38 rfl rfl ?_
        refine hl_iload_n (i := 1) d193_39 rfl rfl ?_
        obtain ⟨x3, hx3, h⟩ := hl_bind h
        refine hl_cVi (D := (D + 4)) (z := y104) (n := 2) (av := [.int v3, .int v1]) (st := [.ref 38]) d193_40 mlX_216 rfl (Nat.le_of_ble_eq_true rfl) (Nat.le_of_ble_eq_true rfl) rc25 ((p_Wk_cellOf D v3 v1 x2.2 hx3).dle (by omega)) ?_
        refine hl_iload d193_43 rfl ?_
        obtain ⟨x4, hx4, h⟩ := hl_bind h
        refine hl_cVi (D := (D + 4)) (z := y195) (n := 2) (av := [.int x3, .int v4]) (st := []) d193_45 mlX_267 rfl (Nat.le_of_ble_eq_true rfl) (Nat.le_of_ble_eq_true rfl) rc38 ((p_Pt_stepOfWay D x3 v4 x2.2 hx4).dle (by omega)) ?_
        obtain ⟨e1, e2⟩ := hl_some2 h
        subst e1; subst e2
        exact hl_iret d193_48 rfl
      · have h := hl_pos hc h
        refine hl_iconst d193_28 kim1 ?_
        obtain ⟨e1, e2⟩ := hl_some2 h
        subst e1; subst e2
        exact hl_iret d193_29 rfl
def f_M_bearerOf_L2 (v1 : Int32) (σ : hl_M) (s : Int32) : Option ((Int32) ⊕ ((Unit) ⊕ (Int32))) :=
  if (σ.1 64 41) ≤ s then
  some (.inr (.inl (()))) else
  if hl_b s 10 then
  if (σ.1 84 s.toNatClampNeg) = v1 then
  some (.inr (.inr (s))) else
  some (.inl (s + 1)) else none
def f_M_bearerOf (v1 : Int32) (σ : hl_M) : Option (Int32) :=
  (hl_lp (f_M_bearerOf_L2 v1 σ) hl_big 0).bind fun x1 =>
  Sum.elim (fun x2 =>
  some ((-1))) (fun x3 =>
  some x3) x1
set_option maxRecDepth 20000 in
theorem p_M_bearerOf_L2 {X : hl_X} (D : Nat) (v1 : Int32) (σ : hl_M) (s : Int32) {o : (Int32) ⊕ ((Unit) ⊕ (Int32))} {v : Option Value} (h : f_M_bearerOf_L2 v1 σ s = some o) (k1 : ∀ (c0 : Int32), o = .inl c0 → hl_R X D y198 2 [(0, .ref 64), (1, .int v1), (2, .int c0)] [] σ v σ) (k2 : o = .inr (.inl ()) → hl_R X D y198 28 [] [] σ v σ) (kr : ∀ (a : Int32), o = .inr (.inr (a)) → v = some (.int a)) : hl_R X D y198 2 [(0, .ref 64), (1, .int v1), (2, .int s)] [] σ v σ := by
  unfold f_M_bearerOf_L2 at h
  refine hl_iload_n (i := 2) d198_2 rfl rfl ?_
  refine hl_aload_n (i := 0) d198_3 rfl rfl (by decide) ?_
  refine hl_gi d198_4 gM_429_64 ?_
  refine hl_icmp_ge (tg := 28) d198_7 rfl (fun hc => ?_) (fun hc => ?_)
  · have h := hl_pos hc h
    have h := Option.some.inj h
    subst h
    exact hl_loc (k2 rfl) trivial
  · have h := hl_neg hc h
    refine hl_aload_n (i := 0) d198_10 rfl rfl (by decide) ?_
    refine hl_gr d198_11 gM_80_64 ?_
    refine hl_iload_n (i := 2) d198_14 rfl rfl ?_
    obtain ⟨hb, h⟩ := hl_gd h
    refine hl_iald d198_15 sh84 (hl_b_in hb) ?_
    refine hl_iload_n (i := 1) d198_16 rfl rfl ?_
    refine hl_icmp_ne (tg := 22) d198_17 rfl (fun hc => ?_) (fun hc => ?_)
    · have h := hl_neg hc h
      refine hl_iinc (ls2 := [(2, .int (s + 1)), (0, .ref 64), (1, .int v1)]) d198_22 rfl kx1 (by decide) rfl ?_
      refine hl_goto (tg := 2) d198_25 rfl ?_
      have h := Option.some.inj h
      subst h
      exact hl_loc (k1 (s + 1) rfl) ⟨rfl, rfl, rfl, trivial⟩
    · have h := hl_pos hc h
      refine hl_iload_n (i := 2) d198_20 rfl rfl ?_
      have h := Option.some.inj h
      subst h
      have e1 := kr s rfl
      subst e1
      exact hl_iret d198_21 rfl
set_option maxRecDepth 20000 in
theorem p_M_bearerOf {X : hl_X} (D : Nat) (v1 : Int32) (σ : hl_M) {r : Int32} (h : f_M_bearerOf v1 σ = some r) : hl_R X D y198 0 [(0, .ref 64), (1, .int v1)] [] σ (some (.int r)) σ := by
  unfold f_M_bearerOf at h
  refine hl_iconst d198_0 ki0 ?_
  refine hl_istore_n (i := 2) (ls2 := [(2, .int 0), (0, .ref 64), (1, .int v1)]) d198_1 rfl (by decide) rfl ?_
  obtain ⟨x1, hx1, h⟩ := hl_bind h
  refine hl_R.loc (ls' := [(0, .ref 64), (1, .int v1), (2, .int 0)]) ⟨rfl, rfl, rfl, trivial⟩ ?_
  refine hl_lp_run1 (P := fun (c0 : Int32) => hl_R X D y198 2 [(0, .ref 64), (1, .int v1), (2, .int c0)] [] σ (some (.int r)) σ) (Sum.elim (fun x : Unit => hl_R X D y198 28 [] [] σ (some (.int r)) σ) (fun a : Int32 => ((some (.int r)) : Option Value) = some (.int a))) (fun c0 o ho h1 h2 => p_M_bearerOf_L2 D v1 σ c0 ho h1 (fun e => h2 (.inl ()) e) (fun a e => h2 (.inr (a)) e)) hl_big 0 x1 hx1 ?_
  rcases hl_sum h with ⟨x2, e_x2, h⟩ | ⟨x3, e_x3, h⟩
  · subst e_x2
    refine hl_iconst d198_28 kim1 ?_
    have h := Option.some.inj h
    subst h
    exact hl_iret d198_29 rfl
  · subst e_x3
    cases h
    rfl
def f_M_stepNearer_L2 (v1 : Int32) (v2 : Int32) (σ : hl_M) (s : Int32) : Option ((Int32) ⊕ (Int32)) :=
  (f_M_stepped v1 s σ).bind fun x1 =>
  if hl_b ((54 * x1) + v2) 2916 then
  if hl_b ((54 * v1) + v2) 2916 then
  if (σ.1 81 ((54 * x1) + v2).toNatClampNeg) = ((σ.1 81 ((54 * v1) + v2).toNatClampNeg) - 1) then
  some (.inr s) else
  some (.inl (s + 1)) else none else none
def f_M_stepNearer (v1 : Int32) (v2 : Int32) (σ : hl_M) : Option (Int32) :=
  (hl_lp (f_M_stepNearer_L2 v1 v2 σ) hl_big 0).bind fun x2 =>
  some x2
set_option maxRecDepth 20000 in
theorem p_M_stepNearer_L2 {X : hl_X} (D : Nat) (v1 : Int32) (v2 : Int32) (σ : hl_M) (s : Int32) {o : (Int32) ⊕ (Int32)} {v : Option Value} (h : f_M_stepNearer_L2 v1 v2 σ s = some o) (k1 : ∀ (c0 : Int32), o = .inl c0 → hl_R X (D + 2) y199 2 [(0, .ref 64), (1, .int v1), (2, .int v2), (3, .int c0)] [] σ v σ) (k2 : ∀ (a0 : Int32), o = .inr a0 → hl_R X (D + 2) y199 40 [(3, .int a0)] [] σ v σ) : hl_R X (D + 2) y199 2 [(0, .ref 64), (1, .int v1), (2, .int v2), (3, .int s)] [] σ v σ := by
  unfold f_M_stepNearer_L2 at h
  refine hl_aload_n (i := 0) d199_2 rfl rfl (by decide) ?_
  refine hl_gr d199_3 gM_65_64 ?_
  refine hl_bipush d199_6 kb54 ?_
  refine hl_aload_n (i := 0) d199_8 rfl rfl (by decide) ?_
  refine hl_iload_n (i := 1) d199_9 rfl rfl ?_
  refine hl_iload_n (i := 3) d199_10 rfl rfl ?_
  obtain ⟨x1, hx1, h⟩ := hl_bind h
  refine hl_cVi (D := (D + 1)) (z := y91) (n := 2) (av := [.int v1, .int s]) (st := [.int 54, .ref 81]) d199_11 mlM_329 rfl (Nat.le_of_ble_eq_true rfl) (Nat.le_of_ble_eq_true rfl) rc64 ((p_M_stepped D v1 s σ hx1).dle (by omega)) ?_
  refine hl_imul d199_14 ?_
  refine hl_iload_n (i := 2) d199_15 rfl rfl ?_
  refine hl_iadd d199_16 ?_
  obtain ⟨hb, h⟩ := hl_gd h
  refine hl_iald d199_17 sh81 (hl_b_in hb) ?_
  refine hl_aload_n (i := 0) d199_18 rfl rfl (by decide) ?_
  refine hl_gr d199_19 gM_65_64 ?_
  refine hl_bipush d199_22 kb54 ?_
  refine hl_iload_n (i := 1) d199_24 rfl rfl ?_
  refine hl_imul d199_25 ?_
  refine hl_iload_n (i := 2) d199_26 rfl rfl ?_
  refine hl_iadd d199_27 ?_
  obtain ⟨hb, h⟩ := hl_gd h
  refine hl_iald d199_28 sh81 (hl_b_in hb) ?_
  refine hl_iconst d199_29 ki1 ?_
  refine hl_isub d199_30 ?_
  refine hl_icmp_eq (tg := 40) d199_31 rfl (fun hc => ?_) (fun hc => ?_)
  · have h := hl_pos hc h
    have h := Option.some.inj h
    subst h
    exact hl_loc (k2 s rfl) ⟨rfl, trivial⟩
  · have h := hl_neg hc h
    refine hl_iinc (ls2 := [(3, .int (s + 1)), (0, .ref 64), (1, .int v1), (2, .int v2)]) d199_34 rfl kx1 (by decide) rfl ?_
    refine hl_goto (tg := 2) d199_37 rfl ?_
    have h := Option.some.inj h
    subst h
    exact hl_loc (k1 (s + 1) rfl) ⟨rfl, rfl, rfl, rfl, trivial⟩
set_option maxRecDepth 20000 in
theorem p_M_stepNearer {X : hl_X} (D : Nat) (v1 : Int32) (v2 : Int32) (σ : hl_M) {r : Int32} (h : f_M_stepNearer v1 v2 σ = some r) : hl_R X (D + 2) y199 0 [(0, .ref 64), (1, .int v1), (2, .int v2)] [] σ (some (.int r)) σ := by
  unfold f_M_stepNearer at h
  refine hl_iconst d199_0 ki0 ?_
  refine hl_istore_n (i := 3) (ls2 := [(3, .int 0), (0, .ref 64), (1, .int v1), (2, .int v2)]) d199_1 rfl (by decide) rfl ?_
  obtain ⟨x2, hx2, h⟩ := hl_bind h
  refine hl_R.loc (ls' := [(0, .ref 64), (1, .int v1), (2, .int v2), (3, .int 0)]) ⟨rfl, rfl, rfl, rfl, trivial⟩ ?_
  refine hl_lp_run1 (P := fun (c0 : Int32) => hl_R X (D + 2) y199 2 [(0, .ref 64), (1, .int v1), (2, .int v2), (3, .int c0)] [] σ (some (.int r)) σ) (fun x : Int32 => hl_R X (D + 2) y199 40 [(3, .int x)] [] σ (some (.int r)) σ) (fun c0 o ho h1 h2 => p_M_stepNearer_L2 D v1 v2 σ c0 ho h1 (fun a0 e => h2 a0 e)) hl_big 0 x2 hx2 ?_
  refine hl_iload_n (i := 3) d199_40 rfl rfl ?_
  have h := Option.some.inj h
  subst h
  exact hl_iret d199_41 rfl
def f_M_way_L93 (v4 : Int32) (v5 : Int32) (σ : hl_M) (s : Int32 × Int32) : Option ((Int32 × Int32) ⊕ (Int32)) :=
  if v4 ≤ s.2 then
  some (.inr s.1) else
  if hl_b v5 10 then
  (f_M_stepNearer s.1 (σ.1 88 v5.toNatClampNeg) σ).bind fun x6 =>
  (f_M_stepped s.1 x6 σ).bind fun x7 =>
  some (.inl ((x7, s.2 + 1))) else none
def f_M_way (v1 : Int32) (v2 : Int32) (v3 : Int32) (v4 : Int32) (σ : hl_M) : Option (Int32 × hl_M) :=
  if (f_M_isBeat v1) = 0 then
  some (((-1), σ)) else
  (f_M_isWord v2 σ).bind fun x1 =>
  if x1 = 0 then
  some (((-1), σ)) else
  (f_M_isPerson v3 σ).bind fun x2 =>
  if x2 = 0 then
  some (((-1), σ)) else
  (f_M_goes v1 v2 σ).bind fun x3 =>
  if x3.1 = 0 then
  some (((-1), x3.2)) else
  (f_M_bearerOf v3 x3.2).bind fun x4 =>
  if x4 = ((-1)) then
  some (((-1), x3.2)) else
  (f_M_whereIn v3 v1 x3.2).bind fun x5 =>
  if hl_b x4 10 then
  if hl_b ((54 * x5) + (x3.2.1 88 x4.toNatClampNeg)) 2916 then
  if (f_M_isIn v4.toInt64 0 (((x3.2.1 81 ((54 * x5) + (x3.2.1 88 x4.toNatClampNeg)).toNatClampNeg) - 1).toInt64)) = 0 then
  some (((-1), x3.2)) else
  (hl_lp (f_M_way_L93 v4 x4 x3.2) hl_big ((x5, 0))).bind fun x8 =>
  if hl_b x4 10 then
  (f_M_stepNearer x8 (x3.2.1 88 x4.toNatClampNeg) x3.2).bind fun x9 =>
  some ((x9, x3.2)) else none else none else none
set_option maxRecDepth 20000 in
theorem p_M_way_L93 {X : hl_X} (D : Nat) (v4 : Int32) (v5 : Int32) (σ : hl_M) (s : Int32 × Int32) {o : (Int32 × Int32) ⊕ (Int32)} {v : Option Value} {τ : hl_M} (h : f_M_way_L93 v4 v5 σ s = some o) (k1 : ∀ (c0 : Int32) (c1 : Int32), o = .inl ((c0, c1)) → hl_R X (D + 5) y197 93 [(0, .ref 64), (4, .int v4), (5, .int v5), (6, .int c0), (7, .int c1)] [] σ v τ) (k2 : ∀ (a0 : Int32), o = .inr a0 → hl_R X (D + 5) y197 127 [(0, .ref 64), (5, .int v5), (6, .int a0)] [] σ v τ) : hl_R X (D + 5) y197 93 [(0, .ref 64), (4, .int v4), (5, .int v5), (6, .int s.1), (7, .int s.2)] [] σ v τ := by
  unfold f_M_way_L93 at h
  refine hl_iload d197_93 rfl ?_
  refine hl_iload d197_95 rfl ?_
  refine hl_icmp_ge (tg := 127) d197_97 rfl (fun hc => ?_) (fun hc => ?_)
  · have h := hl_pos hc h
    have h := Option.some.inj h
    subst h
    exact hl_loc (k2 s.1 rfl) ⟨rfl, rfl, rfl, trivial⟩
  · have h := hl_neg hc h
    refine hl_aload_n (i := 0) d197_100 rfl rfl (by decide) ?_
    refine hl_iload d197_101 rfl ?_
    refine hl_aload_n (i := 0) d197_103 rfl rfl (by decide) ?_
    refine hl_iload d197_104 rfl ?_
    refine hl_aload_n (i := 0) d197_106 rfl rfl (by decide) ?_
    refine hl_gr d197_107 gM_92_64 ?_
    refine hl_iload d197_110 rfl ?_
    obtain ⟨hb, h⟩ := hl_gd h
    refine hl_iald d197_112 sh88 (hl_b_in hb) ?_
    obtain ⟨x6, hx6, h⟩ := hl_bind h
    refine hl_cVi (D := (D + 4)) (z := y199) (n := 2) (av := [.int s.1, .int (σ.1 88 v5.toNatClampNeg)]) (st := [.int s.1, .ref 64]) d197_113 mlM_456 rfl (Nat.le_of_ble_eq_true rfl) (Nat.le_of_ble_eq_true rfl) rc64 ((p_M_stepNearer D s.1 (σ.1 88 v5.toNatClampNeg) σ hx6).dle (by omega)) ?_
    obtain ⟨x7, hx7, h⟩ := hl_bind h
    refine hl_cVi (D := (D + 4)) (z := y91) (n := 2) (av := [.int s.1, .int x6]) (st := []) d197_116 mlM_329 rfl (Nat.le_of_ble_eq_true rfl) (Nat.le_of_ble_eq_true rfl) rc64 ((p_M_stepped D s.1 x6 σ hx7).dle (by omega)) ?_
    refine hl_istore (ls2 := [(6, .int x7), (0, .ref 64), (4, .int v4), (5, .int v5), (7, .int s.2)]) d197_119 (by decide) rfl ?_
    refine hl_iinc (ls2 := [(7, .int (s.2 + 1)), (6, .int x7), (0, .ref 64), (4, .int v4), (5, .int v5)]) d197_121 rfl kx1 (by decide) rfl ?_
    refine hl_goto (tg := 93) d197_124 rfl ?_
    have h := Option.some.inj h
    subst h
    exact hl_loc (k1 x7 (s.2 + 1) rfl) ⟨rfl, rfl, rfl, rfl, rfl, trivial⟩
set_option maxRecDepth 20000 in
theorem p_M_way {X : hl_X} (D : Nat) (v1 : Int32) (v2 : Int32) (v3 : Int32) (v4 : Int32) (σ : hl_M) {r : Int32} {τ : hl_M} (h : f_M_way v1 v2 v3 v4 σ = some (r, τ)) : hl_R X (D + 5) y197 0 [(0, .ref 64), (1, .int v1), (2, .int v2), (3, .int v3), (4, .int v4)] [] σ (some (.int r)) τ := by
  unfold f_M_way at h
  refine hl_iload_n (i := 1) d197_0 rfl rfl ?_
  refine hl_cSi (D := (D + 4)) (z := y139) (n := 1) (av := [.int v1]) (st := []) d197_1 mlM_409 rfl (Nat.le_of_ble_eq_true rfl) (Nat.le_of_ble_eq_true rfl) ((p_M_isBeat D v1 σ rfl).dle (by omega)) ?_
  refine hl_if_eq (tg := 32) d197_4 rfl (fun hc => ?_) (fun hc => ?_)
  · have h := hl_pos hc h
    refine hl_iconst d197_32 kim1 ?_
    obtain ⟨e1, e2⟩ := hl_some2 h
    subst e1; subst e2
    exact hl_iret d197_33 rfl
  · have h := hl_neg hc h
    refine hl_aload_n (i := 0) d197_7 rfl rfl (by decide) ?_
    refine hl_iload_n (i := 2) d197_8 rfl rfl ?_
    obtain ⟨x1, hx1, h⟩ := hl_bind h
    refine hl_cVi (D := (D + 4)) (z := y132) (n := 1) (av := [.int v2]) (st := []) d197_9 mlM_403 rfl (Nat.le_of_ble_eq_true rfl) (Nat.le_of_ble_eq_true rfl) rc64 ((p_M_isWord D v2 σ hx1).dle (by omega)) ?_
    refine hl_if_eq (tg := 32) d197_12 rfl (fun hc => ?_) (fun hc => ?_)
    · have h := hl_pos hc h
      refine hl_iconst d197_32 kim1 ?_
      obtain ⟨e1, e2⟩ := hl_some2 h
      subst e1; subst e2
      exact hl_iret d197_33 rfl
    · have h := hl_neg hc h
      refine hl_aload_n (i := 0) d197_15 rfl rfl (by decide) ?_
      refine hl_iload_n (i := 3) d197_16 rfl rfl ?_
      obtain ⟨x2, hx2, h⟩ := hl_bind h
      refine hl_cVi (D := (D + 4)) (z := y126) (n := 1) (av := [.int v3]) (st := []) d197_17 mlM_394 rfl (Nat.le_of_ble_eq_true rfl) (Nat.le_of_ble_eq_true rfl) rc64 ((p_M_isPerson D v3 σ hx2).dle (by omega)) ?_
      refine hl_if_eq (tg := 32) d197_20 rfl (fun hc => ?_) (fun hc => ?_)
      · have h := hl_pos hc h
        refine hl_iconst d197_32 kim1 ?_
        obtain ⟨e1, e2⟩ := hl_some2 h
        subst e1; subst e2
        exact hl_iret d197_33 rfl
      · have h := hl_neg hc h
        refine hl_aload_n (i := 0) d197_23 rfl rfl (by decide) ?_
        refine hl_iload_n (i := 1) d197_24 rfl rfl ?_
        refine hl_iload_n (i := 2) d197_25 rfl rfl ?_
        obtain ⟨x3, hx3, h⟩ := hl_bind h
        refine hl_cVi (D := (D + 4)) (z := y185) (n := 2) (av := [.int v1, .int v2]) (st := []) d197_26 mlM_450 rfl (Nat.le_of_ble_eq_true rfl) (Nat.le_of_ble_eq_true rfl) rc64 ((p_M_goes D v1 v2 σ hx3).dle (by omega)) ?_
        refine hl_if_ne (tg := 34) d197_29 rfl (fun hc => ?_) (fun hc => ?_)
        · have h := hl_neg hc h
          refine hl_aload_n (i := 0) d197_34 rfl rfl (by decide) ?_
          refine hl_iload_n (i := 3) d197_35 rfl rfl ?_
          obtain ⟨x4, hx4, h⟩ := hl_bind h
          refine hl_cVi (D := (D + 4)) (z := y198) (n := 1) (av := [.int v3]) (st := []) d197_36 mlM_453 rfl (Nat.le_of_ble_eq_true rfl) (Nat.le_of_ble_eq_true rfl) rc64 ((p_M_bearerOf D v3 x3.2 hx4).dle (by omega)) ?_
          refine hl_istore (ls2 := [(5, .int x4), (0, .ref 64), (1, .int v1), (2, .int v2), (3, .int v3), (4, .int v4)]) d197_39 (by decide) rfl ?_
          refine hl_iload d197_41 rfl ?_
          refine hl_iconst d197_43 kim1 ?_
          refine hl_icmp_ne (tg := 49) d197_44 rfl (fun hc => ?_) (fun hc => ?_)
          · have h := hl_neg hc h
            refine hl_aload_n (i := 0) d197_49 rfl rfl (by decide) ?_
            refine hl_iload_n (i := 3) d197_50 rfl rfl ?_
            refine hl_iload_n (i := 1) d197_51 rfl rfl ?_
            obtain ⟨x5, hx5, h⟩ := hl_bind h
            refine hl_cVi (D := (D + 4)) (z := y117) (n := 2) (av := [.int v3, .int v1]) (st := []) d197_52 mlM_349 rfl (Nat.le_of_ble_eq_true rfl) (Nat.le_of_ble_eq_true rfl) rc64 ((p_M_whereIn D v3 v1 x3.2 hx5).dle (by omega)) ?_
            refine hl_istore (ls2 := [(6, .int x5), (5, .int x4), (0, .ref 64), (1, .int v1), (2, .int v2), (3, .int v3), (4, .int v4)]) d197_55 (by decide) rfl ?_
            refine hl_iload d197_57 rfl ?_
            refine hl_i2l d197_59 ?_
            refine hl_lconst (x := 0) d197_60 (by decide) ?_
            refine hl_aload_n (i := 0) d197_61 rfl rfl (by decide) ?_
            refine hl_gr d197_62 gM_65_64 ?_
            refine hl_bipush d197_65 kb54 ?_
            refine hl_iload d197_67 rfl ?_
            refine hl_imul d197_69 ?_
            refine hl_aload_n (i := 0) d197_70 rfl rfl (by decide) ?_
            refine hl_gr d197_71 gM_92_64 ?_
            refine hl_iload d197_74 rfl ?_
            obtain ⟨hb, h⟩ := hl_gd h
            refine hl_iald d197_76 sh88 (hl_b_in hb) ?_
            refine hl_iadd d197_77 ?_
            obtain ⟨hb, h⟩ := hl_gd h
            refine hl_iald d197_78 sh81 (hl_b_in hb) ?_
            refine hl_iconst d197_79 ki1 ?_
            refine hl_isub d197_80 ?_
            refine hl_i2l d197_81 ?_
            refine hl_cSi (D := (D + 4)) (z := y70) (n := 3) (av := [.long v4.toInt64, .long 0, .long (((x3.2.1 81 ((54 * x5) + (x3.2.1 88 x4.toNatClampNeg)).toNatClampNeg) - 1).toInt64)]) (st := []) d197_82 mlM_216 rfl (Nat.le_of_ble_eq_true rfl) (Nat.le_of_ble_eq_true rfl) ((p_M_isIn D v4.toInt64 0 (((x3.2.1 81 ((54 * x5) + (x3.2.1 88 x4.toNatClampNeg)).toNatClampNeg) - 1).toInt64) x3.2 rfl).dle (by omega)) ?_
            refine hl_if_ne (tg := 90) d197_85 rfl (fun hc => ?_) (fun hc => ?_)
            · have h := hl_neg hc h
              refine hl_iconst d197_90 ki0 ?_
              refine hl_istore (ls2 := [(7, .int 0), (6, .int x5), (5, .int x4), (0, .ref 64), (1, .int v1), (2, .int v2), (3, .int v3), (4, .int v4)]) d197_91 (by decide) rfl ?_
              obtain ⟨x8, hx8, h⟩ := hl_bind h
              refine hl_R.loc (ls' := [(0, .ref 64), (4, .int v4), (5, .int x4), (6, .int x5), (7, .int 0)]) ⟨rfl, rfl, rfl, rfl, rfl, trivial⟩ ?_
              refine hl_lp_run2 (P := fun (c0 : Int32) (c1 : Int32) => hl_R X (D + 5) y197 93 [(0, .ref 64), (4, .int v4), (5, .int x4), (6, .int c0), (7, .int c1)] [] x3.2 (some (.int r)) τ) (fun x : Int32 => hl_R X (D + 5) y197 127 [(0, .ref 64), (5, .int x4), (6, .int x)] [] x3.2 (some (.int r)) τ) (fun c0 c1 o ho h1 h2 => p_M_way_L93 D v4 x4 x3.2 (c0, c1) ho h1 (fun a0 e => h2 a0 e)) hl_big x5 0 x8 hx8 ?_
              refine hl_aload_n (i := 0) d197_127 rfl rfl (by decide) ?_
              refine hl_iload d197_128 rfl ?_
              refine hl_aload_n (i := 0) d197_130 rfl rfl (by decide) ?_
              refine hl_gr d197_131 gM_92_64 ?_
              refine hl_iload d197_134 rfl ?_
              obtain ⟨hb, h⟩ := hl_gd h
              refine hl_iald d197_136 sh88 (hl_b_in hb) ?_
              obtain ⟨x9, hx9, h⟩ := hl_bind h
              refine hl_cVi (D := (D + 4)) (z := y199) (n := 2) (av := [.int x8, .int (x3.2.1 88 x4.toNatClampNeg)]) (st := []) d197_137 mlM_456 rfl (Nat.le_of_ble_eq_true rfl) (Nat.le_of_ble_eq_true rfl) rc64 ((p_M_stepNearer D x8 (x3.2.1 88 x4.toNatClampNeg) x3.2 hx9).dle (by omega)) ?_
              obtain ⟨e1, e2⟩ := hl_some2 h
              subst e1; subst e2
              exact hl_iret d197_140 rfl
            · have h := hl_pos hc h
              refine hl_iconst d197_88 kim1 ?_
              obtain ⟨e1, e2⟩ := hl_some2 h
              subst e1; subst e2
              exact hl_iret d197_89 rfl
          · have h := hl_pos hc h
            refine hl_iconst d197_47 kim1 ?_
            obtain ⟨e1, e2⟩ := hl_some2 h
            subst e1; subst e2
            exact hl_iret d197_48 rfl
        · have h := hl_pos hc h
          refine hl_iconst d197_32 kim1 ?_
          obtain ⟨e1, e2⟩ := hl_some2 h
          subst e1; subst e2
          exact hl_iret d197_33 rfl
def f_Pt_stepsBetween (v1 : Int32) (v2 : Int32) (σ : hl_M) : Option (Int32 × hl_M) :=
  (f_Pt_spread v1 σ).bind fun x1 =>
  if (f_X_within v2 54) = 0 then
  some (((-1), x1)) else
  if hl_b v2 54 then
  if 10000 ≤ (x1.1 39 v2.toNatClampNeg) then
  some (((-1), x1)) else
  if hl_b v2 54 then
  some ((x1.1 39 v2.toNatClampNeg, x1)) else none else none
set_option maxRecDepth 20000 in
theorem p_Pt_stepsBetween {X : hl_X} (D : Nat) (v1 : Int32) (v2 : Int32) (σ : hl_M) {r : Int32} {τ : hl_M} (h : f_Pt_stepsBetween v1 v2 σ = some (r, τ)) : hl_R X (D + 4) y201 0 [(0, .ref 38), (1, .int v1), (2, .int v2)] [] σ (some (.int r)) τ := by
  unfold f_Pt_stepsBetween at h
  refine hl_aload_n (i := 0) d201_0 rfl rfl (by decide) ?_
  refine hl_iload_n (i := 1) d201_1 rfl rfl ?_
  obtain ⟨x1, hx1, h⟩ := hl_bind h
  refine hl_cVv (D := (D + 3)) (z := y179) (n := 1) (av := [.int v1]) (st := []) d201_2 mlPt_46 rfl (Nat.le_of_ble_eq_true rfl) (Nat.le_of_ble_eq_true rfl) rc38 ((p_Pt_spread D v1 σ hx1).dle (by omega)) ?_
  refine hl_iload_n (i := 2) d201_5 rfl rfl ?_
  refine hl_bipush d201_6 kb54 ?_
  refine hl_cNi (D := (D + 3)) (z := y2) (n := 2) (av := [.int v2, .int 54]) (st := []) d201_8 mlPt_50 rfl (Nat.le_of_ble_eq_true rfl) (Nat.le_of_ble_eq_true rfl) ((p_X_within D v2 54 x1 rfl).dle (by omega)) ?_
  refine hl_if_eq (tg := 35) d201_11 rfl (fun hc => ?_) (fun hc => ?_)
  · have h := hl_pos hc h
    refine hl_iconst d201_35 kim1 ?_
    obtain ⟨e1, e2⟩ := hl_some2 h
    subst e1; subst e2
    exact hl_iret d201_36 rfl
  · have h := hl_neg hc h
    refine hl_aload_n (i := 0) d201_14 rfl rfl (by decide) ?_
    refine hl_gr d201_15 gPt_9_38 ?_
    refine hl_iload_n (i := 2) d201_18 rfl rfl ?_
    obtain ⟨hb, h⟩ := hl_gd h
    refine hl_iald d201_19 sh39 (hl_b_in hb) ?_
    refine hl_sipush d201_20 ks10000 ?_
    refine hl_icmp_ge (tg := 35) d201_23 rfl (fun hc => ?_) (fun hc => ?_)
    · have h := hl_pos hc h
      refine hl_iconst d201_35 kim1 ?_
      obtain ⟨e1, e2⟩ := hl_some2 h
      subst e1; subst e2
      exact hl_iret d201_36 rfl
    · have h := hl_neg hc h
      refine hl_aload_n (i := 0) d201_26 rfl rfl (by decide) ?_
      refine hl_gr d201_27 gPt_9_38 ?_
      refine hl_iload_n (i := 2) d201_30 rfl rfl ?_
      obtain ⟨hb, h⟩ := hl_gd h
      refine hl_iald d201_31 sh39 (hl_b_in hb) ?_
      refine hl_goto (tg := 36) d201_32 rfl ?_
      obtain ⟨e1, e2⟩ := hl_some2 h
      subst e1; subst e2
      exact hl_iret d201_36 rfl
def f_X_steps (v1 : Int32) (v2 : Int32) (σ : hl_M) : Option (Int32 × hl_M) :=
  if (f_Gr_isOpen v1 σ) = 0 then
  some (((-1), σ)) else
  if (f_Gr_isOpen v2 σ) = 0 then
  some (((-1), σ)) else
  (f_Pt_stepsBetween v1 v2 σ).bind fun x1 =>
  some ((x1.1, x1.2))
set_option maxRecDepth 20000 in
theorem p_X_steps {X : hl_X} (D : Nat) (v1 : Int32) (v2 : Int32) (σ : hl_M) {r : Int32} {τ : hl_M} (h : f_X_steps v1 v2 σ = some (r, τ)) : hl_R X (D + 5) y200 0 [(0, .ref 0), (1, .int v1), (2, .int v2)] [] σ (some (.int r)) τ := by
  unfold f_X_steps at h
  refine hl_aload_n (i := 0) d200_0 rfl rfl (by decide) ?_
  refine hl_gr d200_1 gX_28_0 ?_
  refine hl_iload_n (i := 1) d200_4 rfl rfl ?_
  refine hl_cVi (D := (D + 4)) (z := y49) (n := 1) (av := [.int v1]) (st := []) d200_5 mlX_270 rfl (Nat.le_of_ble_eq_true rfl) (Nat.le_of_ble_eq_true rfl) rc4 ((p_Gr_isOpen D v1 σ rfl).dle (by omega)) ?_
  refine hl_if_eq (tg := 22) d200_8 rfl (fun hc => ?_) (fun hc => ?_)
  · have h := hl_pos hc h
    refine hl_iconst d200_22 kim1 ?_
    obtain ⟨e1, e2⟩ := hl_some2 h
    subst e1; subst e2
    exact hl_iret d200_23 rfl
  · have h := hl_neg hc h
    refine hl_aload_n (i := 0) d200_11 rfl rfl (by decide) ?_
    refine hl_gr d200_12 gX_28_0 ?_
    refine hl_iload_n (i := 2) d200_15 rfl rfl ?_
    refine hl_cVi (D := (D + 4)) (z := y49) (n := 1) (av := [.int v2]) (st := []) d200_16 mlX_270 rfl (Nat.le_of_ble_eq_true rfl) (Nat.le_of_ble_eq_true rfl) rc4 ((p_Gr_isOpen D v2 σ rfl).dle (by omega)) ?_
    refine hl_if_ne (tg := 24) d200_19 rfl (fun hc => ?_) (fun hc => ?_)
    · have h := hl_neg hc h
      refine hl_aload_n (i := 0) d200_24 rfl rfl (by decide) ?_
      refine hl_gr d200_25 gX_65_0 ?_
      refine hl_iload_n (i := 1) d200_28 rfl rfl ?_
      refine hl_iload_n (i := 2) d200_29 rfl rfl ?_
      obtain ⟨x1, hx1, h⟩ := hl_bind h
      refine hl_cVi (D := (D + 4)) (z := y201) (n := 2) (av := [.int v1, .int v2]) (st := []) d200_30 mlX_273 rfl (Nat.le_of_ble_eq_true rfl) (Nat.le_of_ble_eq_true rfl) rc38 ((p_Pt_stepsBetween D v1 v2 σ hx1).dle (by omega)) ?_
      obtain ⟨e1, e2⟩ := hl_some2 h
      subst e1; subst e2
      exact hl_iret d200_33 rfl
    · have h := hl_pos hc h
      refine hl_iconst d200_22 kim1 ?_
      obtain ⟨e1, e2⟩ := hl_some2 h
      subst e1; subst e2
      exact hl_iret d200_23 rfl
def f_M_steps (v1 : Int32) (v2 : Int32) (σ : hl_M) : Option (Int32) :=
  if (f_M_isCell v1 σ) = 0 then
  some ((-1)) else
  if (f_M_isCell v2 σ) = 0 then
  some ((-1)) else
  if hl_b ((54 * v1) + v2) 2916 then
  if (σ.1 81 ((54 * v1) + v2).toNatClampNeg) = 1000 then
  some ((-1)) else
  if hl_b ((54 * v1) + v2) 2916 then
  some (σ.1 81 ((54 * v1) + v2).toNatClampNeg) else none else none
set_option maxRecDepth 20000 in
theorem p_M_steps {X : hl_X} (D : Nat) (v1 : Int32) (v2 : Int32) (σ : hl_M) {r : Int32} (h : f_M_steps v1 v2 σ = some r) : hl_R X (D + 2) y202 0 [(0, .ref 64), (1, .int v1), (2, .int v2)] [] σ (some (.int r)) σ := by
  unfold f_M_steps at h
  refine hl_aload_n (i := 0) d202_0 rfl rfl (by decide) ?_
  refine hl_iload_n (i := 1) d202_1 rfl rfl ?_
  refine hl_cVi (D := (D + 1)) (z := y134) (n := 1) (av := [.int v1]) (st := []) d202_2 mlM_332 rfl (Nat.le_of_ble_eq_true rfl) (Nat.le_of_ble_eq_true rfl) rc64 ((p_M_isCell D v1 σ rfl).dle (by omega)) ?_
  refine hl_if_eq (tg := 33) d202_5 rfl (fun hc => ?_) (fun hc => ?_)
  · have h := hl_pos hc h
    refine hl_iconst d202_33 kim1 ?_
    have h := Option.some.inj h
    subst h
    exact hl_iret d202_34 rfl
  · have h := hl_neg hc h
    refine hl_aload_n (i := 0) d202_8 rfl rfl (by decide) ?_
    refine hl_iload_n (i := 2) d202_9 rfl rfl ?_
    refine hl_cVi (D := (D + 1)) (z := y134) (n := 1) (av := [.int v2]) (st := []) d202_10 mlM_332 rfl (Nat.le_of_ble_eq_true rfl) (Nat.le_of_ble_eq_true rfl) rc64 ((p_M_isCell D v2 σ rfl).dle (by omega)) ?_
    refine hl_if_eq (tg := 33) d202_13 rfl (fun hc => ?_) (fun hc => ?_)
    · have h := hl_pos hc h
      refine hl_iconst d202_33 kim1 ?_
      have h := Option.some.inj h
      subst h
      exact hl_iret d202_34 rfl
    · have h := hl_neg hc h
      refine hl_aload_n (i := 0) d202_16 rfl rfl (by decide) ?_
      refine hl_gr d202_17 gM_65_64 ?_
      refine hl_bipush d202_20 kb54 ?_
      refine hl_iload_n (i := 1) d202_22 rfl rfl ?_
      refine hl_imul d202_23 ?_
      refine hl_iload_n (i := 2) d202_24 rfl rfl ?_
      refine hl_iadd d202_25 ?_
      obtain ⟨hb, h⟩ := hl_gd h
      refine hl_iald d202_26 sh81 (hl_b_in hb) ?_
      refine hl_sipush d202_27 ks1000 ?_
      refine hl_icmp_ne (tg := 35) d202_30 rfl (fun hc => ?_) (fun hc => ?_)
      · have h := hl_neg hc h
        refine hl_aload_n (i := 0) d202_35 rfl rfl (by decide) ?_
        refine hl_gr d202_36 gM_65_64 ?_
        refine hl_bipush d202_39 kb54 ?_
        refine hl_iload_n (i := 1) d202_41 rfl rfl ?_
        refine hl_imul d202_42 ?_
        refine hl_iload_n (i := 2) d202_43 rfl rfl ?_
        refine hl_iadd d202_44 ?_
        obtain ⟨hb, h⟩ := hl_gd h
        refine hl_iald d202_45 sh81 (hl_b_in hb) ?_
        have h := Option.some.inj h
        subst h
        exact hl_iret d202_46 rfl
      · have h := hl_pos hc h
        refine hl_iconst d202_33 kim1 ?_
        have h := Option.some.inj h
        subst h
        exact hl_iret d202_34 rfl
