def f_Str_indexOf_III (j0 : Nat) (v1 : Int32) (v2 : Int32) (σ : hl_M) : Option (Int32) :=
  if (f_Str_isLatin1 j0) = 0 then
  none else
  (f_SL_indexOf j0 v1 v2 (f_Str_length j0) σ).bind fun x1 =>
  some x1
set_option maxRecDepth 20000 in
theorem p_Str_indexOf_III {X : hl_X} (D : Nat) (j0 : Nat) (hj0 : j0 < hl_nS) (v1 : Int32) (v2 : Int32) (σ : hl_M) {r : Int32} (h : f_Str_indexOf_III j0 v1 v2 σ = some r) : hl_R X (D + 2) y42 0 [(0, .ref (200 + j0)), (1, .int v1), (2, .int v2)] [] σ (some (.int r)) σ := by
  unfold f_Str_indexOf_III at h
  refine hl_aload_n (i := 0) d42_0 rfl rfl (hl_nS9 hj0).1 ?_
  refine hl_cVi (D := (D + 1)) (z := y19) (n := 0) (av := []) (st := []) d42_1 mlStr_492 rfl (Nat.le_of_ble_eq_true rfl) (Nat.le_of_ble_eq_true rfl) (Or.inr ⟨j0, hj0, rfl, rfl⟩) ((p_Str_isLatin1 D j0 hj0 σ rfl).dle (by omega)) ?_
  refine hl_if_eq (tg := 23) d42_4 rfl (fun hc => ?_) (fun hc => ?_)
  · have h := hl_pos hc h
    refine hl_aload_n (i := 0) d42_23 rfl rfl (hl_nS9 hj0).1 ?_
    refine hl_getSV d42_24 wsStr_9 hj0 ?_
    refine hl_iload_n (i := 1) d42_27 rfl rfl ?_
    refine hl_iload_n (i := 2) d42_28 rfl rfl ?_
    refine hl_aload_n (i := 0) d42_29 rfl rfl (hl_nS9 hj0).1 ?_
    refine hl_cVi (D := (D + 1)) (z := y16) (n := 0) (av := []) (st := [.int v2, .int v1, .ref (300 + j0)]) d42_30 mlStr_505 rfl (Nat.le_of_ble_eq_true rfl) (Nat.le_of_ble_eq_true rfl) (Or.inr ⟨j0, hj0, rfl, rfl⟩) ((p_Str_length D j0 hj0 σ rfl).dle (by omega)) ?_
    cases h
  · have h := hl_neg hc h
    refine hl_aload_n (i := 0) d42_7 rfl rfl (hl_nS9 hj0).1 ?_
    refine hl_getSV d42_8 wsStr_9 hj0 ?_
    refine hl_iload_n (i := 1) d42_11 rfl rfl ?_
    refine hl_iload_n (i := 2) d42_12 rfl rfl ?_
    refine hl_aload_n (i := 0) d42_13 rfl rfl (hl_nS9 hj0).1 ?_
    refine hl_cVi (D := (D + 1)) (z := y16) (n := 0) (av := []) (st := [.int v2, .int v1, .ref (300 + j0)]) d42_14 mlStr_505 rfl (Nat.le_of_ble_eq_true rfl) (Nat.le_of_ble_eq_true rfl) (Or.inr ⟨j0, hj0, rfl, rfl⟩) ((p_Str_length D j0 hj0 σ rfl).dle (by omega)) ?_
    obtain ⟨x1, hx1, h⟩ := hl_bind h
    refine hl_cSi (D := (D + 1)) (z := y43) (n := 4) (av := [.ref (300 + j0), .int v1, .int v2, .int (f_Str_length j0)]) (st := []) d42_17 mlStr_637 rfl (Nat.le_of_ble_eq_true rfl) (Nat.le_of_ble_eq_true rfl) ((p_SL_indexOf D j0 hj0 v1 v2 (f_Str_length j0) σ hx1).dle (by omega)) ?_
    refine hl_goto (tg := 36) d42_20 rfl ?_
    have h := Option.some.inj h
    subst h
    exact hl_iret d42_36 rfl
def f_Str_indexOf_II (j0 : Nat) (v1 : Int32) (σ : hl_M) : Option (Int32) :=
  (f_Str_indexOf_III j0 v1 0 σ).bind fun x1 =>
  some x1
set_option maxRecDepth 20000 in
theorem p_Str_indexOf_II {X : hl_X} (D : Nat) (j0 : Nat) (hj0 : j0 < hl_nS) (v1 : Int32) (σ : hl_M) {r : Int32} (h : f_Str_indexOf_II j0 v1 σ = some r) : hl_R X (D + 3) y41 0 [(0, .ref (200 + j0)), (1, .int v1)] [] σ (some (.int r)) σ := by
  unfold f_Str_indexOf_II at h
  refine hl_aload_n (i := 0) d41_0 rfl rfl (hl_nS9 hj0).1 ?_
  refine hl_iload_n (i := 1) d41_1 rfl rfl ?_
  refine hl_iconst d41_2 ki0 ?_
  obtain ⟨x1, hx1, h⟩ := hl_bind h
  refine hl_cVi (D := (D + 2)) (z := y42) (n := 2) (av := [.int v1, .int 0]) (st := []) d41_3 mlStr_633 rfl (Nat.le_of_ble_eq_true rfl) (Nat.le_of_ble_eq_true rfl) (Or.inr ⟨j0, hj0, rfl, rfl⟩) ((p_Str_indexOf_III D j0 hj0 v1 0 σ hx1).dle (by omega)) ?_
  have h := Option.some.inj h
  subst h
  exact hl_iret d41_6 rfl
def f_X_placedStep (v0 : Int32) (v1 : Int32) : Int64 :=
  v0.toInt64 <<< ((4 + (3 * v1)).toInt64 &&& 63)
set_option maxRecDepth 20000 in
theorem p_X_placedStep {X : hl_X} (D : Nat) (v0 : Int32) (v1 : Int32) (σ : hl_M) {r : Int64} (h : f_X_placedStep v0 v1 = r) : hl_R X D y48 0 [(0, .int v0), (1, .int v1)] [] σ (some (.long r)) σ := by
  unfold f_X_placedStep at h
  refine hl_iload_n (i := 0) d48_0 rfl rfl ?_
  refine hl_i2l d48_1 ?_
  refine hl_iconst d48_2 ki4 ?_
  refine hl_iconst d48_3 ki3 ?_
  refine hl_iload_n (i := 1) d48_4 rfl rfl ?_
  refine hl_imul d48_5 ?_
  refine hl_iadd d48_6 ?_
  refine hl_lshl d48_7 ?_
  subst h
  exact hl_lret d48_8 rfl
def f_X_stepsOnTape_j59 (v1 : Int32) (v3 : Int32) (v4 : Int64) (v6 : Int32) (s0 : Int32) (σ : hl_M) : Option ((Int64 × Int32) ⊕ ((Int64) ⊕ (Int64))) :=
  if s0 = ((-1)) then
  some (.inr (.inr (0))) else
  some (.inl ((v4 ||| (f_X_placedStep s0 v6), v6 + 1)))
def f_X_stepsOnTape_L24 (v1 : Int32) (v3 : Int32) (σ : hl_M) (s : Int64 × Int32) : Option ((Int64 × Int32) ⊕ ((Int64) ⊕ (Int64))) :=
  if v3 ≤ s.2 then
  some (.inr (.inl s.1)) else
  (f_Tape_at (v1 + s.2) σ).bind fun x1 =>
  if x1 = ((-1)) then
  f_X_stepsOnTape_j59 v1 v3 s.1 s.2 ((-1)) σ else
  (f_Str_indexOf_II 15 ((x1.toUInt32 % 65536).toInt32) σ).bind fun x2 =>
  f_X_stepsOnTape_j59 v1 v3 s.1 s.2 x2 σ
def f_X_stepsOnTape (v1 : Int32) (v2 : Int32) (σ : hl_M) : Option (Int64) :=
  if (v2 - v1) < 1 then
  some 0 else
  if (v2 - v1) ≤ 12 then
  (hl_lp (f_X_stepsOnTape_L24 v1 (v2 - v1) σ) hl_big (((v2 - v1).toInt64, 0))).bind fun x3 =>
  Sum.elim (fun x4 =>
  some x4) (fun x5 =>
  some x5) x3 else
  some 0
set_option maxRecDepth 20000 in
theorem p_X_stepsOnTape_j59 {X : hl_X} (D : Nat) (v1 : Int32) (v3 : Int32) (v4 : Int64) (v6 : Int32) (s0 : Int32) (σ : hl_M) {o : (Int64 × Int32) ⊕ ((Int64) ⊕ (Int64))} {v : Option Value} (h : f_X_stepsOnTape_j59 v1 v3 v4 v6 s0 σ = some o) (k1 : ∀ (c0 : Int64) (c1 : Int32), o = .inl ((c0, c1)) → hl_R X (D + 4) y40 24 [(0, .ref 1), (1, .int v1), (3, .int v3), (4, .long c0), (6, .int c1)] [] σ v σ) (k2 : ∀ (a0 : Int64), o = .inr (.inl a0) → hl_R X (D + 4) y40 87 [(4, .long a0)] [] σ v σ) (kr : ∀ (a : Int64), o = .inr (.inr (a)) → v = some (.long a)) : hl_R X (D + 4) y40 59 [(0, .ref 1), (1, .int v1), (3, .int v3), (4, .long v4), (6, .int v6)] [.int s0] σ v σ := by
  unfold f_X_stepsOnTape_j59 at h
  refine hl_istore (ls2 := [(8, .int s0), (0, .ref 1), (1, .int v1), (3, .int v3), (4, .long v4), (6, .int v6)]) d40_59 (by decide) rfl ?_
  refine hl_iload d40_61 rfl ?_
  refine hl_iconst d40_63 kim1 ?_
  refine hl_icmp_ne (tg := 69) d40_64 rfl (fun hc => ?_) (fun hc => ?_)
  · have h := hl_neg hc h
    refine hl_lload d40_69 rfl ?_
    refine hl_iload d40_71 rfl ?_
    refine hl_iload d40_73 rfl ?_
    refine hl_cSl (D := (D + 3)) (z := y48) (n := 2) (av := [.int s0, .int v6]) (st := [.long v4]) d40_75 mlX_362 rfl (Nat.le_of_ble_eq_true rfl) (Nat.le_of_ble_eq_true rfl) ((p_X_placedStep D s0 v6 σ rfl).dle (by omega)) ?_
    refine hl_lor d40_78 ?_
    refine hl_lstore (ls2 := [(4, .long (v4 ||| (f_X_placedStep s0 v6))), (8, .int s0), (0, .ref 1), (1, .int v1), (3, .int v3), (6, .int v6)]) d40_79 (by decide) rfl ?_
    refine hl_iinc (ls2 := [(6, .int (v6 + 1)), (4, .long (v4 ||| (f_X_placedStep s0 v6))), (8, .int s0), (0, .ref 1), (1, .int v1), (3, .int v3)]) d40_81 rfl kx1 (by decide) rfl ?_
    refine hl_goto (tg := 24) d40_84 rfl ?_
    have h := Option.some.inj h
    subst h
    exact hl_loc (k1 (v4 ||| (f_X_placedStep s0 v6)) (v6 + 1) rfl) ⟨rfl, rfl, rfl, rfl, rfl, trivial⟩
  · have h := hl_pos hc h
    refine hl_lconst (x := 0) d40_67 (by decide) ?_
    have h := Option.some.inj h
    subst h
    have e1 := kr 0 rfl
    subst e1
    exact hl_lret d40_68 rfl
set_option maxRecDepth 20000 in
theorem p_X_stepsOnTape_L24 {X : hl_X} (D : Nat) (v1 : Int32) (v3 : Int32) (σ : hl_M) (s : Int64 × Int32) {o : (Int64 × Int32) ⊕ ((Int64) ⊕ (Int64))} {v : Option Value} (h : f_X_stepsOnTape_L24 v1 v3 σ s = some o) (k1 : ∀ (c0 : Int64) (c1 : Int32), o = .inl ((c0, c1)) → hl_R X (D + 4) y40 24 [(0, .ref 1), (1, .int v1), (3, .int v3), (4, .long c0), (6, .int c1)] [] σ v σ) (k2 : ∀ (a0 : Int64), o = .inr (.inl a0) → hl_R X (D + 4) y40 87 [(4, .long a0)] [] σ v σ) (kr : ∀ (a : Int64), o = .inr (.inr (a)) → v = some (.long a)) : hl_R X (D + 4) y40 24 [(0, .ref 1), (1, .int v1), (3, .int v3), (4, .long s.1), (6, .int s.2)] [] σ v σ := by
  unfold f_X_stepsOnTape_L24 at h
  refine hl_iload d40_24 rfl ?_
  refine hl_iload_n (i := 3) d40_26 rfl rfl ?_
  refine hl_icmp_ge (tg := 87) d40_27 rfl (fun hc => ?_) (fun hc => ?_)
  · have h := hl_pos hc h
    have h := Option.some.inj h
    subst h
    exact hl_loc (k2 s.1 rfl) ⟨rfl, trivial⟩
  · have h := hl_neg hc h
    refine hl_aload_n (i := 0) d40_30 rfl rfl (by decide) ?_
    refine hl_iload_n (i := 1) d40_31 rfl rfl ?_
    refine hl_iload d40_32 rfl ?_
    refine hl_iadd d40_34 ?_
    obtain ⟨x1, hx1, h⟩ := hl_bind h
    refine hl_cVi (D := (D + 3)) (z := y11) (n := 1) (av := [.int (v1 + s.2)]) (st := []) d40_35 mlX_276 rfl (Nat.le_of_ble_eq_true rfl) (Nat.le_of_ble_eq_true rfl) rc1 ((p_Tape_at D (v1 + s.2) σ hx1).dle (by omega)) ?_
    refine hl_istore (ls2 := [(7, .int x1), (0, .ref 1), (1, .int v1), (3, .int v3), (4, .long s.1), (6, .int s.2)]) d40_38 (by decide) rfl ?_
    refine hl_iload d40_40 rfl ?_
    refine hl_iconst d40_42 kim1 ?_
    refine hl_icmp_ne (tg := 50) d40_43 rfl (fun hc => ?_) (fun hc => ?_)
    · have h := hl_neg hc h
      refine hl_ldcwS (j := 15) d40_50 (by decide) ⟨rfl, rfl⟩ ?_
      refine hl_iload d40_53 rfl ?_
      refine hl_i2c d40_55 ?_
      obtain ⟨x2, hx2, h⟩ := hl_bind h
      refine hl_cVi (D := (D + 3)) (z := y41) (n := 1) (av := [.int ((x1.toUInt32 % 65536).toInt32)]) (st := []) d40_56 mlX_357 rfl (Nat.le_of_ble_eq_true rfl) (Nat.le_of_ble_eq_true rfl) (Or.inr ⟨15, (by decide), rfl, rfl⟩) ((p_Str_indexOf_II D 15 (by decide) ((x1.toUInt32 % 65536).toInt32) σ hx2).dle (by omega)) ?_
      exact hl_loc (p_X_stepsOnTape_j59 D v1 v3 s.1 s.2 x2 σ h k1 k2 kr) ⟨rfl, rfl, rfl, rfl, rfl, trivial⟩
    · have h := hl_pos hc h
      refine hl_iconst d40_46 kim1 ?_
      refine hl_goto (tg := 59) d40_47 rfl ?_
      exact hl_loc (p_X_stepsOnTape_j59 D v1 v3 s.1 s.2 ((-1)) σ h k1 k2 kr) ⟨rfl, rfl, rfl, rfl, rfl, trivial⟩
set_option maxRecDepth 20000 in
theorem p_X_stepsOnTape {X : hl_X} (D : Nat) (v1 : Int32) (v2 : Int32) (σ : hl_M) {r : Int64} (h : f_X_stepsOnTape v1 v2 σ = some r) : hl_R X (D + 4) y40 0 [(0, .ref 1), (1, .int v1), (2, .int v2)] [] σ (some (.long r)) σ := by
  unfold f_X_stepsOnTape at h
  refine hl_iload_n (i := 2) d40_0 rfl rfl ?_
  refine hl_iload_n (i := 1) d40_1 rfl rfl ?_
  refine hl_isub d40_2 ?_
  refine hl_istore_n (i := 3) (ls2 := [(3, .int (v2 - v1)), (0, .ref 1), (1, .int v1), (2, .int v2)]) d40_3 rfl (by decide) rfl ?_
  refine hl_iload_n (i := 3) d40_4 rfl rfl ?_
  refine hl_iconst d40_5 ki1 ?_
  refine hl_icmp_lt (tg := 15) d40_6 rfl (fun hc => ?_) (fun hc => ?_)
  · have h := hl_pos hc h
    refine hl_lconst (x := 0) d40_15 (by decide) ?_
    have h := Option.some.inj h
    subst h
    exact hl_lret d40_16 rfl
  · have h := hl_neg hc h
    refine hl_iload_n (i := 3) d40_9 rfl rfl ?_
    refine hl_bipush d40_10 kb12 ?_
    refine hl_icmp_le (tg := 17) d40_12 rfl (fun hc => ?_) (fun hc => ?_)
    · have h := hl_pos hc h
      refine hl_iload_n (i := 3) d40_17 rfl rfl ?_
      refine hl_i2l d40_18 ?_
      refine hl_lstore (ls2 := [(4, .long ((v2 - v1).toInt64)), (3, .int (v2 - v1)), (0, .ref 1), (1, .int v1), (2, .int v2)]) d40_19 (by decide) rfl ?_
      refine hl_iconst d40_21 ki0 ?_
      refine hl_istore (ls2 := [(6, .int 0), (4, .long ((v2 - v1).toInt64)), (3, .int (v2 - v1)), (0, .ref 1), (1, .int v1), (2, .int v2)]) d40_22 (by decide) rfl ?_
      obtain ⟨x3, hx3, h⟩ := hl_bind h
      refine hl_R.loc (ls' := [(0, .ref 1), (1, .int v1), (3, .int (v2 - v1)), (4, .long ((v2 - v1).toInt64)), (6, .int 0)]) ⟨rfl, rfl, rfl, rfl, rfl, trivial⟩ ?_
      refine hl_lp_run2 (P := fun (c0 : Int64) (c1 : Int32) => hl_R X (D + 4) y40 24 [(0, .ref 1), (1, .int v1), (3, .int (v2 - v1)), (4, .long c0), (6, .int c1)] [] σ (some (.long r)) σ) (Sum.elim (fun x : Int64 => hl_R X (D + 4) y40 87 [(4, .long x)] [] σ (some (.long r)) σ) (fun a : Int64 => ((some (.long r)) : Option Value) = some (.long a))) (fun c0 c1 o ho h1 h2 => p_X_stepsOnTape_L24 D v1 (v2 - v1) σ (c0, c1) ho h1 (fun a0 e => h2 (.inl a0) e) (fun a e => h2 (.inr (a)) e)) hl_big ((v2 - v1).toInt64) 0 x3 hx3 ?_
      rcases hl_sum h with ⟨x4, e_x4, h⟩ | ⟨x5, e_x5, h⟩
      · subst e_x4
        refine hl_lload d40_87 rfl ?_
        have h := Option.some.inj h
        subst h
        exact hl_lret d40_89 rfl
      · subst e_x5
        cases h
        rfl
    · have h := hl_neg hc h
      refine hl_lconst (x := 0) d40_15 (by decide) ?_
      have h := Option.some.inj h
      subst h
      exact hl_lret d40_16 rfl
def f_Rd_wantSteps_j27 (s0 : Int64) (σ : hl_M) : Option (Int64 × hl_M) :=
  if s0 = 0 then
  some ((s0, f_Rd_fail 1 (σ.1 3 2) σ)) else
  (f_Rd_advance σ).bind fun x1 =>
  some ((s0, x1))
def f_Rd_wantSteps (σ : hl_M) : Option (Int64 × hl_M) :=
  if (σ.1 3 1) = 1 then
  (f_X_stepsOnTape (σ.1 3 2) (σ.1 3 3) σ).bind fun x2 =>
  f_Rd_wantSteps_j27 x2 σ else
  f_Rd_wantSteps_j27 0 σ
set_option maxRecDepth 20000 in
theorem p_Rd_wantSteps_j27 {X : hl_X} (D : Nat) (s0 : Int64) (σ : hl_M) {r : Int64} {τ : hl_M} (h : f_Rd_wantSteps_j27 s0 σ = some (r, τ)) : hl_R X (D + 5) y39 27 [(0, .ref 3)] [.long s0] σ (some (.long r)) τ := by
  unfold f_Rd_wantSteps_j27 at h
  refine hl_lstore_n (i := 1) (ls2 := [(1, .long s0), (0, .ref 3)]) d39_27 rfl (by decide) rfl ?_
  refine hl_lload_n (i := 1) d39_28 rfl rfl ?_
  refine hl_lconst (x := 0) d39_29 (by decide) ?_
  refine hl_lc_ne (tg := 46) d39_30 d39_31 rfl (fun hc => ?_) (fun hc => ?_)
  · have h := hl_neg hc h
    refine hl_aload_n (i := 0) d39_46 rfl rfl (by decide) ?_
    obtain ⟨x1, hx1, h⟩ := hl_bind h
    refine hl_cVv (D := (D + 4)) (z := y10) (n := 0) (av := []) (st := []) d39_47 mlRd_31 rfl (Nat.le_of_ble_eq_true rfl) (Nat.le_of_ble_eq_true rfl) rc3 ((p_Rd_advance D σ hx1).dle (by omega)) ?_
    refine hl_lload_n (i := 1) d39_50 rfl rfl ?_
    obtain ⟨e1, e2⟩ := hl_some2 h
    subst e1; subst e2
    exact hl_lret d39_51 rfl
  · have h := hl_pos hc h
    refine hl_aload_n (i := 0) d39_34 rfl rfl (by decide) ?_
    refine hl_iconst d39_35 ki1 ?_
    refine hl_aload_n (i := 0) d39_36 rfl rfl (by decide) ?_
    refine hl_gi d39_37 gRd_25_3 ?_
    refine hl_cVv (D := (D + 4)) (z := y23) (n := 2) (av := [.int 1, .int (σ.1 3 2)]) (st := []) d39_40 mlRd_64 rfl (Nat.le_of_ble_eq_true rfl) (Nat.le_of_ble_eq_true rfl) rc3 ((p_Rd_fail D 1 (σ.1 3 2) σ rfl).dle (by omega)) ?_
    refine hl_goto (tg := 50) d39_43 rfl ?_
    refine hl_lload_n (i := 1) d39_50 rfl rfl ?_
    obtain ⟨e1, e2⟩ := hl_some2 h
    subst e1; subst e2
    exact hl_lret d39_51 rfl
set_option maxRecDepth 20000 in
theorem p_Rd_wantSteps {X : hl_X} (D : Nat) (σ : hl_M) {r : Int64} {τ : hl_M} (h : f_Rd_wantSteps σ = some (r, τ)) : hl_R X (D + 5) y39 0 [(0, .ref 3)] [] σ (some (.long r)) τ := by
  unfold f_Rd_wantSteps at h
  refine hl_aload_n (i := 0) d39_0 rfl rfl (by decide) ?_
  refine hl_gi d39_1 gRd_22_3 ?_
  refine hl_iconst d39_4 ki1 ?_
  refine hl_icmp_ne (tg := 26) d39_5 rfl (fun hc => ?_) (fun hc => ?_)
  · have h := hl_neg hc h
    refine hl_lconst (x := 0) d39_26 (by decide) ?_
    exact hl_loc (p_Rd_wantSteps_j27 D 0 σ h) ⟨rfl, trivial⟩
  · have h := hl_pos hc h
    refine hl_aload_n (i := 0) d39_8 rfl rfl (by decide) ?_
    refine hl_gr d39_9 gRd_15_3 ?_
    refine hl_aload_n (i := 0) d39_12 rfl rfl (by decide) ?_
    refine hl_gi d39_13 gRd_25_3 ?_
    refine hl_aload_n (i := 0) d39_16 rfl rfl (by decide) ?_
    refine hl_gi d39_17 gRd_28_3 ?_
    obtain ⟨x2, hx2, h⟩ := hl_bind h
    refine hl_cNl (D := (D + 4)) (z := y40) (n := 3) (av := [.ref 1, .int (σ.1 3 2), .int (σ.1 3 3)]) (st := []) d39_20 mlRd_79 rfl (Nat.le_of_ble_eq_true rfl) (Nat.le_of_ble_eq_true rfl) ((p_X_stepsOnTape D (σ.1 3 2) (σ.1 3 3) σ hx2).dle (by omega)) ?_
    refine hl_goto (tg := 27) d39_23 rfl ?_
    exact hl_loc (p_Rd_wantSteps_j27 D x2 σ h) ⟨rfl, trivial⟩
def f_Gr_cells_d (σ : hl_M) : Int32 :=
  (σ.1 14 0) * (σ.1 14 1)
set_option maxRecDepth 20000 in
theorem p_Gr_cells_d {X : hl_X} (D : Nat) (σ : hl_M) {r : Int32} (h : f_Gr_cells_d σ = r) : hl_R X D y50 0 [(0, .ref 14)] [] σ (some (.int r)) σ := by
  unfold f_Gr_cells_d at h
  refine hl_aload_n (i := 0) d50_0 rfl rfl (by decide) ?_
  refine hl_gi d50_1 gGr_40_14 ?_
  refine hl_aload_n (i := 0) d50_4 rfl rfl (by decide) ?_
  refine hl_gi d50_5 gGr_44_14 ?_
  refine hl_imul d50_8 ?_
  subst h
  exact hl_iret d50_9 rfl
def f_Gr_isOpen_d (v1 : Int32) (σ : hl_M) : Int32 :=
  if (f_X_within v1 (f_Gr_cells_d σ)) = 0 then
  0 else
  if ((σ.2 14 2) &&& ((1 : Int64) <<< (v1.toInt64 &&& 63))) = 0 then
  1 else
  0
set_option maxRecDepth 20000 in
theorem p_Gr_isOpen_d {X : hl_X} (D : Nat) (v1 : Int32) (σ : hl_M) {r : Int32} (h : f_Gr_isOpen_d v1 σ = r) : hl_R X (D + 1) y49 0 [(0, .ref 14), (1, .int v1)] [] σ (some (.int r)) σ := by
  unfold f_Gr_isOpen_d at h
  refine hl_iload_n (i := 1) d49_0 rfl rfl ?_
  refine hl_aload_n (i := 0) d49_1 rfl rfl (by decide) ?_
  refine hl_cVi (D := D) (z := y50) (n := 0) (av := []) (st := [.int v1]) d49_2 mlGr_60 rfl (Nat.le_of_ble_eq_true rfl) (Nat.le_of_ble_eq_true rfl) rc14 ((p_Gr_cells_d D σ rfl).dle (by omega)) ?_
  refine hl_cNi (D := D) (z := y2) (n := 2) (av := [.int v1, .int (f_Gr_cells_d σ)]) (st := []) d49_5 mlGr_64 rfl (Nat.le_of_ble_eq_true rfl) (Nat.le_of_ble_eq_true rfl) ((p_X_within D v1 (f_Gr_cells_d σ) σ rfl).dle (by omega)) ?_
  refine hl_if_eq (tg := 28) d49_8 rfl (fun hc => ?_) (fun hc => ?_)
  · have h := hl_pos hc h
    refine hl_iconst d49_28 ki0 ?_
    subst h
    exact hl_zret d49_29 rfl (by decide)
  · have h := hl_neg hc h
    refine hl_aload_n (i := 0) d49_11 rfl rfl (by decide) ?_
    refine hl_gl d49_12 gGr_47_14 ?_
    refine hl_lconst (x := 1) d49_15 (by decide) ?_
    refine hl_iload_n (i := 1) d49_16 rfl rfl ?_
    refine hl_lshl d49_17 ?_
    refine hl_land d49_18 ?_
    refine hl_lconst (x := 0) d49_19 (by decide) ?_
    refine hl_lc_ne (tg := 28) d49_20 d49_21 rfl (fun hc => ?_) (fun hc => ?_)
    · have h := hl_neg hc h
      refine hl_iconst d49_28 ki0 ?_
      subst h
      exact hl_zret d49_29 rfl (by decide)
    · have h := hl_pos hc h
      refine hl_iconst d49_24 ki1 ?_
      refine hl_goto (tg := 29) d49_25 rfl ?_
      subst h
      exact hl_zret d49_29 rfl (by decide)
def f_Gr_isTold_d_L2 (v1 : Int32) (σ : hl_M) (s : Int32) : Option ((Int32) ⊕ ((Unit) ⊕ (Int32))) :=
  if (σ.1 14 3) ≤ s then
  some (.inr (.inl (()))) else
  if hl_b s 10 then
  if (σ.1 16 s.toNatClampNeg) = v1 then
  some (.inr (.inr (1))) else
  some (.inl (s + 1)) else none
def f_Gr_isTold_d (v1 : Int32) (σ : hl_M) : Option (Int32) :=
  (hl_lp (f_Gr_isTold_d_L2 v1 σ) hl_big 0).bind fun x1 =>
  Sum.elim (fun x2 =>
  some 0) (fun x3 =>
  some x3) x1
set_option maxRecDepth 20000 in
theorem p_Gr_isTold_d_L2 {X : hl_X} (D : Nat) (v1 : Int32) (σ : hl_M) (s : Int32) {o : (Int32) ⊕ ((Unit) ⊕ (Int32))} {v : Option Value} (h : f_Gr_isTold_d_L2 v1 σ s = some o) (k1 : ∀ (c0 : Int32), o = .inl c0 → hl_R X D y51 2 [(0, .ref 14), (1, .int v1), (2, .int c0)] [] σ v σ) (k2 : o = .inr (.inl ()) → hl_R X D y51 28 [] [] σ v σ) (kr : ∀ (a : Int32), o = .inr (.inr (a)) → v = some (.int a)) : hl_R X D y51 2 [(0, .ref 14), (1, .int v1), (2, .int s)] [] σ v σ := by
  unfold f_Gr_isTold_d_L2 at h
  refine hl_iload_n (i := 2) d51_2 rfl rfl ?_
  refine hl_aload_n (i := 0) d51_3 rfl rfl (by decide) ?_
  refine hl_gi d51_4 gGr_51_14 ?_
  refine hl_icmp_ge (tg := 28) d51_7 rfl (fun hc => ?_) (fun hc => ?_)
  · have h := hl_pos hc h
    have h := Option.some.inj h
    subst h
    exact hl_loc (k2 rfl) trivial
  · have h := hl_neg hc h
    refine hl_aload_n (i := 0) d51_10 rfl rfl (by decide) ?_
    refine hl_gr d51_11 gGr_15_14 ?_
    refine hl_iload_n (i := 2) d51_14 rfl rfl ?_
    obtain ⟨hb, h⟩ := hl_gd h
    refine hl_iald d51_15 sh16 (hl_b_in hb) ?_
    refine hl_iload_n (i := 1) d51_16 rfl rfl ?_
    refine hl_icmp_ne (tg := 22) d51_17 rfl (fun hc => ?_) (fun hc => ?_)
    · have h := hl_neg hc h
      refine hl_iinc (ls2 := [(2, .int (s + 1)), (0, .ref 14), (1, .int v1)]) d51_22 rfl kx1 (by decide) rfl ?_
      refine hl_goto (tg := 2) d51_25 rfl ?_
      have h := Option.some.inj h
      subst h
      exact hl_loc (k1 (s + 1) rfl) ⟨rfl, rfl, rfl, trivial⟩
    · have h := hl_pos hc h
      refine hl_iconst d51_20 ki1 ?_
      have h := Option.some.inj h
      subst h
      have e1 := kr 1 rfl
      subst e1
      exact hl_zret d51_21 rfl (by decide)
set_option maxRecDepth 20000 in
theorem p_Gr_isTold_d {X : hl_X} (D : Nat) (v1 : Int32) (σ : hl_M) {r : Int32} (h : f_Gr_isTold_d v1 σ = some r) : hl_R X D y51 0 [(0, .ref 14), (1, .int v1)] [] σ (some (.int r)) σ := by
  unfold f_Gr_isTold_d at h
  refine hl_iconst d51_0 ki0 ?_
  refine hl_istore_n (i := 2) (ls2 := [(2, .int 0), (0, .ref 14), (1, .int v1)]) d51_1 rfl (by decide) rfl ?_
  obtain ⟨x1, hx1, h⟩ := hl_bind h
  refine hl_R.loc (ls' := [(0, .ref 14), (1, .int v1), (2, .int 0)]) ⟨rfl, rfl, rfl, trivial⟩ ?_
  refine hl_lp_run1 (P := fun (c0 : Int32) => hl_R X D y51 2 [(0, .ref 14), (1, .int v1), (2, .int c0)] [] σ (some (.int r)) σ) (Sum.elim (fun x : Unit => hl_R X D y51 28 [] [] σ (some (.int r)) σ) (fun a : Int32 => ((some (.int r)) : Option Value) = some (.int a))) (fun c0 o ho h1 h2 => p_Gr_isTold_d_L2 D v1 σ c0 ho h1 (fun e => h2 (.inl ()) e) (fun a e => h2 (.inr (a)) e)) hl_big 0 x1 hx1 ?_
  rcases hl_sum h with ⟨x2, e_x2, h⟩ | ⟨x3, e_x3, h⟩
  · subst e_x2
    refine hl_iconst d51_28 ki0 ?_
    have h := Option.some.inj h
    subst h
    exact hl_zret d51_29 rfl (by decide)
  · subst e_x3
    cases h
    rfl
def f_Tl_tellPerson_j83 (v1 : Int32) (v2 : Int32) (σ : hl_M) : Option (hl_M) :=
  (f_Rd_wantWord 13 σ).bind fun x5 =>
  (f_Rd_wantNumber 0 2 x5).bind fun x6 =>
  (f_Rd_wantWord 14 x6.2).bind fun x7 =>
  (f_Rd_wantSteps x7).bind fun x8 =>
  (f_Rd_wantSign 59 x8.2).bind fun x9 =>
  if (f_Rd_failed x9) = 0 then
  if (f_X_within (x9.1 14 3) 10) = 0 then
  some x9 else
  if hl_b (x9.1 14 3) 10 then
  if hl_b ((hl_si x9 15 (x9.1 14 3).toNatClampNeg v1).1 14 3) 10 then
  if hl_b ((hl_si (hl_si x9 15 (x9.1 14 3).toNatClampNeg v1) 16 ((hl_si x9 15 (x9.1 14 3).toNatClampNeg v1).1 14 3).toNatClampNeg v2).1 14 3) 10 then
  if hl_b ((hl_si (hl_si (hl_si x9 15 (x9.1 14 3).toNatClampNeg v1) 16 ((hl_si x9 15 (x9.1 14 3).toNatClampNeg v1).1 14 3).toNatClampNeg v2) 17 ((hl_si (hl_si x9 15 (x9.1 14 3).toNatClampNeg v1) 16 ((hl_si x9 15 (x9.1 14 3).toNatClampNeg v1).1 14 3).toNatClampNeg v2).1 14 3).toNatClampNeg x6.1).1 14 3) 10 then
  hl_let (hl_si (hl_sl (hl_si (hl_si (hl_si x9 15 (x9.1 14 3).toNatClampNeg v1) 16 ((hl_si x9 15 (x9.1 14 3).toNatClampNeg v1).1 14 3).toNatClampNeg v2) 17 ((hl_si (hl_si x9 15 (x9.1 14 3).toNatClampNeg v1) 16 ((hl_si x9 15 (x9.1 14 3).toNatClampNeg v1).1 14 3).toNatClampNeg v2).1 14 3).toNatClampNeg x6.1) 18 ((hl_si (hl_si (hl_si x9 15 (x9.1 14 3).toNatClampNeg v1) 16 ((hl_si x9 15 (x9.1 14 3).toNatClampNeg v1).1 14 3).toNatClampNeg v2) 17 ((hl_si (hl_si x9 15 (x9.1 14 3).toNatClampNeg v1) 16 ((hl_si x9 15 (x9.1 14 3).toNatClampNeg v1).1 14 3).toNatClampNeg v2).1 14 3).toNatClampNeg x6.1).1 14 3).toNatClampNeg x8.1) 14 3 (((hl_sl (hl_si (hl_si (hl_si x9 15 (x9.1 14 3).toNatClampNeg v1) 16 ((hl_si x9 15 (x9.1 14 3).toNatClampNeg v1).1 14 3).toNatClampNeg v2) 17 ((hl_si (hl_si x9 15 (x9.1 14 3).toNatClampNeg v1) 16 ((hl_si x9 15 (x9.1 14 3).toNatClampNeg v1).1 14 3).toNatClampNeg v2).1 14 3).toNatClampNeg x6.1) 18 ((hl_si (hl_si (hl_si x9 15 (x9.1 14 3).toNatClampNeg v1) 16 ((hl_si x9 15 (x9.1 14 3).toNatClampNeg v1).1 14 3).toNatClampNeg v2) 17 ((hl_si (hl_si x9 15 (x9.1 14 3).toNatClampNeg v1) 16 ((hl_si x9 15 (x9.1 14 3).toNatClampNeg v1).1 14 3).toNatClampNeg v2).1 14 3).toNatClampNeg x6.1).1 14 3).toNatClampNeg x8.1).1 14 3) + 1)) (fun σ10 =>
  some σ10) else none else none else none else none else
  some x9
def f_Tl_tellPerson_j68 (v1 : Int32) (v2 : Int32) (σ : hl_M) : Option (hl_M) :=
  f_Tl_tellPerson_j83 v1 v2 (f_Rd_fail 2 (σ.1 3 6) σ)
def f_Tl_tellPerson (σ : hl_M) : Option (hl_M) :=
  (f_Tl_startsOneOf (σ.1 14 3) 10 σ).bind fun x1 =>
  if x1.1 = 0 then
  some x1.2 else
  (f_Tl_wantNewName x1.2).bind fun x2 =>
  (f_Rd_wantWord 12 x2.2).bind fun x3 =>
  (f_Tl_wantCell x3).bind fun x4 =>
  if (f_Rd_failed x4.2) = 0 then
  if (f_Gr_isOpen_d x4.1 x4.2) = 0 then
  f_Tl_tellPerson_j68 x2.1 x4.1 x4.2 else
  (f_Gr_isTold_d x4.1 x4.2).bind fun x11 =>
  if x11 = 0 then
  f_Tl_tellPerson_j83 x2.1 x4.1 x4.2 else
  f_Tl_tellPerson_j68 x2.1 x4.1 x4.2 else
  f_Tl_tellPerson_j83 x2.1 x4.1 x4.2
set_option maxRecDepth 20000 in
theorem p_Tl_tellPerson_j83 {X : hl_X} (D : Nat) (v1 : Int32) (v2 : Int32) (σ : hl_M) {τ : hl_M} (h : f_Tl_tellPerson_j83 v1 v2 σ = some τ) : hl_R X (D + 8) y38 83 [(0, .ref 24), (1, .int v1), (2, .int v2)] [] σ none τ := by
  unfold f_Tl_tellPerson_j83 at h
  refine hl_aload_n (i := 0) d38_83 rfl rfl (by decide) ?_
  refine hl_gr d38_84 gTl_9_24 ?_
  refine hl_ldcS (j := 13) d38_87 (by decide) ⟨rfl, rfl⟩ ?_
  obtain ⟨x5, hx5, h⟩ := hl_bind h
  refine hl_cVv (D := (D + 7)) (z := y29) (n := 1) (av := [.ref 213]) (st := []) d38_89 mlTl_76 rfl (Nat.le_of_ble_eq_true rfl) (Nat.le_of_ble_eq_true rfl) rc3 ((p_Rd_wantWord D 13 (by decide) σ hx5).dle (by omega)) ?_
  refine hl_aload_n (i := 0) d38_92 rfl rfl (by decide) ?_
  refine hl_gr d38_93 gTl_9_24 ?_
  refine hl_iconst d38_96 ki0 ?_
  refine hl_iconst d38_97 ki2 ?_
  obtain ⟨x6, hx6, h⟩ := hl_bind h
  refine hl_cVi (D := (D + 7)) (z := y30) (n := 2) (av := [.int 0, .int 2]) (st := []) d38_98 mlTl_80 rfl (Nat.le_of_ble_eq_true rfl) (Nat.le_of_ble_eq_true rfl) rc3 ((p_Rd_wantNumber D 0 2 x5 hx6).dle (by omega)) ?_
  refine hl_istore_n (i := 3) (ls2 := [(3, .int x6.1), (0, .ref 24), (1, .int v1), (2, .int v2)]) d38_101 rfl (by decide) rfl ?_
  refine hl_aload_n (i := 0) d38_102 rfl rfl (by decide) ?_
  refine hl_gr d38_103 gTl_9_24 ?_
  refine hl_ldcS (j := 14) d38_106 (by decide) ⟨rfl, rfl⟩ ?_
  obtain ⟨x7, hx7, h⟩ := hl_bind h
  refine hl_cVv (D := (D + 7)) (z := y29) (n := 1) (av := [.ref 214]) (st := []) d38_108 mlTl_76 rfl (Nat.le_of_ble_eq_true rfl) (Nat.le_of_ble_eq_true rfl) rc3 ((p_Rd_wantWord D 14 (by decide) x6.2 hx7).dle (by omega)) ?_
  refine hl_aload_n (i := 0) d38_111 rfl rfl (by decide) ?_
  refine hl_gr d38_112 gTl_9_24 ?_
  obtain ⟨x8, hx8, h⟩ := hl_bind h
  refine hl_cVl (D := (D + 7)) (z := y39) (n := 0) (av := []) (st := []) d38_115 mlTl_128 rfl (Nat.le_of_ble_eq_true rfl) (Nat.le_of_ble_eq_true rfl) rc3 ((p_Rd_wantSteps D x7 hx8).dle (by omega)) ?_
  refine hl_lstore (ls2 := [(4, .long x8.1), (3, .int x6.1), (0, .ref 24), (1, .int v1), (2, .int v2)]) d38_118 (by decide) rfl ?_
  refine hl_aload_n (i := 0) d38_120 rfl rfl (by decide) ?_
  refine hl_gr d38_121 gTl_9_24 ?_
  refine hl_bipush d38_124 kb59 ?_
  obtain ⟨x9, hx9, h⟩ := hl_bind h
  refine hl_cVv (D := (D + 7)) (z := y31) (n := 1) (av := [.int 59]) (st := []) d38_126 mlTl_90 rfl (Nat.le_of_ble_eq_true rfl) (Nat.le_of_ble_eq_true rfl) rc3 ((p_Rd_wantSign D 59 x8.2 hx9).dle (by omega)) ?_
  refine hl_aload_n (i := 0) d38_129 rfl rfl (by decide) ?_
  refine hl_gr d38_130 gTl_9_24 ?_
  refine hl_cVi (D := (D + 7)) (z := y14) (n := 0) (av := []) (st := []) d38_133 mlTl_33 rfl (Nat.le_of_ble_eq_true rfl) (Nat.le_of_ble_eq_true rfl) rc3 ((p_Rd_failed D x9 rfl).dle (by omega)) ?_
  refine hl_if_ne (tg := 232) d38_136 rfl (fun hc => ?_) (fun hc => ?_)
  · have h := hl_neg hc h
    have h := Option.some.inj h
    subst h
    exact hl_vret d38_232 rfl
  · have h := hl_pos hc h
    refine hl_aload_n (i := 0) d38_139 rfl rfl (by decide) ?_
    refine hl_gr d38_140 gTl_15_24 ?_
    refine hl_gi d38_143 gTl_113_14 ?_
    refine hl_bipush d38_146 kb10 ?_
    refine hl_cNi (D := (D + 7)) (z := y2) (n := 2) (av := [.int (x9.1 14 3), .int 10]) (st := []) d38_148 mlTl_132 rfl (Nat.le_of_ble_eq_true rfl) (Nat.le_of_ble_eq_true rfl) ((p_X_within D (x9.1 14 3) 10 x9 rfl).dle (by omega)) ?_
    refine hl_if_eq (tg := 232) d38_151 rfl (fun hc => ?_) (fun hc => ?_)
    · have h := hl_pos hc h
      have h := Option.some.inj h
      subst h
      exact hl_vret d38_232 rfl
    · have h := hl_neg hc h
      refine hl_aload_n (i := 0) d38_154 rfl rfl (by decide) ?_
      refine hl_gr d38_155 gTl_15_24 ?_
      refine hl_gr d38_158 gTl_135_14 ?_
      refine hl_aload_n (i := 0) d38_161 rfl rfl (by decide) ?_
      refine hl_gr d38_162 gTl_15_24 ?_
      refine hl_gi d38_165 gTl_113_14 ?_
      refine hl_iload_n (i := 1) d38_168 rfl rfl ?_
      obtain ⟨hb, h⟩ := hl_gd h
      refine hl_iast (q := 15) d38_169 sh15 (hl_b_in hb) ?_
      refine hl_aload_n (i := 0) d38_170 rfl rfl (by decide) ?_
      refine hl_gr d38_171 gTl_15_24 ?_
      refine hl_gr d38_174 gTl_139_14 ?_
      refine hl_aload_n (i := 0) d38_177 rfl rfl (by decide) ?_
      refine hl_gr d38_178 gTl_15_24 ?_
      refine hl_gi d38_181 gTl_113_14 ?_
      refine hl_iload_n (i := 2) d38_184 rfl rfl ?_
      obtain ⟨hb, h⟩ := hl_gd h
      refine hl_iast (q := 16) d38_185 sh16 (hl_b_in hb) ?_
      refine hl_aload_n (i := 0) d38_186 rfl rfl (by decide) ?_
      refine hl_gr d38_187 gTl_15_24 ?_
      refine hl_gr d38_190 gTl_142_14 ?_
      refine hl_aload_n (i := 0) d38_193 rfl rfl (by decide) ?_
      refine hl_gr d38_194 gTl_15_24 ?_
      refine hl_gi d38_197 gTl_113_14 ?_
      refine hl_iload_n (i := 3) d38_200 rfl rfl ?_
      obtain ⟨hb, h⟩ := hl_gd h
      refine hl_iast (q := 17) d38_201 sh17 (hl_b_in hb) ?_
      refine hl_aload_n (i := 0) d38_202 rfl rfl (by decide) ?_
      refine hl_gr d38_203 gTl_15_24 ?_
      refine hl_gr d38_206 gTl_145_14 ?_
      refine hl_aload_n (i := 0) d38_209 rfl rfl (by decide) ?_
      refine hl_gr d38_210 gTl_15_24 ?_
      refine hl_gi d38_213 gTl_113_14 ?_
      refine hl_lload d38_216 rfl ?_
      obtain ⟨hb, h⟩ := hl_gd h
      refine hl_last (q := 18) d38_218 sh18 (hl_b_in hb) ?_
      refine hl_aload_n (i := 0) d38_219 rfl rfl (by decide) ?_
      refine hl_gr d38_220 gTl_15_24 ?_
      refine hl_dup d38_223 rfl ?_
      refine hl_gi d38_224 gTl_113_14 ?_
      refine hl_iconst d38_227 ki1 ?_
      refine hl_iadd d38_228 ?_
      refine hl_pi d38_229 qTl_113_14 ?_
      refine hl_nmm h (fun σ10 h => ?_)
      have h := Option.some.inj h
      subst h
      exact hl_vret d38_232 rfl
set_option maxRecDepth 20000 in
theorem p_Tl_tellPerson_j68 {X : hl_X} (D : Nat) (v1 : Int32) (v2 : Int32) (σ : hl_M) {τ : hl_M} (h : f_Tl_tellPerson_j68 v1 v2 σ = some τ) : hl_R X (D + 8) y38 68 [(0, .ref 24), (1, .int v1), (2, .int v2)] [] σ none τ := by
  unfold f_Tl_tellPerson_j68 at h
  refine hl_aload_n (i := 0) d38_68 rfl rfl (by decide) ?_
  refine hl_gr d38_69 gTl_9_24 ?_
  refine hl_iconst d38_72 ki2 ?_
  refine hl_aload_n (i := 0) d38_73 rfl rfl (by decide) ?_
  refine hl_gr d38_74 gTl_9_24 ?_
  refine hl_gi d38_77 gTl_106_3 ?_
  refine hl_cVv (D := (D + 7)) (z := y23) (n := 2) (av := [.int 2, .int (σ.1 3 6)]) (st := []) d38_80 mlTl_70 rfl (Nat.le_of_ble_eq_true rfl) (Nat.le_of_ble_eq_true rfl) rc3 ((p_Rd_fail D 2 (σ.1 3 6) σ rfl).dle (by omega)) ?_
  exact hl_loc (p_Tl_tellPerson_j83 D v1 v2 (f_Rd_fail 2 (σ.1 3 6) σ) h) ⟨rfl, rfl, rfl, trivial⟩
set_option maxRecDepth 20000 in
theorem p_Tl_tellPerson {X : hl_X} (D : Nat) (σ : hl_M) {τ : hl_M} (h : f_Tl_tellPerson σ = some τ) : hl_R X (D + 8) y38 0 [(0, .ref 24)] [] σ none τ := by
  unfold f_Tl_tellPerson at h
  refine hl_aload_n (i := 0) d38_0 rfl rfl (by decide) ?_
  refine hl_aload_n (i := 0) d38_1 rfl rfl (by decide) ?_
  refine hl_gr d38_2 gTl_15_24 ?_
  refine hl_gi d38_5 gTl_113_14 ?_
  refine hl_bipush d38_8 kb10 ?_
  obtain ⟨x1, hx1, h⟩ := hl_bind h
  refine hl_cVi (D := (D + 7)) (z := y25) (n := 2) (av := [.int (σ.1 14 3), .int 10]) (st := []) d38_10 mlTl_94 rfl (Nat.le_of_ble_eq_true rfl) (Nat.le_of_ble_eq_true rfl) rc24 ((p_Tl_startsOneOf D (σ.1 14 3) 10 σ hx1).dle (by omega)) ?_
  refine hl_if_ne (tg := 17) d38_13 rfl (fun hc => ?_) (fun hc => ?_)
  · have h := hl_neg hc h
    refine hl_aload_n (i := 0) d38_17 rfl rfl (by decide) ?_
    obtain ⟨x2, hx2, h⟩ := hl_bind h
    refine hl_cVi (D := (D + 7)) (z := y34) (n := 0) (av := []) (st := []) d38_18 mlTl_116 rfl (Nat.le_of_ble_eq_true rfl) (Nat.le_of_ble_eq_true rfl) rc24 ((p_Tl_wantNewName D x1.2 hx2).dle (by omega)) ?_
    refine hl_istore_n (i := 1) (ls2 := [(1, .int x2.1), (0, .ref 24)]) d38_21 rfl (by decide) rfl ?_
    refine hl_aload_n (i := 0) d38_22 rfl rfl (by decide) ?_
    refine hl_gr d38_23 gTl_9_24 ?_
    refine hl_ldcS (j := 12) d38_26 (by decide) ⟨rfl, rfl⟩ ?_
    obtain ⟨x3, hx3, h⟩ := hl_bind h
    refine hl_cVv (D := (D + 7)) (z := y29) (n := 1) (av := [.ref 212]) (st := []) d38_28 mlTl_76 rfl (Nat.le_of_ble_eq_true rfl) (Nat.le_of_ble_eq_true rfl) rc3 ((p_Rd_wantWord D 12 (by decide) x2.2 hx3).dle (by omega)) ?_
    refine hl_aload_n (i := 0) d38_31 rfl rfl (by decide) ?_
    obtain ⟨x4, hx4, h⟩ := hl_bind h
    refine hl_cVi (D := (D + 7)) (z := y36) (n := 0) (av := []) (st := []) d38_32 mlTl_98 rfl (Nat.le_of_ble_eq_true rfl) (Nat.le_of_ble_eq_true rfl) rc24 ((p_Tl_wantCell D x3 hx4).dle (by omega)) ?_
    refine hl_istore_n (i := 2) (ls2 := [(2, .int x4.1), (1, .int x2.1), (0, .ref 24)]) d38_35 rfl (by decide) rfl ?_
    refine hl_aload_n (i := 0) d38_36 rfl rfl (by decide) ?_
    refine hl_gr d38_37 gTl_9_24 ?_
    refine hl_cVi (D := (D + 7)) (z := y14) (n := 0) (av := []) (st := []) d38_40 mlTl_33 rfl (Nat.le_of_ble_eq_true rfl) (Nat.le_of_ble_eq_true rfl) rc3 ((p_Rd_failed D x4.2 rfl).dle (by omega)) ?_
    refine hl_if_ne (tg := 83) d38_43 rfl (fun hc => ?_) (fun hc => ?_)
    · have h := hl_neg hc h
      exact hl_loc (p_Tl_tellPerson_j83 D x2.1 x4.1 x4.2 h) ⟨rfl, rfl, rfl, trivial⟩
    · have h := hl_pos hc h
      refine hl_aload_n (i := 0) d38_46 rfl rfl (by decide) ?_
      refine hl_gr d38_47 gTl_15_24 ?_
      refine hl_iload_n (i := 2) d38_50 rfl rfl ?_
      refine hl_cVi (D := (D + 7)) (z := y49) (n := 1) (av := [.int x4.1]) (st := []) d38_51 mlTl_121 rfl (Nat.le_of_ble_eq_true rfl) (Nat.le_of_ble_eq_true rfl) rc14 ((p_Gr_isOpen_d D x4.1 x4.2 rfl).dle (by omega)) ?_
      refine hl_if_eq (tg := 68) d38_54 rfl (fun hc => ?_) (fun hc => ?_)
      · have h := hl_pos hc h
        exact hl_loc (p_Tl_tellPerson_j68 D x2.1 x4.1 x4.2 h) ⟨rfl, rfl, rfl, trivial⟩
      · have h := hl_neg hc h
        refine hl_aload_n (i := 0) d38_57 rfl rfl (by decide) ?_
        refine hl_gr d38_58 gTl_15_24 ?_
        refine hl_iload_n (i := 2) d38_61 rfl rfl ?_
        obtain ⟨x11, hx11, h⟩ := hl_bind h
        refine hl_cVi (D := (D + 7)) (z := y51) (n := 1) (av := [.int x4.1]) (st := []) d38_62 mlTl_102 rfl (Nat.le_of_ble_eq_true rfl) (Nat.le_of_ble_eq_true rfl) rc14 ((p_Gr_isTold_d D x4.1 x4.2 hx11).dle (by omega)) ?_
        refine hl_if_eq (tg := 83) d38_65 rfl (fun hc => ?_) (fun hc => ?_)
        · have h := hl_pos hc h
          exact hl_loc (p_Tl_tellPerson_j83 D x2.1 x4.1 x4.2 h) ⟨rfl, rfl, rfl, trivial⟩
        · have h := hl_neg hc h
          exact hl_loc (p_Tl_tellPerson_j68 D x2.1 x4.1 x4.2 h) ⟨rfl, rfl, rfl, trivial⟩
  · have h := hl_pos hc h
    have h := Option.some.inj h
    subst h
    exact hl_vret d38_16 rfl
def f_Tl_tellWall_j80 (σ : hl_M) : Option (hl_M) :=
  (f_Rd_wantSign 59 σ).bind fun x3 =>
  some x3
def f_Tl_tellWall_j65 (v1 : Int32) (σ : hl_M) : Option (hl_M) :=
  f_Tl_tellWall_j80 (hl_sl σ 14 2 ((σ.2 14 2) ||| ((1 : Int64) <<< (v1.toInt64 &&& 63))))
def f_Tl_tellWall (σ : hl_M) : Option (hl_M) :=
  (f_Tl_startsOneOf (σ.1 24 2) 20 σ).bind fun x1 =>
  if x1.1 = 0 then
  some x1.2 else
  (f_Tl_wantCell (hl_si x1.2 24 2 ((x1.2.1 24 2) + 1))).bind fun x2 =>
  if (f_Rd_failed x2.2) = 0 then
  (f_Gr_isTold_d x2.1 x2.2).bind fun x4 =>
  if x4 = 0 then
  f_Tl_tellWall_j65 x2.1 x2.2 else
  f_Tl_tellWall_j65 x2.1 (f_Rd_fail 2 (x2.2.1 3 6) x2.2) else
  f_Tl_tellWall_j80 x2.2
set_option maxRecDepth 20000 in
theorem p_Tl_tellWall_j80 {X : hl_X} (D : Nat) (σ : hl_M) {τ : hl_M} (h : f_Tl_tellWall_j80 σ = some τ) : hl_R X (D + 4) y52 80 [(0, .ref 24)] [] σ none τ := by
  unfold f_Tl_tellWall_j80 at h
  refine hl_aload_n (i := 0) d52_80 rfl rfl (by decide) ?_
  refine hl_gr d52_81 gTl_9_24 ?_
  refine hl_bipush d52_84 kb59 ?_
  obtain ⟨x3, hx3, h⟩ := hl_bind h
  refine hl_cVv (D := (D + 3)) (z := y31) (n := 1) (av := [.int 59]) (st := []) d52_86 mlTl_90 rfl (Nat.le_of_ble_eq_true rfl) (Nat.le_of_ble_eq_true rfl) rc3 ((p_Rd_wantSign D 59 σ hx3).dle (by omega)) ?_
  have h := Option.some.inj h
  subst h
  exact hl_vret d52_89 rfl
set_option maxRecDepth 20000 in
theorem p_Tl_tellWall_j65 {X : hl_X} (D : Nat) (v1 : Int32) (σ : hl_M) {τ : hl_M} (h : f_Tl_tellWall_j65 v1 σ = some τ) : hl_R X (D + 4) y52 65 [(0, .ref 24), (1, .int v1)] [] σ none τ := by
  unfold f_Tl_tellWall_j65 at h
  refine hl_aload_n (i := 0) d52_65 rfl rfl (by decide) ?_
  refine hl_gr d52_66 gTl_15_24 ?_
  refine hl_dup d52_69 rfl ?_
  refine hl_gl d52_70 gTl_109_14 ?_
  refine hl_lconst (x := 1) d52_73 (by decide) ?_
  refine hl_iload_n (i := 1) d52_74 rfl rfl ?_
  refine hl_lshl d52_75 ?_
  refine hl_lor d52_76 ?_
  refine hl_pl d52_77 qTl_109_14 ?_
  exact hl_loc (p_Tl_tellWall_j80 D (hl_sl σ 14 2 ((σ.2 14 2) ||| ((1 : Int64) <<< (v1.toInt64 &&& 63)))) h) ⟨rfl, trivial⟩
set_option maxRecDepth 20000 in
theorem p_Tl_tellWall {X : hl_X} (D : Nat) (σ : hl_M) {τ : hl_M} (h : f_Tl_tellWall σ = some τ) : hl_R X (D + 4) y52 0 [(0, .ref 24)] [] σ none τ := by
  unfold f_Tl_tellWall at h
  refine hl_aload_n (i := 0) d52_0 rfl rfl (by decide) ?_
  refine hl_aload_n (i := 0) d52_1 rfl rfl (by decide) ?_
  refine hl_gi d52_2 gTl_24_24 ?_
  refine hl_bipush d52_5 kb20 ?_
  obtain ⟨x1, hx1, h⟩ := hl_bind h
  refine hl_cVi (D := (D + 3)) (z := y25) (n := 2) (av := [.int (σ.1 24 2), .int 20]) (st := []) d52_7 mlTl_94 rfl (Nat.le_of_ble_eq_true rfl) (Nat.le_of_ble_eq_true rfl) rc24 ((p_Tl_startsOneOf D (σ.1 24 2) 20 σ hx1).dle (by omega)) ?_
  refine hl_if_ne (tg := 14) d52_10 rfl (fun hc => ?_) (fun hc => ?_)
  · have h := hl_neg hc h
    refine hl_aload_n (i := 0) d52_14 rfl rfl (by decide) ?_
    refine hl_dup d52_15 rfl ?_
    refine hl_gi d52_16 gTl_24_24 ?_
    refine hl_iconst d52_19 ki1 ?_
    refine hl_iadd d52_20 ?_
    refine hl_pi d52_21 qTl_24_24 ?_
    refine hl_aload_n (i := 0) d52_24 rfl rfl (by decide) ?_
    obtain ⟨x2, hx2, h⟩ := hl_bind h
    refine hl_cVi (D := (D + 3)) (z := y36) (n := 0) (av := []) (st := []) d52_25 mlTl_98 rfl (Nat.le_of_ble_eq_true rfl) (Nat.le_of_ble_eq_true rfl) rc24 ((p_Tl_wantCell D (hl_si x1.2 24 2 ((x1.2.1 24 2) + 1)) hx2).dle (by omega)) ?_
    refine hl_istore_n (i := 1) (ls2 := [(1, .int x2.1), (0, .ref 24)]) d52_28 rfl (by decide) rfl ?_
    refine hl_aload_n (i := 0) d52_29 rfl rfl (by decide) ?_
    refine hl_gr d52_30 gTl_9_24 ?_
    refine hl_cVi (D := (D + 3)) (z := y14) (n := 0) (av := []) (st := []) d52_33 mlTl_33 rfl (Nat.le_of_ble_eq_true rfl) (Nat.le_of_ble_eq_true rfl) rc3 ((p_Rd_failed D x2.2 rfl).dle (by omega)) ?_
    refine hl_if_ne (tg := 80) d52_36 rfl (fun hc => ?_) (fun hc => ?_)
    · have h := hl_neg hc h
      exact hl_loc (p_Tl_tellWall_j80 D x2.2 h) ⟨rfl, trivial⟩
    · have h := hl_pos hc h
      refine hl_aload_n (i := 0) d52_39 rfl rfl (by decide) ?_
      refine hl_gr d52_40 gTl_15_24 ?_
      refine hl_iload_n (i := 1) d52_43 rfl rfl ?_
      obtain ⟨x4, hx4, h⟩ := hl_bind h
      refine hl_cVi (D := (D + 3)) (z := y51) (n := 1) (av := [.int x2.1]) (st := []) d52_44 mlTl_102 rfl (Nat.le_of_ble_eq_true rfl) (Nat.le_of_ble_eq_true rfl) rc14 ((p_Gr_isTold_d D x2.1 x2.2 hx4).dle (by omega)) ?_
      refine hl_if_eq (tg := 65) d52_47 rfl (fun hc => ?_) (fun hc => ?_)
      · have h := hl_pos hc h
        exact hl_loc (p_Tl_tellWall_j65 D x2.1 x2.2 h) ⟨rfl, rfl, trivial⟩
      · have h := hl_neg hc h
        refine hl_aload_n (i := 0) d52_50 rfl rfl (by decide) ?_
        refine hl_gr d52_51 gTl_9_24 ?_
        refine hl_iconst d52_54 ki2 ?_
        refine hl_aload_n (i := 0) d52_55 rfl rfl (by decide) ?_
        refine hl_gr d52_56 gTl_9_24 ?_
        refine hl_gi d52_59 gTl_106_3 ?_
        refine hl_cVv (D := (D + 3)) (z := y23) (n := 2) (av := [.int 2, .int (x2.2.1 3 6)]) (st := []) d52_62 mlTl_70 rfl (Nat.le_of_ble_eq_true rfl) (Nat.le_of_ble_eq_true rfl) rc3 ((p_Rd_fail D 2 (x2.2.1 3 6) x2.2 rfl).dle (by omega)) ?_
        exact hl_loc (p_Tl_tellWall_j65 D x2.1 (f_Rd_fail 2 (x2.2.1 3 6) x2.2) h) ⟨rfl, rfl, trivial⟩
  · have h := hl_pos hc h
    have h := Option.some.inj h
    subst h
    exact hl_vret d52_13 rfl
def f_Tl_tellGround_j57 (σ : hl_M) : Option (hl_M) :=
  (f_Rd_wantSign 59 σ).bind fun x4 =>
  some x4
def f_Tl_tellGround (σ : hl_M) : Option (hl_M) :=
  (f_Rd_wantWord 0 σ).bind fun x1 =>
  (f_Rd_wantNumber 3 9 x1).bind fun x2 =>
  (f_Rd_wantNumber 3 6 x2.2).bind fun x3 =>
  if (f_Rd_failed x3.2) = 0 then
  f_Tl_tellGround_j57 (hl_si (hl_si x3.2 14 0 x2.1) 14 1 x3.1) else
  f_Tl_tellGround_j57 x3.2
set_option maxRecDepth 20000 in
theorem p_Tl_tellGround_j57 {X : hl_X} (D : Nat) (σ : hl_M) {τ : hl_M} (h : f_Tl_tellGround_j57 σ = some τ) : hl_R X (D + 6) y53 57 [(0, .ref 24)] [] σ none τ := by
  unfold f_Tl_tellGround_j57 at h
  refine hl_aload_n (i := 0) d53_57 rfl rfl (by decide) ?_
  refine hl_gr d53_58 gTl_9_24 ?_
  refine hl_bipush d53_61 kb59 ?_
  obtain ⟨x4, hx4, h⟩ := hl_bind h
  refine hl_cVv (D := (D + 5)) (z := y31) (n := 1) (av := [.int 59]) (st := []) d53_63 mlTl_90 rfl (Nat.le_of_ble_eq_true rfl) (Nat.le_of_ble_eq_true rfl) rc3 ((p_Rd_wantSign D 59 σ hx4).dle (by omega)) ?_
  have h := Option.some.inj h
  subst h
  exact hl_vret d53_66 rfl
set_option maxRecDepth 20000 in
theorem p_Tl_tellGround {X : hl_X} (D : Nat) (σ : hl_M) {τ : hl_M} (h : f_Tl_tellGround σ = some τ) : hl_R X (D + 6) y53 0 [(0, .ref 24)] [] σ none τ := by
  unfold f_Tl_tellGround at h
  refine hl_aload_n (i := 0) d53_0 rfl rfl (by decide) ?_
  refine hl_gr d53_1 gTl_9_24 ?_
  refine hl_ldcS (j := 0) d53_4 (by decide) ⟨rfl, rfl⟩ ?_
  obtain ⟨x1, hx1, h⟩ := hl_bind h
  refine hl_cVv (D := (D + 5)) (z := y29) (n := 1) (av := [.ref 200]) (st := []) d53_6 mlTl_76 rfl (Nat.le_of_ble_eq_true rfl) (Nat.le_of_ble_eq_true rfl) rc3 ((p_Rd_wantWord D 0 (by decide) σ hx1).dle (by omega)) ?_
  refine hl_aload_n (i := 0) d53_9 rfl rfl (by decide) ?_
  refine hl_gr d53_10 gTl_9_24 ?_
  refine hl_iconst d53_13 ki3 ?_
  refine hl_bipush d53_14 kb9 ?_
  obtain ⟨x2, hx2, h⟩ := hl_bind h
  refine hl_cVi (D := (D + 5)) (z := y30) (n := 2) (av := [.int 3, .int 9]) (st := []) d53_16 mlTl_80 rfl (Nat.le_of_ble_eq_true rfl) (Nat.le_of_ble_eq_true rfl) rc3 ((p_Rd_wantNumber D 3 9 x1 hx2).dle (by omega)) ?_
  refine hl_istore_n (i := 1) (ls2 := [(1, .int x2.1), (0, .ref 24)]) d53_19 rfl (by decide) rfl ?_
  refine hl_aload_n (i := 0) d53_20 rfl rfl (by decide) ?_
  refine hl_gr d53_21 gTl_9_24 ?_
  refine hl_iconst d53_24 ki3 ?_
  refine hl_bipush d53_25 kb6 ?_
  obtain ⟨x3, hx3, h⟩ := hl_bind h
  refine hl_cVi (D := (D + 5)) (z := y30) (n := 2) (av := [.int 3, .int 6]) (st := []) d53_27 mlTl_80 rfl (Nat.le_of_ble_eq_true rfl) (Nat.le_of_ble_eq_true rfl) rc3 ((p_Rd_wantNumber D 3 6 x2.2 hx3).dle (by omega)) ?_
  refine hl_istore_n (i := 2) (ls2 := [(2, .int x3.1), (1, .int x2.1), (0, .ref 24)]) d53_30 rfl (by decide) rfl ?_
  refine hl_aload_n (i := 0) d53_31 rfl rfl (by decide) ?_
  refine hl_gr d53_32 gTl_9_24 ?_
  refine hl_cVi (D := (D + 5)) (z := y14) (n := 0) (av := []) (st := []) d53_35 mlTl_33 rfl (Nat.le_of_ble_eq_true rfl) (Nat.le_of_ble_eq_true rfl) rc3 ((p_Rd_failed D x3.2 rfl).dle (by omega)) ?_
  refine hl_if_ne (tg := 57) d53_38 rfl (fun hc => ?_) (fun hc => ?_)
  · have h := hl_neg hc h
    exact hl_loc (p_Tl_tellGround_j57 D x3.2 h) ⟨rfl, trivial⟩
  · have h := hl_pos hc h
    refine hl_aload_n (i := 0) d53_41 rfl rfl (by decide) ?_
    refine hl_gr d53_42 gTl_15_24 ?_
    refine hl_iload_n (i := 1) d53_45 rfl rfl ?_
    refine hl_pi d53_46 qTl_84_14 ?_
    refine hl_aload_n (i := 0) d53_49 rfl rfl (by decide) ?_
    refine hl_gr d53_50 gTl_15_24 ?_
    refine hl_iload_n (i := 2) d53_53 rfl rfl ?_
    refine hl_pi d53_54 qTl_87_14 ?_
    exact hl_loc (p_Tl_tellGround_j57 D (hl_si (hl_si x3.2 14 0 x2.1) 14 1 x3.1) h) ⟨rfl, trivial⟩
def f_Tl_tell_L21 (s : Int32 × hl_M) : Option ((Int32 × hl_M) ⊕ (Int32 × hl_M)) :=
  if 70 ≤ s.1 then
  some (.inr (((s.1, s.2)))) else
  if (f_Rd_failed s.2) = 0 then
  if (s.2.1 3 1) = 0 then
  some (.inr (((s.1, s.2)))) else
  if s.1 = 0 then
  (f_Tl_tellGround s.2).bind fun x10 =>
  some (.inl ((s.1 + 1, x10))) else
  (f_Rd_isWord 1 s.2).bind fun x2 =>
  if x2 = 0 then
  (f_Rd_isWord 2 s.2).bind fun x3 =>
  if x3 = 0 then
  (f_Rd_isWord 16 s.2).bind fun x4 =>
  if x4 = 0 then
  (f_Rd_isWord 17 s.2).bind fun x5 =>
  if x5 = 0 then
  some (.inl ((s.1 + 1, f_Rd_fail 1 (s.2.1 3 2) s.2))) else
  (f_Tl_tellHymn s.2).bind fun x6 =>
  some (.inl ((s.1 + 1, x6))) else
  (f_Tl_tellWord s.2).bind fun x7 =>
  some (.inl ((s.1 + 1, x7))) else
  (f_Tl_tellPerson s.2).bind fun x8 =>
  some (.inl ((s.1 + 1, x8))) else
  (f_Tl_tellWall s.2).bind fun x9 =>
  some (.inl ((s.1 + 1, x9))) else
  some (.inr (((s.1, s.2))))
def f_Tl_tell_j202 (v1 : Int32) (σ : hl_M) : Option (Int32 × hl_M) :=
  if (f_Rd_failed σ) = 0 then
  some ((v1, σ)) else
  some (((-1), σ))
def f_Tl_tell (σ : hl_M) : Option (Int32 × hl_M) :=
  (f_Rd_begin (hl_si (f_Gr_clear_d σ) 24 2 0)).bind fun x1 =>
  (hl_lp (f_Tl_tell_L21) hl_big ((0, x1))).bind fun x11 =>
  if x11.1 = 0 then
  f_Tl_tell_j202 x11.1 (f_Rd_fail 1 (x11.2.1 3 2) x11.2) else
  if (x11.2.1 3 1) = 0 then
  f_Tl_tell_j202 x11.1 x11.2 else
  f_Tl_tell_j202 x11.1 (f_Rd_fail 5 (x11.2.1 3 2) x11.2)
set_option maxRecDepth 20000 in
theorem p_Tl_tell_L21 {X : hl_X} (D : Nat) (s : Int32 × hl_M) {o : (Int32 × hl_M) ⊕ (Int32 × hl_M)} {v : Option Value} {τ : hl_M} (h : f_Tl_tell_L21 s = some o) (k1 : ∀ (c0 : Int32) (c1 : hl_M), o = .inl ((c0, c1)) → hl_R X (D + 9) y7 21 [(0, .ref 24), (1, .int c0)] [] c1 v τ) (k2 : ∀ (a0 : Int32) (a1 : hl_M), o = .inr ((a0, a1)) → hl_R X (D + 9) y7 155 [(0, .ref 24), (1, .int a0)] [] a1 v τ) : hl_R X (D + 9) y7 21 [(0, .ref 24), (1, .int s.1)] [] s.2 v τ := by
  unfold f_Tl_tell_L21 at h
  refine hl_iload_n (i := 1) d7_21 rfl rfl ?_
  refine hl_bipush d7_22 kb70 ?_
  refine hl_icmp_ge (tg := 155) d7_24 rfl (fun hc => ?_) (fun hc => ?_)
  · have h := hl_pos hc h
    have h := Option.some.inj h
    subst h
    exact hl_loc (k2 s.1 s.2 rfl) ⟨rfl, rfl, trivial⟩
  · have h := hl_neg hc h
    refine hl_aload_n (i := 0) d7_27 rfl rfl (by decide) ?_
    refine hl_gr d7_28 gTl_9_24 ?_
    refine hl_cVi (D := (D + 8)) (z := y14) (n := 0) (av := []) (st := []) d7_31 mlTl_33 rfl (Nat.le_of_ble_eq_true rfl) (Nat.le_of_ble_eq_true rfl) rc3 ((p_Rd_failed D s.2 rfl).dle (by omega)) ?_
    refine hl_if_ne (tg := 155) d7_34 rfl (fun hc => ?_) (fun hc => ?_)
    · have h := hl_neg hc h
      have h := Option.some.inj h
      subst h
      exact hl_loc (k2 s.1 s.2 rfl) ⟨rfl, rfl, trivial⟩
    · have h := hl_pos hc h
      refine hl_aload_n (i := 0) d7_37 rfl rfl (by decide) ?_
      refine hl_gr d7_38 gTl_9_24 ?_
      refine hl_gi d7_41 gTl_37_3 ?_
      refine hl_if_eq (tg := 155) d7_44 rfl (fun hc => ?_) (fun hc => ?_)
      · have h := hl_pos hc h
        have h := Option.some.inj h
        subst h
        exact hl_loc (k2 s.1 s.2 rfl) ⟨rfl, rfl, trivial⟩
      · have h := hl_neg hc h
        refine hl_iload_n (i := 1) d7_47 rfl rfl ?_
        refine hl_if_ne (tg := 58) d7_48 rfl (fun hc => ?_) (fun hc => ?_)
        · have h := hl_neg hc h
          refine hl_aload_n (i := 0) d7_58 rfl rfl (by decide) ?_
          refine hl_gr d7_59 gTl_9_24 ?_
          refine hl_ldcS (j := 1) d7_62 (by decide) ⟨rfl, rfl⟩ ?_
          obtain ⟨x2, hx2, h⟩ := hl_bind h
          refine hl_cVi (D := (D + 8)) (z := y15) (n := 1) (av := [.ref 201]) (st := []) d7_64 mlTl_45 rfl (Nat.le_of_ble_eq_true rfl) (Nat.le_of_ble_eq_true rfl) rc3 ((p_Rd_isWord D 1 (by decide) s.2 hx2).dle (by omega)) ?_
          refine hl_if_eq (tg := 77) d7_67 rfl (fun hc => ?_) (fun hc => ?_)
          · have h := hl_pos hc h
            refine hl_aload_n (i := 0) d7_77 rfl rfl (by decide) ?_
            refine hl_gr d7_78 gTl_9_24 ?_
            refine hl_ldcS (j := 2) d7_81 (by decide) ⟨rfl, rfl⟩ ?_
            obtain ⟨x3, hx3, h⟩ := hl_bind h
            refine hl_cVi (D := (D + 8)) (z := y15) (n := 1) (av := [.ref 202]) (st := []) d7_83 mlTl_45 rfl (Nat.le_of_ble_eq_true rfl) (Nat.le_of_ble_eq_true rfl) rc3 ((p_Rd_isWord D 2 (by decide) s.2 hx3).dle (by omega)) ?_
            refine hl_if_eq (tg := 96) d7_86 rfl (fun hc => ?_) (fun hc => ?_)
            · have h := hl_pos hc h
              refine hl_aload_n (i := 0) d7_96 rfl rfl (by decide) ?_
              refine hl_gr d7_97 gTl_9_24 ?_
              refine hl_ldcS (j := 16) d7_100 (by decide) ⟨rfl, rfl⟩ ?_
              obtain ⟨x4, hx4, h⟩ := hl_bind h
              refine hl_cVi (D := (D + 8)) (z := y15) (n := 1) (av := [.ref 216]) (st := []) d7_102 mlTl_45 rfl (Nat.le_of_ble_eq_true rfl) (Nat.le_of_ble_eq_true rfl) rc3 ((p_Rd_isWord D 16 (by decide) s.2 hx4).dle (by omega)) ?_
              refine hl_if_eq (tg := 115) d7_105 rfl (fun hc => ?_) (fun hc => ?_)
              · have h := hl_pos hc h
                refine hl_aload_n (i := 0) d7_115 rfl rfl (by decide) ?_
                refine hl_gr d7_116 gTl_9_24 ?_
                refine hl_ldcS (j := 17) d7_119 (by decide) ⟨rfl, rfl⟩ ?_
                obtain ⟨x5, hx5, h⟩ := hl_bind h
                refine hl_cVi (D := (D + 8)) (z := y15) (n := 1) (av := [.ref 217]) (st := []) d7_121 mlTl_45 rfl (Nat.le_of_ble_eq_true rfl) (Nat.le_of_ble_eq_true rfl) rc3 ((p_Rd_isWord D 17 (by decide) s.2 hx5).dle (by omega)) ?_
                refine hl_if_eq (tg := 134) d7_124 rfl (fun hc => ?_) (fun hc => ?_)
                · have h := hl_pos hc h
                  refine hl_aload_n (i := 0) d7_134 rfl rfl (by decide) ?_
                  refine hl_gr d7_135 gTl_9_24 ?_
                  refine hl_iconst d7_138 ki1 ?_
                  refine hl_aload_n (i := 0) d7_139 rfl rfl (by decide) ?_
                  refine hl_gr d7_140 gTl_9_24 ?_
                  refine hl_gi d7_143 gTl_67_3 ?_
                  refine hl_cVv (D := (D + 8)) (z := y23) (n := 2) (av := [.int 1, .int (s.2.1 3 2)]) (st := []) d7_146 mlTl_70 rfl (Nat.le_of_ble_eq_true rfl) (Nat.le_of_ble_eq_true rfl) rc3 ((p_Rd_fail D 1 (s.2.1 3 2) s.2 rfl).dle (by omega)) ?_
                  refine hl_iinc (ls2 := [(1, .int (s.1 + 1)), (0, .ref 24)]) d7_149 rfl kx1 (by decide) rfl ?_
                  refine hl_goto (tg := 21) d7_152 rfl ?_
                  have h := Option.some.inj h
                  subst h
                  exact hl_loc (k1 (s.1 + 1) (f_Rd_fail 1 (s.2.1 3 2) s.2) rfl) ⟨rfl, rfl, trivial⟩
                · have h := hl_neg hc h
                  refine hl_aload_n (i := 0) d7_127 rfl rfl (by decide) ?_
                  obtain ⟨x6, hx6, h⟩ := hl_bind h
                  refine hl_cVv (D := (D + 8)) (z := y24) (n := 0) (av := []) (st := []) d7_128 mlTl_64 rfl (Nat.le_of_ble_eq_true rfl) (Nat.le_of_ble_eq_true rfl) rc24 ((p_Tl_tellHymn D s.2 hx6).dle (by omega)) ?_
                  refine hl_goto (tg := 149) d7_131 rfl ?_
                  refine hl_iinc (ls2 := [(1, .int (s.1 + 1)), (0, .ref 24)]) d7_149 rfl kx1 (by decide) rfl ?_
                  refine hl_goto (tg := 21) d7_152 rfl ?_
                  have h := Option.some.inj h
                  subst h
                  exact hl_loc (k1 (s.1 + 1) x6 rfl) ⟨rfl, rfl, trivial⟩
              · have h := hl_neg hc h
                refine hl_aload_n (i := 0) d7_108 rfl rfl (by decide) ?_
                obtain ⟨x7, hx7, h⟩ := hl_bind h
                refine hl_cVv (D := (D + 8)) (z := y33) (n := 0) (av := []) (st := []) d7_109 mlTl_59 rfl (Nat.le_of_ble_eq_true rfl) (Nat.le_of_ble_eq_true rfl) rc24 ((p_Tl_tellWord D s.2 hx7).dle (by omega)) ?_
                refine hl_goto (tg := 149) d7_112 rfl ?_
                refine hl_iinc (ls2 := [(1, .int (s.1 + 1)), (0, .ref 24)]) d7_149 rfl kx1 (by decide) rfl ?_
                refine hl_goto (tg := 21) d7_152 rfl ?_
                have h := Option.some.inj h
                subst h
                exact hl_loc (k1 (s.1 + 1) x7 rfl) ⟨rfl, rfl, trivial⟩
            · have h := hl_neg hc h
              refine hl_aload_n (i := 0) d7_89 rfl rfl (by decide) ?_
              obtain ⟨x8, hx8, h⟩ := hl_bind h
              refine hl_cVv (D := (D + 8)) (z := y38) (n := 0) (av := []) (st := []) d7_90 mlTl_54 rfl (Nat.le_of_ble_eq_true rfl) (Nat.le_of_ble_eq_true rfl) rc24 ((p_Tl_tellPerson D s.2 hx8).dle (by omega)) ?_
              refine hl_goto (tg := 149) d7_93 rfl ?_
              refine hl_iinc (ls2 := [(1, .int (s.1 + 1)), (0, .ref 24)]) d7_149 rfl kx1 (by decide) rfl ?_
              refine hl_goto (tg := 21) d7_152 rfl ?_
              have h := Option.some.inj h
              subst h
              exact hl_loc (k1 (s.1 + 1) x8 rfl) ⟨rfl, rfl, trivial⟩
          · have h := hl_neg hc h
            refine hl_aload_n (i := 0) d7_70 rfl rfl (by decide) ?_
            obtain ⟨x9, hx9, h⟩ := hl_bind h
            refine hl_cVv (D := (D + 8)) (z := y52) (n := 0) (av := []) (st := []) d7_71 mlTl_49 rfl (Nat.le_of_ble_eq_true rfl) (Nat.le_of_ble_eq_true rfl) rc24 ((p_Tl_tellWall D s.2 hx9).dle (by omega)) ?_
            refine hl_goto (tg := 149) d7_74 rfl ?_
            refine hl_iinc (ls2 := [(1, .int (s.1 + 1)), (0, .ref 24)]) d7_149 rfl kx1 (by decide) rfl ?_
            refine hl_goto (tg := 21) d7_152 rfl ?_
            have h := Option.some.inj h
            subst h
            exact hl_loc (k1 (s.1 + 1) x9 rfl) ⟨rfl, rfl, trivial⟩
        · have h := hl_pos hc h
          refine hl_aload_n (i := 0) d7_51 rfl rfl (by decide) ?_
          obtain ⟨x10, hx10, h⟩ := hl_bind h
          refine hl_cVv (D := (D + 8)) (z := y53) (n := 0) (av := []) (st := []) d7_52 mlTl_40 rfl (Nat.le_of_ble_eq_true rfl) (Nat.le_of_ble_eq_true rfl) rc24 ((p_Tl_tellGround D s.2 hx10).dle (by omega)) ?_
          refine hl_goto (tg := 149) d7_55 rfl ?_
          refine hl_iinc (ls2 := [(1, .int (s.1 + 1)), (0, .ref 24)]) d7_149 rfl kx1 (by decide) rfl ?_
          refine hl_goto (tg := 21) d7_152 rfl ?_
          have h := Option.some.inj h
          subst h
          exact hl_loc (k1 (s.1 + 1) x10 rfl) ⟨rfl, rfl, trivial⟩
set_option maxRecDepth 20000 in
theorem p_Tl_tell_j202 {X : hl_X} (D : Nat) (v1 : Int32) (σ : hl_M) {r : Int32} {τ : hl_M} (h : f_Tl_tell_j202 v1 σ = some (r, τ)) : hl_R X (D + 9) y7 202 [(0, .ref 24), (1, .int v1)] [] σ (some (.int r)) τ := by
  unfold f_Tl_tell_j202 at h
  refine hl_aload_n (i := 0) d7_202 rfl rfl (by decide) ?_
  refine hl_gr d7_203 gTl_9_24 ?_
  refine hl_cVi (D := (D + 8)) (z := y14) (n := 0) (av := []) (st := []) d7_206 mlTl_33 rfl (Nat.le_of_ble_eq_true rfl) (Nat.le_of_ble_eq_true rfl) rc3 ((p_Rd_failed D σ rfl).dle (by omega)) ?_
  refine hl_if_eq (tg := 216) d7_209 rfl (fun hc => ?_) (fun hc => ?_)
  · have h := hl_pos hc h
    refine hl_iload_n (i := 1) d7_216 rfl rfl ?_
    obtain ⟨e1, e2⟩ := hl_some2 h
    subst e1; subst e2
    exact hl_iret d7_217 rfl
  · have h := hl_neg hc h
    refine hl_iconst d7_212 kim1 ?_
    refine hl_goto (tg := 217) d7_213 rfl ?_
    obtain ⟨e1, e2⟩ := hl_some2 h
    subst e1; subst e2
    exact hl_iret d7_217 rfl
set_option maxRecDepth 20000 in
theorem p_Tl_tell {X : hl_X} (D : Nat) (σ : hl_M) {r : Int32} {τ : hl_M} (h : f_Tl_tell σ = some (r, τ)) : hl_R X (D + 9) y7 0 [(0, .ref 24)] [] σ (some (.int r)) τ := by
  unfold f_Tl_tell at h
  refine hl_aload_n (i := 0) d7_0 rfl rfl (by decide) ?_
  refine hl_gr d7_1 gTl_15_24 ?_
  refine hl_cVv (D := (D + 8)) (z := y8) (n := 0) (av := []) (st := []) d7_4 mlTl_19 rfl (Nat.le_of_ble_eq_true rfl) (Nat.le_of_ble_eq_true rfl) rc14 ((p_Gr_clear_d D σ rfl).dle (by omega)) ?_
  refine hl_aload_n (i := 0) d7_7 rfl rfl (by decide) ?_
  refine hl_iconst d7_8 ki0 ?_
  refine hl_pi d7_9 qTl_24_24 ?_
  refine hl_aload_n (i := 0) d7_12 rfl rfl (by decide) ?_
  refine hl_gr d7_13 gTl_9_24 ?_
  obtain ⟨x1, hx1, h⟩ := hl_bind h
  refine hl_cVv (D := (D + 8)) (z := y9) (n := 0) (av := []) (st := []) d7_16 mlTl_28 rfl (Nat.le_of_ble_eq_true rfl) (Nat.le_of_ble_eq_true rfl) rc3 ((p_Rd_begin D (hl_si (f_Gr_clear_d σ) 24 2 0) hx1).dle (by omega)) ?_
  refine hl_iconst d7_19 ki0 ?_
  refine hl_istore_n (i := 1) (ls2 := [(1, .int 0), (0, .ref 24)]) d7_20 rfl (by decide) rfl ?_
  obtain ⟨x11, hx11, h⟩ := hl_bind h
  refine hl_R.loc (ls' := [(0, .ref 24), (1, .int 0)]) ⟨rfl, rfl, trivial⟩ ?_
  refine hl_lp_run2 (P := fun (c0 : Int32) (c1 : hl_M) => hl_R X (D + 9) y7 21 [(0, .ref 24), (1, .int c0)] [] c1 (some (.int r)) τ) (fun x : Int32 × hl_M => hl_R X (D + 9) y7 155 [(0, .ref 24), (1, .int x.1)] [] x.2 (some (.int r)) τ) (fun c0 c1 o ho h1 h2 => p_Tl_tell_L21 D (c0, c1) ho h1 (fun a0 a1 e => h2 ((a0, a1)) e)) hl_big 0 x1 x11 hx11 ?_
  refine hl_iload_n (i := 1) d7_155 rfl rfl ?_
  refine hl_if_ne (tg := 177) d7_156 rfl (fun hc => ?_) (fun hc => ?_)
  · have h := hl_neg hc h
    refine hl_aload_n (i := 0) d7_177 rfl rfl (by decide) ?_
    refine hl_gr d7_178 gTl_9_24 ?_
    refine hl_gi d7_181 gTl_37_3 ?_
    refine hl_if_eq (tg := 202) d7_184 rfl (fun hc => ?_) (fun hc => ?_)
    · have h := hl_pos hc h
      exact hl_loc (p_Tl_tell_j202 D x11.1 x11.2 h) ⟨rfl, rfl, trivial⟩
    · have h := hl_neg hc h
      refine hl_aload_n (i := 0) d7_187 rfl rfl (by decide) ?_
      refine hl_gr d7_188 gTl_9_24 ?_
      refine hl_iconst d7_191 ki5 ?_
      refine hl_aload_n (i := 0) d7_192 rfl rfl (by decide) ?_
      refine hl_gr d7_193 gTl_9_24 ?_
      refine hl_gi d7_196 gTl_67_3 ?_
      refine hl_cVv (D := (D + 8)) (z := y23) (n := 2) (av := [.int 5, .int (x11.2.1 3 2)]) (st := []) d7_199 mlTl_70 rfl (Nat.le_of_ble_eq_true rfl) (Nat.le_of_ble_eq_true rfl) rc3 ((p_Rd_fail D 5 (x11.2.1 3 2) x11.2 rfl).dle (by omega)) ?_
      exact hl_loc (p_Tl_tell_j202 D x11.1 (f_Rd_fail 5 (x11.2.1 3 2) x11.2) h) ⟨rfl, rfl, trivial⟩
  · have h := hl_pos hc h
    refine hl_aload_n (i := 0) d7_159 rfl rfl (by decide) ?_
    refine hl_gr d7_160 gTl_9_24 ?_
    refine hl_iconst d7_163 ki1 ?_
    refine hl_aload_n (i := 0) d7_164 rfl rfl (by decide) ?_
    refine hl_gr d7_165 gTl_9_24 ?_
    refine hl_gi d7_168 gTl_67_3 ?_
    refine hl_cVv (D := (D + 8)) (z := y23) (n := 2) (av := [.int 1, .int (x11.2.1 3 2)]) (st := []) d7_171 mlTl_70 rfl (Nat.le_of_ble_eq_true rfl) (Nat.le_of_ble_eq_true rfl) rc3 ((p_Rd_fail D 1 (x11.2.1 3 2) x11.2 rfl).dle (by omega)) ?_
    refine hl_goto (tg := 202) d7_174 rfl ?_
    exact hl_loc (p_Tl_tell_j202 D x11.1 (f_Rd_fail 1 (x11.2.1 3 2) x11.2) h) ⟨rfl, rfl, trivial⟩
def f_Gr_become_L50 (s : Int32 × hl_M) : Option ((Int32 × hl_M) ⊕ (hl_M)) :=
  if (s.2.1 4 3) ≤ s.1 then
  some (.inr s.2) else
  if 10 ≤ s.1 then
  some (.inr s.2) else
  if hl_b s.1 10 then
  if hl_b s.1 10 then
  if hl_b s.1 10 then
  if hl_b s.1 10 then
  if hl_b s.1 10 then
  if hl_b s.1 10 then
  if hl_b s.1 10 then
  if hl_b s.1 10 then
  some (.inl ((s.1 + 1, hl_sl (hl_si (hl_si (hl_si s.2 5 s.1.toNatClampNeg (s.2.1 15 s.1.toNatClampNeg)) 6 s.1.toNatClampNeg ((hl_si s.2 5 s.1.toNatClampNeg (s.2.1 15 s.1.toNatClampNeg)).1 16 s.1.toNatClampNeg)) 7 s.1.toNatClampNeg ((hl_si (hl_si s.2 5 s.1.toNatClampNeg (s.2.1 15 s.1.toNatClampNeg)) 6 s.1.toNatClampNeg ((hl_si s.2 5 s.1.toNatClampNeg (s.2.1 15 s.1.toNatClampNeg)).1 16 s.1.toNatClampNeg)).1 17 s.1.toNatClampNeg)) 8 s.1.toNatClampNeg ((hl_si (hl_si (hl_si s.2 5 s.1.toNatClampNeg (s.2.1 15 s.1.toNatClampNeg)) 6 s.1.toNatClampNeg ((hl_si s.2 5 s.1.toNatClampNeg (s.2.1 15 s.1.toNatClampNeg)).1 16 s.1.toNatClampNeg)) 7 s.1.toNatClampNeg ((hl_si (hl_si s.2 5 s.1.toNatClampNeg (s.2.1 15 s.1.toNatClampNeg)) 6 s.1.toNatClampNeg ((hl_si s.2 5 s.1.toNatClampNeg (s.2.1 15 s.1.toNatClampNeg)).1 16 s.1.toNatClampNeg)).1 17 s.1.toNatClampNeg)).2 18 s.1.toNatClampNeg)))) else none else none else none else none else none else none else none else none
def f_Gr_become_L120 (s : Int32 × hl_M) : Option ((Int32 × hl_M) ⊕ (hl_M)) :=
  if (s.2.1 4 8) ≤ s.1 then
  some (.inr s.2) else
  if 8 ≤ s.1 then
  some (.inr s.2) else
  if hl_b s.1 8 then
  if hl_b s.1 8 then
  if hl_b s.1 8 then
  if hl_b s.1 8 then
  if hl_b s.1 8 then
  if hl_b s.1 8 then
  some (.inl ((s.1 + 1, hl_sl (hl_sl (hl_si s.2 9 s.1.toNatClampNeg (s.2.1 19 s.1.toNatClampNeg)) 10 s.1.toNatClampNeg ((hl_si s.2 9 s.1.toNatClampNeg (s.2.1 19 s.1.toNatClampNeg)).2 20 s.1.toNatClampNeg)) 11 s.1.toNatClampNeg ((hl_sl (hl_si s.2 9 s.1.toNatClampNeg (s.2.1 19 s.1.toNatClampNeg)) 10 s.1.toNatClampNeg ((hl_si s.2 9 s.1.toNatClampNeg (s.2.1 19 s.1.toNatClampNeg)).2 20 s.1.toNatClampNeg)).2 21 s.1.toNatClampNeg)))) else none else none else none else none else none else none
def f_Gr_become_L178 (s : Int32 × hl_M) : Option ((Int32 × hl_M) ⊕ (hl_M)) :=
  if (s.2.1 4 12) ≤ s.1 then
  some (.inr s.2) else
  if 10 ≤ s.1 then
  some (.inr s.2) else
  if hl_b s.1 10 then
  if hl_b s.1 10 then
  if hl_b s.1 10 then
  if hl_b s.1 10 then
  some (.inl ((s.1 + 1, hl_si (hl_si s.2 12 s.1.toNatClampNeg (s.2.1 22 s.1.toNatClampNeg)) 13 s.1.toNatClampNeg ((hl_si s.2 12 s.1.toNatClampNeg (s.2.1 22 s.1.toNatClampNeg)).1 23 s.1.toNatClampNeg)))) else none else none else none else none
def f_Gr_become (σ : hl_M) : Option (hl_M) :=
  hl_let (hl_sl (hl_si (hl_si σ 4 0 (σ.1 14 0)) 4 1 ((hl_si σ 4 0 (σ.1 14 0)).1 14 1)) 4 2 ((hl_si (hl_si σ 4 0 (σ.1 14 0)) 4 1 ((hl_si σ 4 0 (σ.1 14 0)).1 14 1)).2 14 2)) (fun σ1 =>
  hl_let (hl_si (hl_si (hl_si σ1 4 3 (σ1.1 14 3)) 4 8 ((hl_si σ1 4 3 (σ1.1 14 3)).1 14 8)) 4 12 ((hl_si (hl_si σ1 4 3 (σ1.1 14 3)) 4 8 ((hl_si σ1 4 3 (σ1.1 14 3)).1 14 8)).1 14 12)) (fun σ2 =>
  (hl_lp (f_Gr_become_L50) hl_big ((0, σ2))).bind fun x3 =>
  (hl_lp (f_Gr_become_L120) hl_big ((0, x3))).bind fun x4 =>
  (hl_lp (f_Gr_become_L178) hl_big ((0, x4))).bind fun x5 =>
  some x5))
set_option maxRecDepth 20000 in
theorem p_Gr_become_L50 {X : hl_X} (D : Nat) (s : Int32 × hl_M) {o : (Int32 × hl_M) ⊕ (hl_M)} {v : Option Value} {τ : hl_M} (h : f_Gr_become_L50 s = some o) (k1 : ∀ (c0 : Int32) (c1 : hl_M), o = .inl ((c0, c1)) → hl_R X D y54 50 [(0, .ref 4), (1, .ref 14), (2, .int c0)] [] c1 v τ) (k2 : ∀ (a0 : hl_M), o = .inr a0 → hl_R X D y54 118 [(0, .ref 4), (1, .ref 14)] [] a0 v τ) : hl_R X D y54 50 [(0, .ref 4), (1, .ref 14), (2, .int s.1)] [] s.2 v τ := by
  unfold f_Gr_become_L50 at h
  refine hl_iload_n (i := 2) d54_50 rfl rfl ?_
  refine hl_aload_n (i := 0) d54_51 rfl rfl (by decide) ?_
  refine hl_gi d54_52 gGr_51_4 ?_
  refine hl_icmp_ge (tg := 118) d54_55 rfl (fun hc => ?_) (fun hc => ?_)
  · have h := hl_pos hc h
    have h := Option.some.inj h
    subst h
    exact hl_loc (k2 s.2 rfl) ⟨rfl, rfl, trivial⟩
  · have h := hl_neg hc h
    refine hl_iload_n (i := 2) d54_58 rfl rfl ?_
    refine hl_bipush d54_59 kb10 ?_
    refine hl_icmp_ge (tg := 118) d54_61 rfl (fun hc => ?_) (fun hc => ?_)
    · have h := hl_pos hc h
      have h := Option.some.inj h
      subst h
      exact hl_loc (k2 s.2 rfl) ⟨rfl, rfl, trivial⟩
    · have h := hl_neg hc h
      refine hl_aload_n (i := 0) d54_64 rfl rfl (by decide) ?_
      refine hl_gr d54_65 gGr_9_4 ?_
      refine hl_iload_n (i := 2) d54_68 rfl rfl ?_
      refine hl_aload_n (i := 1) d54_69 rfl rfl (by decide) ?_
      refine hl_gr d54_70 gGr_9_14 ?_
      refine hl_iload_n (i := 2) d54_73 rfl rfl ?_
      obtain ⟨hb, h⟩ := hl_gd h
      refine hl_iald d54_74 sh15 (hl_b_in hb) ?_
      obtain ⟨hb, h⟩ := hl_gd h
      refine hl_iast (q := 5) d54_75 sh5 (hl_b_in hb) ?_
      refine hl_aload_n (i := 0) d54_76 rfl rfl (by decide) ?_
      refine hl_gr d54_77 gGr_15_4 ?_
      refine hl_iload_n (i := 2) d54_80 rfl rfl ?_
      refine hl_aload_n (i := 1) d54_81 rfl rfl (by decide) ?_
      refine hl_gr d54_82 gGr_15_14 ?_
      refine hl_iload_n (i := 2) d54_85 rfl rfl ?_
      obtain ⟨hb, h⟩ := hl_gd h
      refine hl_iald d54_86 sh16 (hl_b_in hb) ?_
      obtain ⟨hb, h⟩ := hl_gd h
      refine hl_iast (q := 6) d54_87 sh6 (hl_b_in hb) ?_
      refine hl_aload_n (i := 0) d54_88 rfl rfl (by decide) ?_
      refine hl_gr d54_89 gGr_18_4 ?_
      refine hl_iload_n (i := 2) d54_92 rfl rfl ?_
      refine hl_aload_n (i := 1) d54_93 rfl rfl (by decide) ?_
      refine hl_gr d54_94 gGr_18_14 ?_
      refine hl_iload_n (i := 2) d54_97 rfl rfl ?_
      obtain ⟨hb, h⟩ := hl_gd h
      refine hl_iald d54_98 sh17 (hl_b_in hb) ?_
      obtain ⟨hb, h⟩ := hl_gd h
      refine hl_iast (q := 7) d54_99 sh7 (hl_b_in hb) ?_
      refine hl_aload_n (i := 0) d54_100 rfl rfl (by decide) ?_
      refine hl_gr d54_101 gGr_21_4 ?_
      refine hl_iload_n (i := 2) d54_104 rfl rfl ?_
      refine hl_aload_n (i := 1) d54_105 rfl rfl (by decide) ?_
      refine hl_gr d54_106 gGr_21_14 ?_
      refine hl_iload_n (i := 2) d54_109 rfl rfl ?_
      obtain ⟨hb, h⟩ := hl_gd h
      refine hl_lald d54_110 sh18 (hl_b_in hb) ?_
      obtain ⟨hb, h⟩ := hl_gd h
      refine hl_last (q := 8) d54_111 sh8 (hl_b_in hb) ?_
      refine hl_iinc (ls2 := [(2, .int (s.1 + 1)), (0, .ref 4), (1, .ref 14)]) d54_112 rfl kx1 (by decide) rfl ?_
      refine hl_goto (tg := 50) d54_115 rfl ?_
      have h := Option.some.inj h
      subst h
      exact hl_loc (k1 (s.1 + 1) (hl_sl (hl_si (hl_si (hl_si s.2 5 s.1.toNatClampNeg (s.2.1 15 s.1.toNatClampNeg)) 6 s.1.toNatClampNeg ((hl_si s.2 5 s.1.toNatClampNeg (s.2.1 15 s.1.toNatClampNeg)).1 16 s.1.toNatClampNeg)) 7 s.1.toNatClampNeg ((hl_si (hl_si s.2 5 s.1.toNatClampNeg (s.2.1 15 s.1.toNatClampNeg)) 6 s.1.toNatClampNeg ((hl_si s.2 5 s.1.toNatClampNeg (s.2.1 15 s.1.toNatClampNeg)).1 16 s.1.toNatClampNeg)).1 17 s.1.toNatClampNeg)) 8 s.1.toNatClampNeg ((hl_si (hl_si (hl_si s.2 5 s.1.toNatClampNeg (s.2.1 15 s.1.toNatClampNeg)) 6 s.1.toNatClampNeg ((hl_si s.2 5 s.1.toNatClampNeg (s.2.1 15 s.1.toNatClampNeg)).1 16 s.1.toNatClampNeg)) 7 s.1.toNatClampNeg ((hl_si (hl_si s.2 5 s.1.toNatClampNeg (s.2.1 15 s.1.toNatClampNeg)) 6 s.1.toNatClampNeg ((hl_si s.2 5 s.1.toNatClampNeg (s.2.1 15 s.1.toNatClampNeg)).1 16 s.1.toNatClampNeg)).1 17 s.1.toNatClampNeg)).2 18 s.1.toNatClampNeg)) rfl) ⟨rfl, rfl, rfl, trivial⟩
set_option maxRecDepth 20000 in
theorem p_Gr_become_L120 {X : hl_X} (D : Nat) (s : Int32 × hl_M) {o : (Int32 × hl_M) ⊕ (hl_M)} {v : Option Value} {τ : hl_M} (h : f_Gr_become_L120 s = some o) (k1 : ∀ (c0 : Int32) (c1 : hl_M), o = .inl ((c0, c1)) → hl_R X D y54 120 [(0, .ref 4), (1, .ref 14), (2, .int c0)] [] c1 v τ) (k2 : ∀ (a0 : hl_M), o = .inr a0 → hl_R X D y54 176 [(0, .ref 4), (1, .ref 14)] [] a0 v τ) : hl_R X D y54 120 [(0, .ref 4), (1, .ref 14), (2, .int s.1)] [] s.2 v τ := by
  unfold f_Gr_become_L120 at h
  refine hl_iload_n (i := 2) d54_120 rfl rfl ?_
  refine hl_aload_n (i := 0) d54_121 rfl rfl (by decide) ?_
  refine hl_gi d54_122 gGr_54_4 ?_
  refine hl_icmp_ge (tg := 176) d54_125 rfl (fun hc => ?_) (fun hc => ?_)
  · have h := hl_pos hc h
    have h := Option.some.inj h
    subst h
    exact hl_loc (k2 s.2 rfl) ⟨rfl, rfl, trivial⟩
  · have h := hl_neg hc h
    refine hl_iload_n (i := 2) d54_128 rfl rfl ?_
    refine hl_bipush d54_129 kb8 ?_
    refine hl_icmp_ge (tg := 176) d54_131 rfl (fun hc => ?_) (fun hc => ?_)
    · have h := hl_pos hc h
      have h := Option.some.inj h
      subst h
      exact hl_loc (k2 s.2 rfl) ⟨rfl, rfl, trivial⟩
    · have h := hl_neg hc h
      refine hl_aload_n (i := 0) d54_134 rfl rfl (by decide) ?_
      refine hl_gr d54_135 gGr_25_4 ?_
      refine hl_iload_n (i := 2) d54_138 rfl rfl ?_
      refine hl_aload_n (i := 1) d54_139 rfl rfl (by decide) ?_
      refine hl_gr d54_140 gGr_25_14 ?_
      refine hl_iload_n (i := 2) d54_143 rfl rfl ?_
      obtain ⟨hb, h⟩ := hl_gd h
      refine hl_iald d54_144 sh19 (hl_b_in hb) ?_
      obtain ⟨hb, h⟩ := hl_gd h
      refine hl_iast (q := 9) d54_145 sh9 (hl_b_in hb) ?_
      refine hl_aload_n (i := 0) d54_146 rfl rfl (by decide) ?_
      refine hl_gr d54_147 gGr_28_4 ?_
      refine hl_iload_n (i := 2) d54_150 rfl rfl ?_
      refine hl_aload_n (i := 1) d54_151 rfl rfl (by decide) ?_
      refine hl_gr d54_152 gGr_28_14 ?_
      refine hl_iload_n (i := 2) d54_155 rfl rfl ?_
      obtain ⟨hb, h⟩ := hl_gd h
      refine hl_lald d54_156 sh20 (hl_b_in hb) ?_
      obtain ⟨hb, h⟩ := hl_gd h
      refine hl_last (q := 10) d54_157 sh10 (hl_b_in hb) ?_
      refine hl_aload_n (i := 0) d54_158 rfl rfl (by decide) ?_
      refine hl_gr d54_159 gGr_31_4 ?_
      refine hl_iload_n (i := 2) d54_162 rfl rfl ?_
      refine hl_aload_n (i := 1) d54_163 rfl rfl (by decide) ?_
      refine hl_gr d54_164 gGr_31_14 ?_
      refine hl_iload_n (i := 2) d54_167 rfl rfl ?_
      obtain ⟨hb, h⟩ := hl_gd h
      refine hl_lald d54_168 sh21 (hl_b_in hb) ?_
      obtain ⟨hb, h⟩ := hl_gd h
      refine hl_last (q := 11) d54_169 sh11 (hl_b_in hb) ?_
      refine hl_iinc (ls2 := [(2, .int (s.1 + 1)), (0, .ref 4), (1, .ref 14)]) d54_170 rfl kx1 (by decide) rfl ?_
      refine hl_goto (tg := 120) d54_173 rfl ?_
      have h := Option.some.inj h
      subst h
      exact hl_loc (k1 (s.1 + 1) (hl_sl (hl_sl (hl_si s.2 9 s.1.toNatClampNeg (s.2.1 19 s.1.toNatClampNeg)) 10 s.1.toNatClampNeg ((hl_si s.2 9 s.1.toNatClampNeg (s.2.1 19 s.1.toNatClampNeg)).2 20 s.1.toNatClampNeg)) 11 s.1.toNatClampNeg ((hl_sl (hl_si s.2 9 s.1.toNatClampNeg (s.2.1 19 s.1.toNatClampNeg)) 10 s.1.toNatClampNeg ((hl_si s.2 9 s.1.toNatClampNeg (s.2.1 19 s.1.toNatClampNeg)).2 20 s.1.toNatClampNeg)).2 21 s.1.toNatClampNeg)) rfl) ⟨rfl, rfl, rfl, trivial⟩
set_option maxRecDepth 20000 in
theorem p_Gr_become_L178 {X : hl_X} (D : Nat) (s : Int32 × hl_M) {o : (Int32 × hl_M) ⊕ (hl_M)} {v : Option Value} {τ : hl_M} (h : f_Gr_become_L178 s = some o) (k1 : ∀ (c0 : Int32) (c1 : hl_M), o = .inl ((c0, c1)) → hl_R X D y54 178 [(0, .ref 4), (1, .ref 14), (2, .int c0)] [] c1 v τ) (k2 : ∀ (a0 : hl_M), o = .inr a0 → hl_R X D y54 222 [] [] a0 v τ) : hl_R X D y54 178 [(0, .ref 4), (1, .ref 14), (2, .int s.1)] [] s.2 v τ := by
  unfold f_Gr_become_L178 at h
  refine hl_iload_n (i := 2) d54_178 rfl rfl ?_
  refine hl_aload_n (i := 0) d54_179 rfl rfl (by decide) ?_
  refine hl_gi d54_180 gGr_57_4 ?_
  refine hl_icmp_ge (tg := 222) d54_183 rfl (fun hc => ?_) (fun hc => ?_)
  · have h := hl_pos hc h
    have h := Option.some.inj h
    subst h
    exact hl_loc (k2 s.2 rfl) trivial
  · have h := hl_neg hc h
    refine hl_iload_n (i := 2) d54_186 rfl rfl ?_
    refine hl_bipush d54_187 kb10 ?_
    refine hl_icmp_ge (tg := 222) d54_189 rfl (fun hc => ?_) (fun hc => ?_)
    · have h := hl_pos hc h
      have h := Option.some.inj h
      subst h
      exact hl_loc (k2 s.2 rfl) trivial
    · have h := hl_neg hc h
      refine hl_aload_n (i := 0) d54_192 rfl rfl (by decide) ?_
      refine hl_gr d54_193 gGr_34_4 ?_
      refine hl_iload_n (i := 2) d54_196 rfl rfl ?_
      refine hl_aload_n (i := 1) d54_197 rfl rfl (by decide) ?_
      refine hl_gr d54_198 gGr_34_14 ?_
      refine hl_iload_n (i := 2) d54_201 rfl rfl ?_
      obtain ⟨hb, h⟩ := hl_gd h
      refine hl_iald d54_202 sh22 (hl_b_in hb) ?_
      obtain ⟨hb, h⟩ := hl_gd h
      refine hl_iast (q := 12) d54_203 sh12 (hl_b_in hb) ?_
      refine hl_aload_n (i := 0) d54_204 rfl rfl (by decide) ?_
      refine hl_gr d54_205 gGr_37_4 ?_
      refine hl_iload_n (i := 2) d54_208 rfl rfl ?_
      refine hl_aload_n (i := 1) d54_209 rfl rfl (by decide) ?_
      refine hl_gr d54_210 gGr_37_14 ?_
      refine hl_iload_n (i := 2) d54_213 rfl rfl ?_
      obtain ⟨hb, h⟩ := hl_gd h
      refine hl_iald d54_214 sh23 (hl_b_in hb) ?_
      obtain ⟨hb, h⟩ := hl_gd h
      refine hl_iast (q := 13) d54_215 sh13 (hl_b_in hb) ?_
      refine hl_iinc (ls2 := [(2, .int (s.1 + 1)), (0, .ref 4), (1, .ref 14)]) d54_216 rfl kx1 (by decide) rfl ?_
      refine hl_goto (tg := 178) d54_219 rfl ?_
      have h := Option.some.inj h
      subst h
      exact hl_loc (k1 (s.1 + 1) (hl_si (hl_si s.2 12 s.1.toNatClampNeg (s.2.1 22 s.1.toNatClampNeg)) 13 s.1.toNatClampNeg ((hl_si s.2 12 s.1.toNatClampNeg (s.2.1 22 s.1.toNatClampNeg)).1 23 s.1.toNatClampNeg)) rfl) ⟨rfl, rfl, rfl, trivial⟩
set_option maxRecDepth 20000 in
theorem p_Gr_become {X : hl_X} (D : Nat) (σ : hl_M) {τ : hl_M} (h : f_Gr_become σ = some τ) : hl_R X D y54 0 [(0, .ref 4), (1, .ref 14)] [] σ none τ := by
  unfold f_Gr_become at h
  refine hl_aload_n (i := 0) d54_0 rfl rfl (by decide) ?_
  refine hl_aload_n (i := 1) d54_1 rfl rfl (by decide) ?_
  refine hl_gi d54_2 gGr_40_14 ?_
  refine hl_pi d54_5 qGr_40_4 ?_
  refine hl_aload_n (i := 0) d54_8 rfl rfl (by decide) ?_
  refine hl_aload_n (i := 1) d54_9 rfl rfl (by decide) ?_
  refine hl_gi d54_10 gGr_44_14 ?_
  refine hl_pi d54_13 qGr_44_4 ?_
  refine hl_aload_n (i := 0) d54_16 rfl rfl (by decide) ?_
  refine hl_aload_n (i := 1) d54_17 rfl rfl (by decide) ?_
  refine hl_gl d54_18 gGr_47_14 ?_
  refine hl_pl d54_21 qGr_47_4 ?_
  refine hl_nmm h (fun σ1 h => ?_)
  refine hl_aload_n (i := 0) d54_24 rfl rfl (by decide) ?_
  refine hl_aload_n (i := 1) d54_25 rfl rfl (by decide) ?_
  refine hl_gi d54_26 gGr_51_14 ?_
  refine hl_pi d54_29 qGr_51_4 ?_
  refine hl_aload_n (i := 0) d54_32 rfl rfl (by decide) ?_
  refine hl_aload_n (i := 1) d54_33 rfl rfl (by decide) ?_
  refine hl_gi d54_34 gGr_54_14 ?_
  refine hl_pi d54_37 qGr_54_4 ?_
  refine hl_aload_n (i := 0) d54_40 rfl rfl (by decide) ?_
  refine hl_aload_n (i := 1) d54_41 rfl rfl (by decide) ?_
  refine hl_gi d54_42 gGr_57_14 ?_
  refine hl_pi d54_45 qGr_57_4 ?_
  refine hl_nmm h (fun σ2 h => ?_)
  refine hl_iconst d54_48 ki0 ?_
  refine hl_istore_n (i := 2) (ls2 := [(2, .int 0), (0, .ref 4), (1, .ref 14)]) d54_49 rfl (by decide) rfl ?_
  obtain ⟨x3, hx3, h⟩ := hl_bind h
  refine hl_R.loc (ls' := [(0, .ref 4), (1, .ref 14), (2, .int 0)]) ⟨rfl, rfl, rfl, trivial⟩ ?_
  refine hl_lp_run2 (P := fun (c0 : Int32) (c1 : hl_M) => hl_R X D y54 50 [(0, .ref 4), (1, .ref 14), (2, .int c0)] [] c1 none τ) (fun x : hl_M => hl_R X D y54 118 [(0, .ref 4), (1, .ref 14)] [] x none τ) (fun c0 c1 o ho h1 h2 => p_Gr_become_L50 D (c0, c1) ho h1 (fun a0 e => h2 a0 e)) hl_big 0 σ2 x3 hx3 ?_
  refine hl_iconst d54_118 ki0 ?_
  refine hl_istore_n (i := 2) (ls2 := [(2, .int 0), (0, .ref 4), (1, .ref 14)]) d54_119 rfl (by decide) rfl ?_
  obtain ⟨x4, hx4, h⟩ := hl_bind h
  refine hl_R.loc (ls' := [(0, .ref 4), (1, .ref 14), (2, .int 0)]) ⟨rfl, rfl, rfl, trivial⟩ ?_
  refine hl_lp_run2 (P := fun (c0 : Int32) (c1 : hl_M) => hl_R X D y54 120 [(0, .ref 4), (1, .ref 14), (2, .int c0)] [] c1 none τ) (fun x : hl_M => hl_R X D y54 176 [(0, .ref 4), (1, .ref 14)] [] x none τ) (fun c0 c1 o ho h1 h2 => p_Gr_become_L120 D (c0, c1) ho h1 (fun a0 e => h2 a0 e)) hl_big 0 x3 x4 hx4 ?_
  refine hl_iconst d54_176 ki0 ?_
  refine hl_istore_n (i := 2) (ls2 := [(2, .int 0), (0, .ref 4), (1, .ref 14)]) d54_177 rfl (by decide) rfl ?_
  obtain ⟨x5, hx5, h⟩ := hl_bind h
  refine hl_R.loc (ls' := [(0, .ref 4), (1, .ref 14), (2, .int 0)]) ⟨rfl, rfl, rfl, trivial⟩ ?_
  refine hl_lp_run2 (P := fun (c0 : Int32) (c1 : hl_M) => hl_R X D y54 178 [(0, .ref 4), (1, .ref 14), (2, .int c0)] [] c1 none τ) (fun x : hl_M => hl_R X D y54 222 [] [] x none τ) (fun c0 c1 o ho h1 h2 => p_Gr_become_L178 D (c0, c1) ho h1 (fun a0 e => h2 a0 e)) hl_big 0 x4 x5 hx5 ?_
  have h := Option.some.inj h
  subst h
  exact hl_vret d54_222 rfl
def f_X_countOf (v0 : Int64) : Int32 :=
  (v0 &&& 15).toInt32
set_option maxRecDepth 20000 in
theorem p_X_countOf {X : hl_X} (D : Nat) (v0 : Int64) (σ : hl_M) {r : Int32} (h : f_X_countOf v0 = r) : hl_R X D y58 0 [(0, .long v0)] [] σ (some (.int r)) σ := by
  unfold f_X_countOf at h
  refine hl_lload_n (i := 0) d58_0 rfl rfl ?_
  refine hl_ldc2 d58_1 wlX_366 ?_
  refine hl_land d58_4 ?_
  refine hl_l2i d58_5 ?_
  subst h
  exact hl_iret d58_6 rfl
def f_X_stepIn (v0 : Int64) (v2 : Int32) : Int32 :=
  ((v0 >>> ((4 + (3 * v2)).toInt64 &&& 63)).toInt32) &&& 7
set_option maxRecDepth 20000 in
theorem p_X_stepIn {X : hl_X} (D : Nat) (v0 : Int64) (v2 : Int32) (σ : hl_M) {r : Int32} (h : f_X_stepIn v0 v2 = r) : hl_R X D y59 0 [(0, .long v0), (2, .int v2)] [] σ (some (.int r)) σ := by
  unfold f_X_stepIn at h
  refine hl_lload_n (i := 0) d59_0 rfl rfl ?_
  refine hl_iconst d59_1 ki4 ?_
  refine hl_iconst d59_2 ki3 ?_
  refine hl_iload_n (i := 2) d59_3 rfl rfl ?_
  refine hl_imul d59_4 ?_
  refine hl_iadd d59_5 ?_
  refine hl_lshr d59_6 ?_
  refine hl_l2i d59_7 ?_
  refine hl_bipush d59_8 kb7 ?_
  refine hl_iand d59_10 ?_
  subst h
  exact hl_iret d59_11 rfl
def f_Gr_stepFor (v1 : Int32) (v2 : Int32) (σ : hl_M) : Option (Int32) :=
  if (f_X_within v1 (σ.1 4 3)) = 0 then
  some 4 else
  if 1 ≤ v2 then
  if hl_b v1 10 then
  if (f_X_countOf (σ.2 8 v1.toNatClampNeg)) = 0 then
  some 4 else
  if hl_b v1 10 then
  if (f_X_countOf (σ.2 8 v1.toNatClampNeg)) = 0 then none else
  some (f_X_stepIn (σ.2 8 v1.toNatClampNeg) ((v2 - 1) - (v2 - 1) / (f_X_countOf (σ.2 8 v1.toNatClampNeg)) * (f_X_countOf (σ.2 8 v1.toNatClampNeg)))) else none else none else
  some 4
set_option maxRecDepth 20000 in
theorem p_Gr_stepFor {X : hl_X} (D : Nat) (v1 : Int32) (v2 : Int32) (σ : hl_M) {r : Int32} (h : f_Gr_stepFor v1 v2 σ = some r) : hl_R X (D + 1) y57 0 [(0, .ref 4), (1, .int v1), (2, .int v2)] [] σ (some (.int r)) σ := by
  unfold f_Gr_stepFor at h
  refine hl_iload_n (i := 1) d57_0 rfl rfl ?_
  refine hl_aload_n (i := 0) d57_1 rfl rfl (by decide) ?_
  refine hl_gi d57_2 gGr_51_4 ?_
  refine hl_cNi (D := D) (z := y2) (n := 2) (av := [.int v1, .int (σ.1 4 3)]) (st := []) d57_5 mlGr_64 rfl (Nat.le_of_ble_eq_true rfl) (Nat.le_of_ble_eq_true rfl) ((p_X_within D v1 (σ.1 4 3) σ rfl).dle (by omega)) ?_
  refine hl_if_eq (tg := 16) d57_8 rfl (fun hc => ?_) (fun hc => ?_)
  · have h := hl_pos hc h
    refine hl_iconst d57_16 ki4 ?_
    have h := Option.some.inj h
    subst h
    exact hl_iret d57_17 rfl
  · have h := hl_neg hc h
    refine hl_iload_n (i := 2) d57_11 rfl rfl ?_
    refine hl_iconst d57_12 ki1 ?_
    refine hl_icmp_ge (tg := 18) d57_13 rfl (fun hc => ?_) (fun hc => ?_)
    · have h := hl_pos hc h
      refine hl_aload_n (i := 0) d57_18 rfl rfl (by decide) ?_
      refine hl_gr d57_19 gGr_21_4 ?_
      refine hl_iload_n (i := 1) d57_22 rfl rfl ?_
      obtain ⟨hb, h⟩ := hl_gd h
      refine hl_lald d57_23 sh8 (hl_b_in hb) ?_
      refine hl_cNi (D := D) (z := y58) (n := 1) (av := [.long (σ.2 8 v1.toNatClampNeg)]) (st := []) d57_24 mlGr_82 rfl (Nat.le_of_ble_eq_true rfl) (Nat.le_of_ble_eq_true rfl) ((p_X_countOf D (σ.2 8 v1.toNatClampNeg) σ rfl).dle (by omega)) ?_
      refine hl_istore_n (i := 3) (ls2 := [(3, .int (f_X_countOf (σ.2 8 v1.toNatClampNeg))), (0, .ref 4), (1, .int v1), (2, .int v2)]) d57_27 rfl (by decide) rfl ?_
      refine hl_iload_n (i := 3) d57_28 rfl rfl ?_
      refine hl_if_ne (tg := 36) d57_29 rfl (fun hc => ?_) (fun hc => ?_)
      · have h := hl_neg hc h
        refine hl_aload_n (i := 0) d57_36 rfl rfl (by decide) ?_
        refine hl_gr d57_37 gGr_21_4 ?_
        refine hl_iload_n (i := 1) d57_40 rfl rfl ?_
        obtain ⟨hb, h⟩ := hl_gd h
        refine hl_lald d57_41 sh8 (hl_b_in hb) ?_
        refine hl_iload_n (i := 2) d57_42 rfl rfl ?_
        refine hl_iconst d57_43 ki1 ?_
        refine hl_isub d57_44 ?_
        refine hl_iload_n (i := 3) d57_45 rfl rfl ?_
        obtain ⟨hb, h⟩ := hl_gn h
        refine hl_irem d57_46 hb ?_
        refine hl_cNi (D := D) (z := y59) (n := 2) (av := [.long (σ.2 8 v1.toNatClampNeg), .int ((v2 - 1) - (v2 - 1) / (f_X_countOf (σ.2 8 v1.toNatClampNeg)) * (f_X_countOf (σ.2 8 v1.toNatClampNeg)))]) (st := []) d57_47 mlGr_86 rfl (Nat.le_of_ble_eq_true rfl) (Nat.le_of_ble_eq_true rfl) ((p_X_stepIn D (σ.2 8 v1.toNatClampNeg) ((v2 - 1) - (v2 - 1) / (f_X_countOf (σ.2 8 v1.toNatClampNeg)) * (f_X_countOf (σ.2 8 v1.toNatClampNeg))) σ rfl).dle (by omega)) ?_
        have h := Option.some.inj h
        subst h
        exact hl_iret d57_50 rfl
      · have h := hl_pos hc h
        refine hl_iconst d57_32 ki4 ?_
        refine hl_goto (tg := 50) d57_33 rfl ?_
        have h := Option.some.inj h
        subst h
        exact hl_iret d57_50 rfl
    · have h := hl_neg hc h
      refine hl_iconst d57_16 ki4 ?_
      have h := Option.some.inj h
      subst h
      exact hl_iret d57_17 rfl
def f_Gr_cells (σ : hl_M) : Int32 :=
  (σ.1 4 0) * (σ.1 4 1)
set_option maxRecDepth 20000 in
theorem p_Gr_cells {X : hl_X} (D : Nat) (σ : hl_M) {r : Int32} (h : f_Gr_cells σ = r) : hl_R X D y50 0 [(0, .ref 4)] [] σ (some (.int r)) σ := by
  unfold f_Gr_cells at h
  refine hl_aload_n (i := 0) d50_0 rfl rfl (by decide) ?_
  refine hl_gi d50_1 gGr_40_4 ?_
  refine hl_aload_n (i := 0) d50_4 rfl rfl (by decide) ?_
  refine hl_gi d50_5 gGr_44_4 ?_
  refine hl_imul d50_8 ?_
  subst h
  exact hl_iret d50_9 rfl
def f_Gr_isOpen (v1 : Int32) (σ : hl_M) : Int32 :=
  if (f_X_within v1 (f_Gr_cells σ)) = 0 then
  0 else
  if ((σ.2 4 2) &&& ((1 : Int64) <<< (v1.toInt64 &&& 63))) = 0 then
  1 else
  0
set_option maxRecDepth 20000 in
theorem p_Gr_isOpen {X : hl_X} (D : Nat) (v1 : Int32) (σ : hl_M) {r : Int32} (h : f_Gr_isOpen v1 σ = r) : hl_R X (D + 1) y49 0 [(0, .ref 4), (1, .int v1)] [] σ (some (.int r)) σ := by
  unfold f_Gr_isOpen at h
  refine hl_iload_n (i := 1) d49_0 rfl rfl ?_
  refine hl_aload_n (i := 0) d49_1 rfl rfl (by decide) ?_
  refine hl_cVi (D := D) (z := y50) (n := 0) (av := []) (st := [.int v1]) d49_2 mlGr_60 rfl (Nat.le_of_ble_eq_true rfl) (Nat.le_of_ble_eq_true rfl) rc4 ((p_Gr_cells D σ rfl).dle (by omega)) ?_
  refine hl_cNi (D := D) (z := y2) (n := 2) (av := [.int v1, .int (f_Gr_cells σ)]) (st := []) d49_5 mlGr_64 rfl (Nat.le_of_ble_eq_true rfl) (Nat.le_of_ble_eq_true rfl) ((p_X_within D v1 (f_Gr_cells σ) σ rfl).dle (by omega)) ?_
  refine hl_if_eq (tg := 28) d49_8 rfl (fun hc => ?_) (fun hc => ?_)
  · have h := hl_pos hc h
    refine hl_iconst d49_28 ki0 ?_
    subst h
    exact hl_zret d49_29 rfl (by decide)
  · have h := hl_neg hc h
    refine hl_aload_n (i := 0) d49_11 rfl rfl (by decide) ?_
    refine hl_gl d49_12 gGr_47_4 ?_
    refine hl_lconst (x := 1) d49_15 (by decide) ?_
    refine hl_iload_n (i := 1) d49_16 rfl rfl ?_
    refine hl_lshl d49_17 ?_
    refine hl_land d49_18 ?_
    refine hl_lconst (x := 0) d49_19 (by decide) ?_
    refine hl_lc_ne (tg := 28) d49_20 d49_21 rfl (fun hc => ?_) (fun hc => ?_)
    · have h := hl_neg hc h
      refine hl_iconst d49_28 ki0 ?_
      subst h
      exact hl_zret d49_29 rfl (by decide)
    · have h := hl_pos hc h
      refine hl_iconst d49_24 ki1 ?_
      refine hl_goto (tg := 29) d49_25 rfl ?_
      subst h
      exact hl_zret d49_29 rfl (by decide)
def f_Gr_nextCell (v1 : Int32) (v2 : Int32) (σ : hl_M) : Option (Int32) :=
  if (σ.1 4 0) ≤ 0 then
  some v1 else
  if (f_X_within v2 5) = 0 then
  some v1 else
  if (σ.1 4 0) = 0 then none else
  if hl_b v2 5 then
  hl_let ((v1 - v1 / (σ.1 4 0) * (σ.1 4 0)) + (([0, 1, 0, -1, 0] : List Int32).getD v2.toNatClampNeg 0)) (fun w1 =>
  if (σ.1 4 0) = 0 then none else
  if hl_b v2 5 then
  if (f_X_within w1 (σ.1 4 0)) = 0 then
  some v1 else
  if (f_X_within ((v1 / (σ.1 4 0)) + (([-1, 0, 1, 0, 0] : List Int32).getD v2.toNatClampNeg 0)) (σ.1 4 1)) = 0 then
  some v1 else
  hl_let ((((v1 / (σ.1 4 0)) + (([-1, 0, 1, 0, 0] : List Int32).getD v2.toNatClampNeg 0)) * (σ.1 4 0)) + w1) (fun w2 =>
  if (f_Gr_isOpen w2 σ) = 0 then
  some v1 else
  some w2) else none) else none
set_option maxRecDepth 20000 in
theorem p_Gr_nextCell {X : hl_X} (D : Nat) (v1 : Int32) (v2 : Int32) (σ : hl_M) {r : Int32} (h : f_Gr_nextCell v1 v2 σ = some r) : hl_R X (D + 2) y60 0 [(0, .ref 4), (1, .int v1), (2, .int v2)] [] σ (some (.int r)) σ := by
  unfold f_Gr_nextCell at h
  refine hl_aload_n (i := 0) d60_0 rfl rfl (by decide) ?_
  refine hl_gi d60_1 gGr_40_4 ?_
  refine hl_if_le (tg := 18) d60_4 rfl (fun hc => ?_) (fun hc => ?_)
  · have h := hl_pos hc h
    refine hl_iload_n (i := 1) d60_18 rfl rfl ?_
    have h := Option.some.inj h
    subst h
    exact hl_iret d60_19 rfl
  · have h := hl_neg hc h
    refine hl_iload_n (i := 2) d60_7 rfl rfl ?_
    refine hl_gsA d60_8 wsGr_72 ?_
    refine hl_alenR d60_11 hs400 kn5 ?_
    refine hl_cNi (D := (D + 1)) (z := y2) (n := 2) (av := [.int v2, .int 5]) (st := []) d60_12 mlGr_64 rfl (Nat.le_of_ble_eq_true rfl) (Nat.le_of_ble_eq_true rfl) ((p_X_within D v2 5 σ rfl).dle (by omega)) ?_
    refine hl_if_ne (tg := 20) d60_15 rfl (fun hc => ?_) (fun hc => ?_)
    · have h := hl_neg hc h
      refine hl_iload_n (i := 1) d60_20 rfl rfl ?_
      refine hl_aload_n (i := 0) d60_21 rfl rfl (by decide) ?_
      refine hl_gi d60_22 gGr_40_4 ?_
      obtain ⟨hb, h⟩ := hl_gn h
      refine hl_irem d60_25 hb ?_
      refine hl_gsA d60_26 wsGr_72 ?_
      refine hl_iload_n (i := 2) d60_29 rfl rfl ?_
      obtain ⟨hb, h⟩ := hl_gd h
      refine hl_ialR d60_30 hs400 (hl_b_in hb) ?_
      refine hl_iadd d60_31 ?_
      refine hl_nmi h (fun w1 h => ?_)
      refine hl_istore_n (i := 3) (ls2 := [(3, .int w1), (0, .ref 4), (1, .int v1), (2, .int v2)]) d60_32 rfl (by decide) rfl ?_
      refine hl_iload_n (i := 1) d60_33 rfl rfl ?_
      refine hl_aload_n (i := 0) d60_34 rfl rfl (by decide) ?_
      refine hl_gi d60_35 gGr_40_4 ?_
      obtain ⟨hb, h⟩ := hl_gn h
      refine hl_idiv d60_38 hb ?_
      refine hl_gsD d60_39 wsGr_75 ?_
      refine hl_iload_n (i := 2) d60_42 rfl rfl ?_
      obtain ⟨hb, h⟩ := hl_gd h
      refine hl_ialR d60_43 hs401 (hl_b_in hb) ?_
      refine hl_iadd d60_44 ?_
      refine hl_istore (ls2 := [(4, .int ((v1 / (σ.1 4 0)) + (([-1, 0, 1, 0, 0] : List Int32).getD v2.toNatClampNeg 0))), (3, .int w1), (0, .ref 4), (1, .int v1), (2, .int v2)]) d60_45 (by decide) rfl ?_
      refine hl_iload_n (i := 3) d60_47 rfl rfl ?_
      refine hl_aload_n (i := 0) d60_48 rfl rfl (by decide) ?_
      refine hl_gi d60_49 gGr_40_4 ?_
      refine hl_cNi (D := (D + 1)) (z := y2) (n := 2) (av := [.int w1, .int (σ.1 4 0)]) (st := []) d60_52 mlGr_64 rfl (Nat.le_of_ble_eq_true rfl) (Nat.le_of_ble_eq_true rfl) ((p_X_within D w1 (σ.1 4 0) σ rfl).dle (by omega)) ?_
      refine hl_if_eq (tg := 70) d60_55 rfl (fun hc => ?_) (fun hc => ?_)
      · have h := hl_pos hc h
        refine hl_iload_n (i := 1) d60_70 rfl rfl ?_
        have h := Option.some.inj h
        subst h
        exact hl_iret d60_71 rfl
      · have h := hl_neg hc h
        refine hl_iload d60_58 rfl ?_
        refine hl_aload_n (i := 0) d60_60 rfl rfl (by decide) ?_
        refine hl_gi d60_61 gGr_44_4 ?_
        refine hl_cNi (D := (D + 1)) (z := y2) (n := 2) (av := [.int ((v1 / (σ.1 4 0)) + (([-1, 0, 1, 0, 0] : List Int32).getD v2.toNatClampNeg 0)), .int (σ.1 4 1)]) (st := []) d60_64 mlGr_64 rfl (Nat.le_of_ble_eq_true rfl) (Nat.le_of_ble_eq_true rfl) ((p_X_within D ((v1 / (σ.1 4 0)) + (([-1, 0, 1, 0, 0] : List Int32).getD v2.toNatClampNeg 0)) (σ.1 4 1) σ rfl).dle (by omega)) ?_
        refine hl_if_ne (tg := 72) d60_67 rfl (fun hc => ?_) (fun hc => ?_)
        · have h := hl_neg hc h
          refine hl_iload d60_72 rfl ?_
          refine hl_aload_n (i := 0) d60_74 rfl rfl (by decide) ?_
          refine hl_gi d60_75 gGr_40_4 ?_
          refine hl_imul d60_78 ?_
          refine hl_iload_n (i := 3) d60_79 rfl rfl ?_
          refine hl_iadd d60_80 ?_
          refine hl_nmi h (fun w2 h => ?_)
          refine hl_istore (ls2 := [(5, .int w2), (4, .int ((v1 / (σ.1 4 0)) + (([-1, 0, 1, 0, 0] : List Int32).getD v2.toNatClampNeg 0))), (3, .int w1), (0, .ref 4), (1, .int v1), (2, .int v2)]) d60_81 (by decide) rfl ?_
          refine hl_aload_n (i := 0) d60_83 rfl rfl (by decide) ?_
          refine hl_iload d60_84 rfl ?_
          refine hl_cVi (D := (D + 1)) (z := y49) (n := 1) (av := [.int w2]) (st := []) d60_86 mlGr_78 rfl (Nat.le_of_ble_eq_true rfl) (Nat.le_of_ble_eq_true rfl) rc4 ((p_Gr_isOpen D w2 σ rfl).dle (by omega)) ?_
          refine hl_if_eq (tg := 97) d60_89 rfl (fun hc => ?_) (fun hc => ?_)
          · have h := hl_pos hc h
            refine hl_iload_n (i := 1) d60_97 rfl rfl ?_
            have h := Option.some.inj h
            subst h
            exact hl_iret d60_98 rfl
          · have h := hl_neg hc h
            refine hl_iload d60_92 rfl ?_
            refine hl_goto (tg := 98) d60_94 rfl ?_
            have h := Option.some.inj h
            subst h
            exact hl_iret d60_98 rfl
        · have h := hl_pos hc h
          refine hl_iload_n (i := 1) d60_70 rfl rfl ?_
          have h := Option.some.inj h
          subst h
          exact hl_iret d60_71 rfl
    · have h := hl_pos hc h
      refine hl_iload_n (i := 1) d60_18 rfl rfl ?_
      have h := Option.some.inj h
      subst h
      exact hl_iret d60_19 rfl
def f_Wk_retrace_L39 (v1 : Int32) (v2 : Nat) (s : Int32 × Int32 × hl_M) : Option ((Int32 × Int32 × hl_M) ⊕ (hl_M)) :=
  if 100 ≤ s.2.1 then
  some (.inr s.2.2) else
  (f_Gr_stepFor v1 s.2.1 s.2.2).bind fun x1 =>
  (f_Gr_nextCell s.1 x1 s.2.2).bind fun x2 =>
  if (hl_shp v2).1 = 100 ∧ hl_b s.2.1 (hl_shp v2).2 then
  some (.inl ((x2, s.2.1 + 1, hl_si s.2.2 v2 s.2.1.toNatClampNeg x2))) else none
def f_Wk_retrace (v1 : Int32) (σ : hl_M) : Option (hl_M) :=
  if (f_X_within v1 (σ.1 4 3)) = 0 then
  some σ else
  if hl_b v1 10 then
  if hl_b v1 10 then
  if (hl_shp (26 + 1 + v1.toNatClampNeg)).1 = 100 ∧ hl_b (0 : Int32) (hl_shp (26 + 1 + v1.toNatClampNeg)).2 then
  (hl_lp (f_Wk_retrace_L39 v1 (26 + 1 + v1.toNatClampNeg)) hl_big ((σ.1 6 v1.toNatClampNeg, 1, hl_si σ (26 + 1 + v1.toNatClampNeg) (0 : Int32).toNatClampNeg (σ.1 6 v1.toNatClampNeg)))).bind fun x3 =>
  some x3 else none else none else none
set_option maxRecDepth 20000 in
theorem p_Wk_retrace_L39 {X : hl_X} (D : Nat) (v1 : Int32) (v2 : Nat) (hv2 : v2 < 900) (s : Int32 × Int32 × hl_M) {o : (Int32 × Int32 × hl_M) ⊕ (hl_M)} {v : Option Value} {τ : hl_M} (h : f_Wk_retrace_L39 v1 v2 s = some o) (k1 : ∀ (c0 : Int32) (c1 : Int32) (c2 : hl_M), o = .inl ((c0, c1, c2)) → hl_R X (D + 3) y56 39 [(0, .ref 25), (1, .int v1), (2, .ref v2), (3, .int c0), (4, .int c1)] [] c2 v τ) (k2 : ∀ (a0 : hl_M), o = .inr a0 → hl_R X (D + 3) y56 76 [] [] a0 v τ) : hl_R X (D + 3) y56 39 [(0, .ref 25), (1, .int v1), (2, .ref v2), (3, .int s.1), (4, .int s.2.1)] [] s.2.2 v τ := by
  unfold f_Wk_retrace_L39 at h
  refine hl_iload d56_39 rfl ?_
  refine hl_bipush d56_41 kb100 ?_
  refine hl_icmp_ge (tg := 76) d56_43 rfl (fun hc => ?_) (fun hc => ?_)
  · have h := hl_pos hc h
    have h := Option.some.inj h
    subst h
    exact hl_loc (k2 s.2.2 rfl) trivial
  · have h := hl_neg hc h
    refine hl_aload_n (i := 0) d56_46 rfl rfl (by decide) ?_
    refine hl_gr d56_47 gWk_16_25 ?_
    refine hl_iload_n (i := 3) d56_50 rfl rfl ?_
    refine hl_aload_n (i := 0) d56_51 rfl rfl (by decide) ?_
    refine hl_gr d56_52 gWk_16_25 ?_
    refine hl_iload_n (i := 1) d56_55 rfl rfl ?_
    refine hl_iload d56_56 rfl ?_
    obtain ⟨x1, hx1, h⟩ := hl_bind h
    refine hl_cVi (D := (D + 2)) (z := y57) (n := 2) (av := [.int v1, .int s.2.1]) (st := [.int s.1, .ref 4]) d56_58 mlWk_38 rfl (Nat.le_of_ble_eq_true rfl) (Nat.le_of_ble_eq_true rfl) rc4 ((p_Gr_stepFor D v1 s.2.1 s.2.2 hx1).dle (by omega)) ?_
    obtain ⟨x2, hx2, h⟩ := hl_bind h
    refine hl_cVi (D := (D + 2)) (z := y60) (n := 2) (av := [.int s.1, .int x1]) (st := []) d56_61 mlWk_42 rfl (Nat.le_of_ble_eq_true rfl) (Nat.le_of_ble_eq_true rfl) rc4 ((p_Gr_nextCell D s.1 x1 s.2.2 hx2).dle (by omega)) ?_
    refine hl_istore_n (i := 3) (ls2 := [(3, .int x2), (0, .ref 25), (1, .int v1), (2, .ref v2), (4, .int s.2.1)]) d56_64 rfl (by decide) rfl ?_
    refine hl_aload_n (i := 2) d56_65 rfl rfl (hl_ne9 hv2) ?_
    refine hl_iload d56_66 rfl ?_
    refine hl_iload_n (i := 3) d56_68 rfl rfl ?_
    obtain ⟨hb, h⟩ := hl_gd h
    refine hl_iast (q := v2) d56_69 (hl_shx hb.1) (hl_b_in hb.2) ?_
    refine hl_iinc (ls2 := [(4, .int (s.2.1 + 1)), (3, .int x2), (0, .ref 25), (1, .int v1), (2, .ref v2)]) d56_70 rfl kx1 (by decide) rfl ?_
    refine hl_goto (tg := 39) d56_73 rfl ?_
    have h := Option.some.inj h
    subst h
    exact hl_loc (k1 x2 (s.2.1 + 1) (hl_si s.2.2 v2 s.2.1.toNatClampNeg x2) rfl) ⟨rfl, rfl, rfl, rfl, rfl, trivial⟩
set_option maxRecDepth 20000 in
theorem p_Wk_retrace {X : hl_X} (D : Nat) (v1 : Int32) (σ : hl_M) {τ : hl_M} (h : f_Wk_retrace v1 σ = some τ) : hl_R X (D + 3) y56 0 [(0, .ref 25), (1, .int v1)] [] σ none τ := by
  unfold f_Wk_retrace at h
  refine hl_iload_n (i := 1) d56_0 rfl rfl ?_
  refine hl_aload_n (i := 0) d56_1 rfl rfl (by decide) ?_
  refine hl_gr d56_2 gWk_16_25 ?_
  refine hl_gi d56_5 gWk_20_4 ?_
  refine hl_cNi (D := (D + 2)) (z := y2) (n := 2) (av := [.int v1, .int (σ.1 4 3)]) (st := []) d56_8 mlWk_30 rfl (Nat.le_of_ble_eq_true rfl) (Nat.le_of_ble_eq_true rfl) ((p_X_within D v1 (σ.1 4 3) σ rfl).dle (by omega)) ?_
  refine hl_if_ne (tg := 15) d56_11 rfl (fun hc => ?_) (fun hc => ?_)
  · have h := hl_neg hc h
    refine hl_aload_n (i := 0) d56_15 rfl rfl (by decide) ?_
    refine hl_gr d56_16 gWk_11_25 ?_
    refine hl_iload_n (i := 1) d56_19 rfl rfl ?_
    obtain ⟨hb, h⟩ := hl_gd h
    refine hl_aald d56_20 sh26 (hl_b_in hb) (by decide) ?_
    have hq20 := hl_row9 (q := 26) hb (by decide)
    refine hl_astore_n (i := 2) (ls2 := [(2, .ref (26 + 1 + v1.toNatClampNeg)), (0, .ref 25), (1, .int v1)]) d56_21 rfl (by decide) (hl_ne9 hq20) rfl ?_
    refine hl_aload_n (i := 0) d56_22 rfl rfl (by decide) ?_
    refine hl_gr d56_23 gWk_16_25 ?_
    refine hl_gr d56_26 gWk_34_4 ?_
    refine hl_iload_n (i := 1) d56_29 rfl rfl ?_
    obtain ⟨hb, h⟩ := hl_gd h
    refine hl_iald d56_30 sh6 (hl_b_in hb) ?_
    refine hl_istore_n (i := 3) (ls2 := [(3, .int (σ.1 6 v1.toNatClampNeg)), (2, .ref (26 + 1 + v1.toNatClampNeg)), (0, .ref 25), (1, .int v1)]) d56_31 rfl (by decide) rfl ?_
    refine hl_aload_n (i := 2) d56_32 rfl rfl (hl_ne9 hq20) ?_
    refine hl_iconst d56_33 ki0 ?_
    refine hl_iload_n (i := 3) d56_34 rfl rfl ?_
    obtain ⟨hb, h⟩ := hl_gd h
    refine hl_iast (q := (26 + 1 + v1.toNatClampNeg)) d56_35 (hl_shx hb.1) (hl_b_in hb.2) ?_
    refine hl_iconst d56_36 ki1 ?_
    refine hl_istore (ls2 := [(4, .int 1), (3, .int (σ.1 6 v1.toNatClampNeg)), (2, .ref (26 + 1 + v1.toNatClampNeg)), (0, .ref 25), (1, .int v1)]) d56_37 (by decide) rfl ?_
    obtain ⟨x3, hx3, h⟩ := hl_bind h
    refine hl_R.loc (ls' := [(0, .ref 25), (1, .int v1), (2, .ref (26 + 1 + v1.toNatClampNeg)), (3, .int (σ.1 6 v1.toNatClampNeg)), (4, .int 1)]) ⟨rfl, rfl, rfl, rfl, rfl, trivial⟩ ?_
    refine hl_lp_run3 (P := fun (c0 : Int32) (c1 : Int32) (c2 : hl_M) => hl_R X (D + 3) y56 39 [(0, .ref 25), (1, .int v1), (2, .ref (26 + 1 + v1.toNatClampNeg)), (3, .int c0), (4, .int c1)] [] c2 none τ) (fun x : hl_M => hl_R X (D + 3) y56 76 [] [] x none τ) (fun c0 c1 c2 o ho h1 h2 => p_Wk_retrace_L39 D v1 (26 + 1 + v1.toNatClampNeg) hq20 (c0, c1, c2) ho h1 (fun a0 e => h2 a0 e)) hl_big (σ.1 6 v1.toNatClampNeg) 1 (hl_si σ (26 + 1 + v1.toNatClampNeg) (0 : Int32).toNatClampNeg (σ.1 6 v1.toNatClampNeg)) x3 hx3 ?_
    have h := Option.some.inj h
    subst h
    exact hl_vret d56_76 rfl
  · have h := hl_pos hc h
    have h := Option.some.inj h
    subst h
    exact hl_vret d56_14 rfl
def f_Wk_retraceAll_L2 (s : Int32 × hl_M) : Option ((Int32 × hl_M) ⊕ (hl_M)) :=
  if (s.2.1 4 3) ≤ s.1 then
  some (.inr s.2) else
  (f_Wk_retrace s.1 s.2).bind fun x1 =>
  some (.inl ((s.1 + 1, x1)))
def f_Wk_retraceAll (σ : hl_M) : Option (hl_M) :=
  (hl_lp (f_Wk_retraceAll_L2) hl_big ((0, σ))).bind fun x2 =>
  some x2
set_option maxRecDepth 20000 in
theorem p_Wk_retraceAll_L2 {X : hl_X} (D : Nat) (s : Int32 × hl_M) {o : (Int32 × hl_M) ⊕ (hl_M)} {v : Option Value} {τ : hl_M} (h : f_Wk_retraceAll_L2 s = some o) (k1 : ∀ (c0 : Int32) (c1 : hl_M), o = .inl ((c0, c1)) → hl_R X (D + 4) y55 2 [(0, .ref 25), (1, .int c0)] [] c1 v τ) (k2 : ∀ (a0 : hl_M), o = .inr a0 → hl_R X (D + 4) y55 24 [] [] a0 v τ) : hl_R X (D + 4) y55 2 [(0, .ref 25), (1, .int s.1)] [] s.2 v τ := by
  unfold f_Wk_retraceAll_L2 at h
  refine hl_iload_n (i := 1) d55_2 rfl rfl ?_
  refine hl_aload_n (i := 0) d55_3 rfl rfl (by decide) ?_
  refine hl_gr d55_4 gWk_16_25 ?_
  refine hl_gi d55_7 gWk_20_4 ?_
  refine hl_icmp_ge (tg := 24) d55_10 rfl (fun hc => ?_) (fun hc => ?_)
  · have h := hl_pos hc h
    have h := Option.some.inj h
    subst h
    exact hl_loc (k2 s.2 rfl) trivial
  · have h := hl_neg hc h
    refine hl_aload_n (i := 0) d55_13 rfl rfl (by decide) ?_
    refine hl_iload_n (i := 1) d55_14 rfl rfl ?_
    obtain ⟨x1, hx1, h⟩ := hl_bind h
    refine hl_cVv (D := (D + 3)) (z := y56) (n := 1) (av := [.int s.1]) (st := []) d55_15 mlWk_26 rfl (Nat.le_of_ble_eq_true rfl) (Nat.le_of_ble_eq_true rfl) rc25 ((p_Wk_retrace D s.1 s.2 hx1).dle (by omega)) ?_
    refine hl_iinc (ls2 := [(1, .int (s.1 + 1)), (0, .ref 25)]) d55_18 rfl kx1 (by decide) rfl ?_
    refine hl_goto (tg := 2) d55_21 rfl ?_
    have h := Option.some.inj h
    subst h
    exact hl_loc (k1 (s.1 + 1) x1 rfl) ⟨rfl, rfl, trivial⟩
set_option maxRecDepth 20000 in
theorem p_Wk_retraceAll {X : hl_X} (D : Nat) (σ : hl_M) {τ : hl_M} (h : f_Wk_retraceAll σ = some τ) : hl_R X (D + 4) y55 0 [(0, .ref 25)] [] σ none τ := by
  unfold f_Wk_retraceAll at h
  refine hl_iconst d55_0 ki0 ?_
  refine hl_istore_n (i := 1) (ls2 := [(1, .int 0), (0, .ref 25)]) d55_1 rfl (by decide) rfl ?_
  obtain ⟨x2, hx2, h⟩ := hl_bind h
  refine hl_R.loc (ls' := [(0, .ref 25), (1, .int 0)]) ⟨rfl, rfl, trivial⟩ ?_
  refine hl_lp_run2 (P := fun (c0 : Int32) (c1 : hl_M) => hl_R X (D + 4) y55 2 [(0, .ref 25), (1, .int c0)] [] c1 none τ) (fun x : hl_M => hl_R X (D + 4) y55 24 [] [] x none τ) (fun c0 c1 o ho h1 h2 => p_Wk_retraceAll_L2 D (c0, c1) ho h1 (fun a0 e => h2 a0 e)) hl_big 0 σ x2 hx2 ?_
  have h := Option.some.inj h
  subst h
  exact hl_vret d55_24 rfl
def f_X_text (σ : hl_M) : Option (Int32 × hl_M) :=
  (f_Tl_tell σ).bind fun x1 =>
  if x1.1 = ((-1)) then
  some (((-1), hl_si x1.2 1 1 0)) else
  (f_Gr_become (hl_si x1.2 1 1 0)).bind fun x2 =>
  (f_Wk_retraceAll x2).bind fun x3 =>
  some ((x1.1, hl_si (hl_si x3 58 3 0) 0 11 0))
set_option maxRecDepth 20000 in
theorem p_X_text {X : hl_X} (D : Nat) (σ : hl_M) {r : Int32} {τ : hl_M} (h : f_X_text σ = some (r, τ)) : hl_R X (D + 10) y6 0 [(0, .ref 0)] [] σ (some (.int r)) τ := by
  unfold f_X_text at h
  refine hl_aload_n (i := 0) d6_0 rfl rfl (by decide) ?_
  refine hl_gr d6_1 gX_40_0 ?_
  obtain ⟨x1, hx1, h⟩ := hl_bind h
  refine hl_cVi (D := (D + 9)) (z := y7) (n := 0) (av := []) (st := []) d6_4 mlX_100 rfl (Nat.le_of_ble_eq_true rfl) (Nat.le_of_ble_eq_true rfl) rc24 ((p_Tl_tell D σ hx1).dle (by omega)) ?_
  refine hl_istore_n (i := 1) (ls2 := [(1, .int x1.1), (0, .ref 0)]) d6_7 rfl (by decide) rfl ?_
  refine hl_aload_n (i := 0) d6_8 rfl rfl (by decide) ?_
  refine hl_gr d6_9 gX_10_0 ?_
  refine hl_iconst d6_12 ki0 ?_
  refine hl_pi d6_13 qX_92_1 ?_
  refine hl_iload_n (i := 1) d6_16 rfl rfl ?_
  refine hl_iconst d6_17 kim1 ?_
  refine hl_icmp_ne (tg := 23) d6_18 rfl (fun hc => ?_) (fun hc => ?_)
  · have h := hl_neg hc h
    refine hl_aload_n (i := 0) d6_23 rfl rfl (by decide) ?_
    refine hl_gr d6_24 gX_28_0 ?_
    refine hl_aload_n (i := 0) d6_27 rfl rfl (by decide) ?_
    refine hl_gr d6_28 gX_32_0 ?_
    obtain ⟨x2, hx2, h⟩ := hl_bind h
    refine hl_cVv (D := (D + 9)) (z := y54) (n := 1) (av := [.ref 14]) (st := []) d6_31 mlX_104 rfl (Nat.le_of_ble_eq_true rfl) (Nat.le_of_ble_eq_true rfl) rc4 ((p_Gr_become D (hl_si x1.2 1 1 0) hx2).dle (by omega)) ?_
    refine hl_aload_n (i := 0) d6_34 rfl rfl (by decide) ?_
    refine hl_gr d6_35 gX_49_0 ?_
    obtain ⟨x3, hx3, h⟩ := hl_bind h
    refine hl_cVv (D := (D + 9)) (z := y55) (n := 0) (av := []) (st := []) d6_38 mlX_107 rfl (Nat.le_of_ble_eq_true rfl) (Nat.le_of_ble_eq_true rfl) rc25 ((p_Wk_retraceAll D x2 hx3).dle (by omega)) ?_
    refine hl_aload_n (i := 0) d6_41 rfl rfl (by decide) ?_
    refine hl_gr d6_42 gX_81_0 ?_
    refine hl_iconst d6_45 ki0 ?_
    refine hl_pi d6_46 qX_110_58 ?_
    refine hl_aload_n (i := 0) d6_49 rfl rfl (by decide) ?_
    refine hl_iconst d6_50 ki0 ?_
    refine hl_pz d6_51 qX_113_0 (Or.inl rfl) ?_
    refine hl_iload_n (i := 1) d6_54 rfl rfl ?_
    obtain ⟨e1, e2⟩ := hl_some2 h
    subst e1; subst e2
    exact hl_iret d6_55 rfl
  · have h := hl_pos hc h
    refine hl_iconst d6_21 kim1 ?_
    obtain ⟨e1, e2⟩ := hl_some2 h
    subst e1; subst e2
    exact hl_iret d6_22 rfl
def f_M_look_j39 (σ : hl_M) : Option ((hl_M) ⊕ (hl_M)) :=
  some (.inl (hl_si σ 64 2 ((σ.1 64 2) + 1)))
def f_M_look_L0 (s : hl_M) : Option ((hl_M) ⊕ (hl_M)) :=
  if (s.1 64 3) ≤ (s.1 64 2) then
  some (.inr s) else
  if hl_b (s.1 64 2) 1600 then
  if (s.1 65 (s.1 64 2).toNatClampNeg) = 10 then
  f_M_look_j39 s else
  if hl_b (s.1 64 2) 1600 then
  if (s.1 65 (s.1 64 2).toNatClampNeg) = 32 then
  f_M_look_j39 s else
  some (.inr s) else none else none
def f_M_look (σ : hl_M) : Option (Int32 × hl_M) :=
  (hl_lp (f_M_look_L0) hl_big σ).bind fun x1 =>
  if (x1.1 64 3) ≤ (x1.1 64 2) then
  some (((-1), x1)) else
  if hl_b (x1.1 64 2) 1600 then
  some ((x1.1 65 (x1.1 64 2).toNatClampNeg, x1)) else none
set_option maxRecDepth 20000 in
theorem p_M_look_j39 {X : hl_X} (D : Nat) (σ : hl_M) {o : (hl_M) ⊕ (hl_M)} {v : Option Value} {τ : hl_M} (h : f_M_look_j39 σ = some o) (k1 : ∀ (c0 : hl_M), o = .inl c0 → hl_R X D y65 0 [(0, .ref 64)] [] c0 v τ) (k2 : ∀ (a0 : hl_M), o = .inr a0 → hl_R X D y65 52 [(0, .ref 64)] [] a0 v τ) : hl_R X D y65 39 [(0, .ref 64)] [] σ v τ := by
  unfold f_M_look_j39 at h
  refine hl_aload_n (i := 0) d65_39 rfl rfl (by decide) ?_
  refine hl_dup d65_40 rfl ?_
  refine hl_gi d65_41 gM_179_64 ?_
  refine hl_iconst d65_44 ki1 ?_
  refine hl_iadd d65_45 ?_
  refine hl_pi d65_46 qM_179_64 ?_
  refine hl_goto (tg := 0) d65_49 rfl ?_
  have h := Option.some.inj h
  subst h
  exact hl_loc (k1 (hl_si σ 64 2 ((σ.1 64 2) + 1)) rfl) ⟨rfl, trivial⟩
set_option maxRecDepth 20000 in
theorem p_M_look_L0 {X : hl_X} (D : Nat) (s : hl_M) {o : (hl_M) ⊕ (hl_M)} {v : Option Value} {τ : hl_M} (h : f_M_look_L0 s = some o) (k1 : ∀ (c0 : hl_M), o = .inl c0 → hl_R X D y65 0 [(0, .ref 64)] [] c0 v τ) (k2 : ∀ (a0 : hl_M), o = .inr a0 → hl_R X D y65 52 [(0, .ref 64)] [] a0 v τ) : hl_R X D y65 0 [(0, .ref 64)] [] s v τ := by
  unfold f_M_look_L0 at h
  refine hl_aload_n (i := 0) d65_0 rfl rfl (by decide) ?_
  refine hl_gi d65_1 gM_179_64 ?_
  refine hl_aload_n (i := 0) d65_4 rfl rfl (by decide) ?_
  refine hl_gi d65_5 gM_182_64 ?_
  refine hl_icmp_ge (tg := 52) d65_8 rfl (fun hc => ?_) (fun hc => ?_)
  · have h := hl_pos hc h
    have h := Option.some.inj h
    subst h
    exact hl_loc (k2 s rfl) ⟨rfl, trivial⟩
  · have h := hl_neg hc h
    refine hl_aload_n (i := 0) d65_11 rfl rfl (by decide) ?_
    refine hl_gr d65_12 gM_7_64 ?_
    refine hl_aload_n (i := 0) d65_15 rfl rfl (by decide) ?_
    refine hl_gi d65_16 gM_179_64 ?_
    obtain ⟨hb, h⟩ := hl_gd h
    refine hl_iald d65_19 sh65 (hl_b_in hb) ?_
    refine hl_bipush d65_20 kb10 ?_
    refine hl_icmp_eq (tg := 39) d65_22 rfl (fun hc => ?_) (fun hc => ?_)
    · have h := hl_pos hc h
      exact hl_loc (p_M_look_j39 D s h k1 k2) ⟨rfl, trivial⟩
    · have h := hl_neg hc h
      refine hl_aload_n (i := 0) d65_25 rfl rfl (by decide) ?_
      refine hl_gr d65_26 gM_7_64 ?_
      refine hl_aload_n (i := 0) d65_29 rfl rfl (by decide) ?_
      refine hl_gi d65_30 gM_179_64 ?_
      obtain ⟨hb, h⟩ := hl_gd h
      refine hl_iald d65_33 sh65 (hl_b_in hb) ?_
      refine hl_bipush d65_34 kb32 ?_
      refine hl_icmp_ne (tg := 52) d65_36 rfl (fun hc => ?_) (fun hc => ?_)
      · have h := hl_neg hc h
        have h := Option.some.inj h
        subst h
        exact hl_loc (k2 s rfl) ⟨rfl, trivial⟩
      · have h := hl_pos hc h
        exact hl_loc (p_M_look_j39 D s h k1 k2) ⟨rfl, trivial⟩
set_option maxRecDepth 20000 in
theorem p_M_look {X : hl_X} (D : Nat) (σ : hl_M) {r : Int32} {τ : hl_M} (h : f_M_look σ = some (r, τ)) : hl_R X D y65 0 [(0, .ref 64)] [] σ (some (.int r)) τ := by
  unfold f_M_look at h
  obtain ⟨x1, hx1, h⟩ := hl_bind h
  refine hl_R.loc (ls' := [(0, .ref 64)]) ⟨rfl, trivial⟩ ?_
  refine hl_lp_run1 (P := fun (c0 : hl_M) => hl_R X D y65 0 [(0, .ref 64)] [] c0 (some (.int r)) τ) (fun x : hl_M => hl_R X D y65 52 [(0, .ref 64)] [] x (some (.int r)) τ) (fun c0 o ho h1 h2 => p_M_look_L0 D c0 ho h1 (fun a0 e => h2 a0 e)) hl_big σ x1 hx1 ?_
  refine hl_aload_n (i := 0) d65_52 rfl rfl (by decide) ?_
  refine hl_gi d65_53 gM_179_64 ?_
  refine hl_aload_n (i := 0) d65_56 rfl rfl (by decide) ?_
  refine hl_gi d65_57 gM_182_64 ?_
  refine hl_icmp_ge (tg := 75) d65_60 rfl (fun hc => ?_) (fun hc => ?_)
  · have h := hl_pos hc h
    refine hl_iconst d65_75 kim1 ?_
    obtain ⟨e1, e2⟩ := hl_some2 h
    subst e1; subst e2
    exact hl_iret d65_76 rfl
  · have h := hl_neg hc h
    refine hl_aload_n (i := 0) d65_63 rfl rfl (by decide) ?_
    refine hl_gr d65_64 gM_7_64 ?_
    refine hl_aload_n (i := 0) d65_67 rfl rfl (by decide) ?_
    refine hl_gi d65_68 gM_179_64 ?_
    obtain ⟨hb, h⟩ := hl_gd h
    refine hl_iald d65_71 sh65 (hl_b_in hb) ?_
    refine hl_goto (tg := 76) d65_72 rfl ?_
    obtain ⟨e1, e2⟩ := hl_some2 h
    subst e1; subst e2
    exact hl_iret d65_76 rfl
def f_M_isLetter (v0 : Int32) : Int32 :=
  if v0 < 97 then
  0 else
  if 122 < v0 then
  0 else
  1
set_option maxRecDepth 20000 in
theorem p_M_isLetter {X : hl_X} (D : Nat) (v0 : Int32) (σ : hl_M) {r : Int32} (h : f_M_isLetter v0 = r) : hl_R X D y66 0 [(0, .int v0)] [] σ (some (.int r)) σ := by
  unfold f_M_isLetter at h
  refine hl_iload_n (i := 0) d66_0 rfl rfl ?_
  refine hl_bipush d66_1 kb97 ?_
  refine hl_icmp_lt (tg := 16) d66_3 rfl (fun hc => ?_) (fun hc => ?_)
  · have h := hl_pos hc h
    refine hl_iconst d66_16 ki0 ?_
    subst h
    exact hl_zret d66_17 rfl (by decide)
  · have h := hl_neg hc h
    refine hl_iload_n (i := 0) d66_6 rfl rfl ?_
    refine hl_bipush d66_7 kb122 ?_
    refine hl_icmp_gt (tg := 16) d66_9 rfl (fun hc => ?_) (fun hc => ?_)
    · have h := hl_pos hc h
      refine hl_iconst d66_16 ki0 ?_
      subst h
      exact hl_zret d66_17 rfl (by decide)
    · have h := hl_neg hc h
      refine hl_iconst d66_12 ki1 ?_
      refine hl_goto (tg := 17) d66_13 rfl ?_
      subst h
      exact hl_zret d66_17 rfl (by decide)
def f_M_isHere_L35 (v1 : Nat) (σ : hl_M) (s : Int32) : Option ((Int32) ⊕ (Int32)) :=
  if (σ.1 64 3) ≤ s then
  some (.inr s) else
  if hl_b s 1600 then
  if (f_M_isLetter (σ.1 65 s.toNatClampNeg)) = 0 then
  some (.inr s) else
  some (.inl (s + 1)) else none
def f_M_isHere_L76 (v1 : Nat) (σ : hl_M) (s : Int32) : Option ((Int32) ⊕ ((Unit) ⊕ (Int32 × hl_M))) :=
  if (hl_shp v1).1 = 103 then
  if (Int32.ofNat (hl_shp v1).2) ≤ s then
  some (.inr (.inl (()))) else
  if hl_b ((σ.1 64 2) + s) 1600 then
  if (hl_shp v1).1 = 103 ∧ hl_b s (hl_shp v1).2 then
  if (σ.1 65 ((σ.1 64 2) + s).toNatClampNeg) = (σ.1 v1 s.toNatClampNeg) then
  some (.inl (s + 1)) else
  some (.inr (.inr (((0, σ))))) else none else none else none
def f_M_isHere (v1 : Nat) (σ : hl_M) : Option (Int32 × hl_M) :=
  if (σ.1 64 5) = 0 then
  (f_M_look σ).bind fun x1 =>
  if (f_M_isLetter x1.1) = 0 then
  some ((0, x1.2)) else
  if (x1.2.1 64 2) = (x1.2.1 64 4) then
  some ((0, x1.2)) else
  (hl_lp (f_M_isHere_L35 v1 x1.2) hl_big (x1.2.1 64 2)).bind fun x2 =>
  if (hl_shp v1).1 = 103 then
  if (x2 - (x1.2.1 64 2)) = (Int32.ofNat (hl_shp v1).2) then
  (hl_lp (f_M_isHere_L76 v1 x1.2) hl_big 0).bind fun x3 =>
  Sum.elim (fun x4 =>
  some ((1, x1.2))) (fun x5 =>
  some x5) x3 else
  some ((0, x1.2)) else none else
  some ((0, σ))
set_option maxRecDepth 20000 in
theorem p_M_isHere_L35 {X : hl_X} (D : Nat) (v1 : Nat) (hv1 : v1 < 900) (σ : hl_M) (s : Int32) {o : (Int32) ⊕ (Int32)} {v : Option Value} {τ : hl_M} (h : f_M_isHere_L35 v1 σ s = some o) (k1 : ∀ (c0 : Int32), o = .inl c0 → hl_R X (D + 1) y64 35 [(0, .ref 64), (1, .ref v1), (2, .int c0)] [] σ v τ) (k2 : ∀ (a0 : Int32), o = .inr a0 → hl_R X (D + 1) y64 61 [(0, .ref 64), (1, .ref v1), (2, .int a0)] [] σ v τ) : hl_R X (D + 1) y64 35 [(0, .ref 64), (1, .ref v1), (2, .int s)] [] σ v τ := by
  unfold f_M_isHere_L35 at h
  refine hl_iload_n (i := 2) d64_35 rfl rfl ?_
  refine hl_aload_n (i := 0) d64_36 rfl rfl (by decide) ?_
  refine hl_gi d64_37 gM_182_64 ?_
  refine hl_icmp_ge (tg := 61) d64_40 rfl (fun hc => ?_) (fun hc => ?_)
  · have h := hl_pos hc h
    have h := Option.some.inj h
    subst h
    exact hl_loc (k2 s rfl) ⟨rfl, rfl, rfl, trivial⟩
  · have h := hl_neg hc h
    refine hl_aload_n (i := 0) d64_43 rfl rfl (by decide) ?_
    refine hl_gr d64_44 gM_7_64 ?_
    refine hl_iload_n (i := 2) d64_47 rfl rfl ?_
    obtain ⟨hb, h⟩ := hl_gd h
    refine hl_iald d64_48 sh65 (hl_b_in hb) ?_
    refine hl_cSi (D := D) (z := y66) (n := 1) (av := [.int (σ.1 65 s.toNatClampNeg)]) (st := []) d64_49 mlM_189 rfl (Nat.le_of_ble_eq_true rfl) (Nat.le_of_ble_eq_true rfl) ((p_M_isLetter D (σ.1 65 s.toNatClampNeg) σ rfl).dle (by omega)) ?_
    refine hl_if_eq (tg := 61) d64_52 rfl (fun hc => ?_) (fun hc => ?_)
    · have h := hl_pos hc h
      have h := Option.some.inj h
      subst h
      exact hl_loc (k2 s rfl) ⟨rfl, rfl, rfl, trivial⟩
    · have h := hl_neg hc h
      refine hl_iinc (ls2 := [(2, .int (s + 1)), (0, .ref 64), (1, .ref v1)]) d64_55 rfl kx1 (by decide) rfl ?_
      refine hl_goto (tg := 35) d64_58 rfl ?_
      have h := Option.some.inj h
      subst h
      exact hl_loc (k1 (s + 1) rfl) ⟨rfl, rfl, rfl, trivial⟩
set_option maxRecDepth 20000 in
theorem p_M_isHere_L76 {X : hl_X} (D : Nat) (v1 : Nat) (hv1 : v1 < 900) (σ : hl_M) (s : Int32) {o : (Int32) ⊕ ((Unit) ⊕ (Int32 × hl_M))} {v : Option Value} {τ : hl_M} (h : f_M_isHere_L76 v1 σ s = some o) (k1 : ∀ (c0 : Int32), o = .inl c0 → hl_R X (D + 1) y64 76 [(0, .ref 64), (1, .ref v1), (3, .int c0)] [] σ v τ) (k2 : o = .inr (.inl ()) → hl_R X (D + 1) y64 107 [] [] σ v τ) (kr : ∀ (a : Int32) (b : hl_M), o = .inr (.inr ((a, b))) → v = some (.int a) ∧ τ = b) : hl_R X (D + 1) y64 76 [(0, .ref 64), (1, .ref v1), (3, .int s)] [] σ v τ := by
  unfold f_M_isHere_L76 at h
  refine hl_iload_n (i := 3) d64_76 rfl rfl ?_
  refine hl_aload_n (i := 1) d64_77 rfl rfl (hl_ne9 hv1) ?_
  obtain ⟨hb, h⟩ := hl_gd h
  refine hl_alen (q := v1) d64_78 (hl_shx hb) (by decide) rfl ?_
  refine hl_icmp_ge (tg := 107) d64_79 rfl (fun hc => ?_) (fun hc => ?_)
  · have h := hl_pos hc h
    have h := Option.some.inj h
    subst h
    exact hl_loc (k2 rfl) trivial
  · have h := hl_neg hc h
    refine hl_aload_n (i := 0) d64_82 rfl rfl (by decide) ?_
    refine hl_gr d64_83 gM_7_64 ?_
    refine hl_aload_n (i := 0) d64_86 rfl rfl (by decide) ?_
    refine hl_gi d64_87 gM_179_64 ?_
    refine hl_iload_n (i := 3) d64_90 rfl rfl ?_
    refine hl_iadd d64_91 ?_
    obtain ⟨hb, h⟩ := hl_gd h
    refine hl_iald d64_92 sh65 (hl_b_in hb) ?_
    refine hl_aload_n (i := 1) d64_93 rfl rfl (hl_ne9 hv1) ?_
    refine hl_iload_n (i := 3) d64_94 rfl rfl ?_
    obtain ⟨hb, h⟩ := hl_gd h
    refine hl_cald (q := v1) d64_95 (hl_shx hb.1) (hl_b_in hb.2) ?_
    refine hl_icmp_eq (tg := 101) d64_96 rfl (fun hc => ?_) (fun hc => ?_)
    · have h := hl_pos hc h
      refine hl_iinc (ls2 := [(3, .int (s + 1)), (0, .ref 64), (1, .ref v1)]) d64_101 rfl kx1 (by decide) rfl ?_
      refine hl_goto (tg := 76) d64_104 rfl ?_
      have h := Option.some.inj h
      subst h
      exact hl_loc (k1 (s + 1) rfl) ⟨rfl, rfl, rfl, trivial⟩
    · have h := hl_neg hc h
      refine hl_iconst d64_99 ki0 ?_
      have h := Option.some.inj h
      subst h
      obtain ⟨e1, e2⟩ := kr 0 σ rfl
      subst e1; subst e2
      exact hl_zret d64_100 rfl (by decide)
set_option maxRecDepth 20000 in
theorem p_M_isHere {X : hl_X} (D : Nat) (v1 : Nat) (hv1 : v1 < 900) (σ : hl_M) {r : Int32} {τ : hl_M} (h : f_M_isHere v1 σ = some (r, τ)) : hl_R X (D + 1) y64 0 [(0, .ref 64), (1, .ref v1)] [] σ (some (.int r)) τ := by
  unfold f_M_isHere at h
  refine hl_aload_n (i := 0) d64_0 rfl rfl (by decide) ?_
  refine hl_gi d64_1 gM_173_64 ?_
  refine hl_if_ne (tg := 28) d64_4 rfl (fun hc => ?_) (fun hc => ?_)
  · have h := hl_neg hc h
    refine hl_iconst d64_28 ki0 ?_
    obtain ⟨e1, e2⟩ := hl_some2 h
    subst e1; subst e2
    exact hl_zret d64_29 rfl (by decide)
  · have h := hl_pos hc h
    refine hl_aload_n (i := 0) d64_7 rfl rfl (by decide) ?_
    obtain ⟨x1, hx1, h⟩ := hl_bind h
    refine hl_cVi (D := D) (z := y65) (n := 0) (av := []) (st := []) d64_8 mlM_185 rfl (Nat.le_of_ble_eq_true rfl) (Nat.le_of_ble_eq_true rfl) rc64 ((p_M_look D σ hx1).dle (by omega)) ?_
    refine hl_cSi (D := D) (z := y66) (n := 1) (av := [.int x1.1]) (st := []) d64_11 mlM_189 rfl (Nat.le_of_ble_eq_true rfl) (Nat.le_of_ble_eq_true rfl) ((p_M_isLetter D x1.1 x1.2 rfl).dle (by omega)) ?_
    refine hl_if_eq (tg := 28) d64_14 rfl (fun hc => ?_) (fun hc => ?_)
    · have h := hl_pos hc h
      refine hl_iconst d64_28 ki0 ?_
      obtain ⟨e1, e2⟩ := hl_some2 h
      subst e1; subst e2
      exact hl_zret d64_29 rfl (by decide)
    · have h := hl_neg hc h
      refine hl_aload_n (i := 0) d64_17 rfl rfl (by decide) ?_
      refine hl_gi d64_18 gM_179_64 ?_
      refine hl_aload_n (i := 0) d64_21 rfl rfl (by decide) ?_
      refine hl_gi d64_22 gM_193_64 ?_
      refine hl_icmp_ne (tg := 30) d64_25 rfl (fun hc => ?_) (fun hc => ?_)
      · have h := hl_neg hc h
        refine hl_aload_n (i := 0) d64_30 rfl rfl (by decide) ?_
        refine hl_gi d64_31 gM_179_64 ?_
        refine hl_istore_n (i := 2) (ls2 := [(2, .int (x1.2.1 64 2)), (0, .ref 64), (1, .ref v1)]) d64_34 rfl (by decide) rfl ?_
        obtain ⟨x2, hx2, h⟩ := hl_bind h
        refine hl_R.loc (ls' := [(0, .ref 64), (1, .ref v1), (2, .int (x1.2.1 64 2))]) ⟨rfl, rfl, rfl, trivial⟩ ?_
        refine hl_lp_run1 (P := fun (c0 : Int32) => hl_R X (D + 1) y64 35 [(0, .ref 64), (1, .ref v1), (2, .int c0)] [] x1.2 (some (.int r)) τ) (fun x : Int32 => hl_R X (D + 1) y64 61 [(0, .ref 64), (1, .ref v1), (2, .int x)] [] x1.2 (some (.int r)) τ) (fun c0 o ho h1 h2 => p_M_isHere_L35 D v1 hv1 x1.2 c0 ho h1 (fun a0 e => h2 a0 e)) hl_big (x1.2.1 64 2) x2 hx2 ?_
        refine hl_iload_n (i := 2) d64_61 rfl rfl ?_
        refine hl_aload_n (i := 0) d64_62 rfl rfl (by decide) ?_
        refine hl_gi d64_63 gM_179_64 ?_
        refine hl_isub d64_66 ?_
        refine hl_aload_n (i := 1) d64_67 rfl rfl (hl_ne9 hv1) ?_
        obtain ⟨hb, h⟩ := hl_gd h
        refine hl_alen (q := v1) d64_68 (hl_shx hb) (by decide) rfl ?_
        refine hl_icmp_eq (tg := 74) d64_69 rfl (fun hc => ?_) (fun hc => ?_)
        · have h := hl_pos hc h
          refine hl_iconst d64_74 ki0 ?_
          refine hl_istore_n (i := 3) (ls2 := [(3, .int 0), (0, .ref 64), (1, .ref v1), (2, .int x2)]) d64_75 rfl (by decide) rfl ?_
          obtain ⟨x3, hx3, h⟩ := hl_bind h
          refine hl_R.loc (ls' := [(0, .ref 64), (1, .ref v1), (3, .int 0)]) ⟨rfl, rfl, rfl, trivial⟩ ?_
          refine hl_lp_run1 (P := fun (c0 : Int32) => hl_R X (D + 1) y64 76 [(0, .ref 64), (1, .ref v1), (3, .int c0)] [] x1.2 (some (.int r)) τ) (Sum.elim (fun x : Unit => hl_R X (D + 1) y64 107 [] [] x1.2 (some (.int r)) τ) (fun a : Int32 × hl_M => ((some (.int r)) : Option Value) = some (.int a.1) ∧ τ = a.2)) (fun c0 o ho h1 h2 => p_M_isHere_L76 D v1 hv1 x1.2 c0 ho h1 (fun e => h2 (.inl ()) e) (fun a b e => h2 (.inr ((a, b))) e)) hl_big 0 x3 hx3 ?_
          rcases hl_sum h with ⟨x4, e_x4, h⟩ | ⟨x5, e_x5, h⟩
          · subst e_x4
            refine hl_iconst d64_107 ki1 ?_
            obtain ⟨e1, e2⟩ := hl_some2 h
            subst e1; subst e2
            exact hl_zret d64_108 rfl (by decide)
          · subst e_x5
            cases h
            exact ⟨rfl, rfl⟩
        · have h := hl_neg hc h
          refine hl_iconst d64_72 ki0 ?_
          obtain ⟨e1, e2⟩ := hl_some2 h
          subst e1; subst e2
          exact hl_zret d64_73 rfl (by decide)
      · have h := hl_pos hc h
        refine hl_iconst d64_28 ki0 ?_
        obtain ⟨e1, e2⟩ := hl_some2 h
        subst e1; subst e2
        exact hl_zret d64_29 rfl (by decide)
def f_M_takes (v1 : Nat) (σ : hl_M) : Option (Int32 × hl_M) :=
  (f_M_isHere v1 σ).bind fun x1 =>
  if x1.1 = 0 then
  some ((0, x1.2)) else
  if (hl_shp v1).1 = 103 then
  hl_let (hl_si (hl_si x1.2 64 2 ((x1.2.1 64 2) + (Int32.ofNat (hl_shp v1).2))) 64 4 ((hl_si x1.2 64 2 ((x1.2.1 64 2) + (Int32.ofNat (hl_shp v1).2))).1 64 2)) (fun σ2 =>
  some ((1, σ2))) else none
set_option maxRecDepth 20000 in
theorem p_M_takes {X : hl_X} (D : Nat) (v1 : Nat) (hv1 : v1 < 900) (σ : hl_M) {r : Int32} {τ : hl_M} (h : f_M_takes v1 σ = some (r, τ)) : hl_R X (D + 2) y63 0 [(0, .ref 64), (1, .ref v1)] [] σ (some (.int r)) τ := by
  unfold f_M_takes at h
  refine hl_aload_n (i := 0) d63_0 rfl rfl (by decide) ?_
  refine hl_aload_n (i := 1) d63_1 rfl rfl (hl_ne9 hv1) ?_
  obtain ⟨x1, hx1, h⟩ := hl_bind h
  refine hl_cVi (D := (D + 1)) (z := y64) (n := 1) (av := [.ref v1]) (st := []) d63_2 mlM_196 rfl (Nat.le_of_ble_eq_true rfl) (Nat.le_of_ble_eq_true rfl) rc64 ((p_M_isHere D v1 hv1 σ hx1).dle (by omega)) ?_
  refine hl_if_ne (tg := 10) d63_5 rfl (fun hc => ?_) (fun hc => ?_)
  · have h := hl_neg hc h
    refine hl_aload_n (i := 0) d63_10 rfl rfl (by decide) ?_
    refine hl_dup d63_11 rfl ?_
    refine hl_gi d63_12 gM_179_64 ?_
    refine hl_aload_n (i := 1) d63_15 rfl rfl (hl_ne9 hv1) ?_
    obtain ⟨hb, h⟩ := hl_gd h
    refine hl_alen (q := v1) d63_16 (hl_shx hb) (by decide) rfl ?_
    refine hl_iadd d63_17 ?_
    refine hl_pi d63_18 qM_179_64 ?_
    refine hl_aload_n (i := 0) d63_21 rfl rfl (by decide) ?_
    refine hl_aload_n (i := 0) d63_22 rfl rfl (by decide) ?_
    refine hl_gi d63_23 gM_179_64 ?_
    refine hl_pi d63_26 qM_193_64 ?_
    refine hl_nmm h (fun σ2 h => ?_)
    refine hl_iconst d63_29 ki1 ?_
    obtain ⟨e1, e2⟩ := hl_some2 h
    subst e1; subst e2
    exact hl_zret d63_30 rfl (by decide)
  · have h := hl_pos hc h
    refine hl_iconst d63_8 ki0 ?_
    obtain ⟨e1, e2⟩ := hl_some2 h
    subst e1; subst e2
    exact hl_zret d63_9 rfl (by decide)
def f_M_fail (v1 : Int32) (v2 : Int32) (σ : hl_M) : hl_M :=
  if (σ.1 64 5) = 0 then
  hl_si (hl_si σ 64 5 v1) 64 6 v2 else
  σ
set_option maxRecDepth 20000 in
theorem p_M_fail {X : hl_X} (D : Nat) (v1 : Int32) (v2 : Int32) (σ : hl_M) {τ : hl_M} (h : f_M_fail v1 v2 σ = τ) : hl_R X D y67 0 [(0, .ref 64), (1, .int v1), (2, .int v2)] [] σ none τ := by
  unfold f_M_fail at h
  refine hl_aload_n (i := 0) d67_0 rfl rfl (by decide) ?_
  refine hl_gi d67_1 gM_173_64 ?_
  refine hl_if_eq (tg := 8) d67_4 rfl (fun hc => ?_) (fun hc => ?_)
  · have h := hl_pos hc h
    refine hl_aload_n (i := 0) d67_8 rfl rfl (by decide) ?_
    refine hl_iload_n (i := 1) d67_9 rfl rfl ?_
    refine hl_pi d67_10 qM_173_64 ?_
    refine hl_aload_n (i := 0) d67_13 rfl rfl (by decide) ?_
    refine hl_iload_n (i := 2) d67_14 rfl rfl ?_
    refine hl_pi d67_15 qM_176_64 ?_
    subst h
    exact hl_vret d67_18 rfl
  · have h := hl_neg hc h
    subst h
    exact hl_vret d67_7 rfl
def f_M_asks (v1 : Nat) (σ : hl_M) : Option (hl_M) :=
  if (σ.1 64 5) = 0 then
  (f_M_takes v1 σ).bind fun x1 =>
  if x1.1 = 0 then
  some (f_M_fail 1 (x1.2.1 64 2) x1.2) else
  some x1.2 else
  some σ
set_option maxRecDepth 20000 in
theorem p_M_asks {X : hl_X} (D : Nat) (v1 : Nat) (hv1 : v1 < 900) (σ : hl_M) {τ : hl_M} (h : f_M_asks v1 σ = some τ) : hl_R X (D + 3) y62 0 [(0, .ref 64), (1, .ref v1)] [] σ none τ := by
  unfold f_M_asks at h
  refine hl_aload_n (i := 0) d62_0 rfl rfl (by decide) ?_
  refine hl_gi d62_1 gM_173_64 ?_
  refine hl_if_ne (tg := 24) d62_4 rfl (fun hc => ?_) (fun hc => ?_)
  · have h := hl_neg hc h
    have h := Option.some.inj h
    subst h
    exact hl_vret d62_24 rfl
  · have h := hl_pos hc h
    refine hl_aload_n (i := 0) d62_7 rfl rfl (by decide) ?_
    refine hl_aload_n (i := 1) d62_8 rfl rfl (hl_ne9 hv1) ?_
    obtain ⟨x1, hx1, h⟩ := hl_bind h
    refine hl_cVi (D := (D + 2)) (z := y63) (n := 1) (av := [.ref v1]) (st := []) d62_9 mlM_200 rfl (Nat.le_of_ble_eq_true rfl) (Nat.le_of_ble_eq_true rfl) rc64 ((p_M_takes D v1 hv1 σ hx1).dle (by omega)) ?_
    refine hl_if_ne (tg := 24) d62_12 rfl (fun hc => ?_) (fun hc => ?_)
    · have h := hl_neg hc h
      have h := Option.some.inj h
      subst h
      exact hl_vret d62_24 rfl
    · have h := hl_pos hc h
      refine hl_aload_n (i := 0) d62_15 rfl rfl (by decide) ?_
      refine hl_iconst d62_16 ki1 ?_
      refine hl_aload_n (i := 0) d62_17 rfl rfl (by decide) ?_
      refine hl_gi d62_18 gM_179_64 ?_
      refine hl_cVv (D := (D + 2)) (z := y67) (n := 2) (av := [.int 1, .int (x1.2.1 64 2)]) (st := []) d62_21 mlM_203 rfl (Nat.le_of_ble_eq_true rfl) (Nat.le_of_ble_eq_true rfl) rc64 ((p_M_fail D 1 (x1.2.1 64 2) x1.2 rfl).dle (by omega)) ?_
      have h := Option.some.inj h
      subst h
      exact hl_vret d62_24 rfl
def f_M_isDigit (v0 : Int32) : Int32 :=
  if v0 < 48 then
  0 else
  if 57 < v0 then
  0 else
  1
set_option maxRecDepth 20000 in
theorem p_M_isDigit {X : hl_X} (D : Nat) (v0 : Int32) (σ : hl_M) {r : Int32} (h : f_M_isDigit v0 = r) : hl_R X D y69 0 [(0, .int v0)] [] σ (some (.int r)) σ := by
  unfold f_M_isDigit at h
  refine hl_iload_n (i := 0) d69_0 rfl rfl ?_
  refine hl_bipush d69_1 kb48 ?_
  refine hl_icmp_lt (tg := 16) d69_3 rfl (fun hc => ?_) (fun hc => ?_)
  · have h := hl_pos hc h
    refine hl_iconst d69_16 ki0 ?_
    subst h
    exact hl_zret d69_17 rfl (by decide)
  · have h := hl_neg hc h
    refine hl_iload_n (i := 0) d69_6 rfl rfl ?_
    refine hl_bipush d69_7 kb57 ?_
    refine hl_icmp_gt (tg := 16) d69_9 rfl (fun hc => ?_) (fun hc => ?_)
    · have h := hl_pos hc h
      refine hl_iconst d69_16 ki0 ?_
      subst h
      exact hl_zret d69_17 rfl (by decide)
    · have h := hl_neg hc h
      refine hl_iconst d69_12 ki1 ?_
      refine hl_goto (tg := 17) d69_13 rfl ?_
      subst h
      exact hl_zret d69_17 rfl (by decide)
def f_M_isIn (v0 : Int64) (v2 : Int64) (v4 : Int64) : Int32 :=
  if v0 < v2 then
  0 else
  if v4 < v0 then
  0 else
  1
set_option maxRecDepth 20000 in
theorem p_M_isIn {X : hl_X} (D : Nat) (v0 : Int64) (v2 : Int64) (v4 : Int64) (σ : hl_M) {r : Int32} (h : f_M_isIn v0 v2 v4 = r) : hl_R X D y70 0 [(0, .long v0), (2, .long v2), (4, .long v4)] [] σ (some (.int r)) σ := by
  unfold f_M_isIn at h
  refine hl_lload_n (i := 0) d70_0 rfl rfl ?_
  refine hl_lload_n (i := 2) d70_1 rfl rfl ?_
  refine hl_lc_lt (tg := 17) d70_2 d70_3 rfl (fun hc => ?_) (fun hc => ?_)
  · have h := hl_pos hc h
    refine hl_iconst d70_17 ki0 ?_
    subst h
    exact hl_zret d70_18 rfl (by decide)
  · have h := hl_neg hc h
    refine hl_lload_n (i := 0) d70_6 rfl rfl ?_
    refine hl_lload d70_7 rfl ?_
    refine hl_lc_gt (tg := 17) d70_9 d70_10 rfl (fun hc => ?_) (fun hc => ?_)
    · have h := hl_pos hc h
      refine hl_iconst d70_17 ki0 ?_
      subst h
      exact hl_zret d70_18 rfl (by decide)
    · have h := hl_neg hc h
      refine hl_iconst d70_13 ki1 ?_
      refine hl_goto (tg := 18) d70_14 rfl ?_
      subst h
      exact hl_zret d70_18 rfl (by decide)
def f_M_number_j30 (σ : hl_M) : Option (Int32 × hl_M) :=
  some ((0, f_M_fail 1 (σ.1 64 2) σ))
def f_M_number_L49 (v1 : Int32) (v2 : Int32) (v3 : Int32) (s : Int32 × hl_M) : Option ((Int32 × hl_M) ⊕ ((Int32 × hl_M) ⊕ (hl_M))) :=
  if (s.2.1 64 3) ≤ (s.2.1 64 2) then
  some (.inr (.inl ((s.1, s.2)))) else
  if hl_b (s.2.1 64 2) 1600 then
  if (f_M_isDigit (s.2.1 65 (s.2.1 64 2).toNatClampNeg)) = 0 then
  some (.inr (.inl ((s.1, s.2)))) else
  if ((s.2.1 64 2) - v3) = 4 then
  some (.inr (.inr (s.2))) else
  if hl_b (s.2.1 64 2) 1600 then
  some (.inl ((((10 * s.1) + (s.2.1 65 (s.2.1 64 2).toNatClampNeg)) - 48, hl_si s.2 64 2 ((s.2.1 64 2) + 1)))) else none else none
def f_M_number (v1 : Int32) (v2 : Int32) (σ : hl_M) : Option (Int32 × hl_M) :=
  if (σ.1 64 5) = 0 then
  (f_M_look σ).bind fun x1 =>
  if (f_M_isDigit x1.1) = 0 then
  f_M_number_j30 x1.2 else
  if (x1.2.1 64 2) = (x1.2.1 64 4) then
  f_M_number_j30 x1.2 else
  (hl_lp (f_M_number_L49 v1 v2 (x1.2.1 64 2)) hl_big ((0, x1.2))).bind fun x2 =>
  Sum.elim (fun x3 =>
  if (f_M_isIn x3.1.toInt64 v1.toInt64 v2.toInt64) = 0 then
  some ((x3.1, f_M_fail 2 (x1.2.1 64 2) (hl_si (hl_si x3.2 64 4 (x3.2.1 64 2)) 64 9 (x1.2.1 64 2)))) else
  some ((x3.1, hl_si (hl_si x3.2 64 4 (x3.2.1 64 2)) 64 9 (x1.2.1 64 2)))) (fun x4 =>
  some ((0, f_M_fail 1 (x4.1 64 2) x4))) x2 else
  some ((0, σ))
set_option maxRecDepth 20000 in
theorem p_M_number_j30 {X : hl_X} (D : Nat) (σ : hl_M) {r : Int32} {τ : hl_M} (h : f_M_number_j30 σ = some (r, τ)) : hl_R X (D + 1) y68 30 [(0, .ref 64)] [] σ (some (.int r)) τ := by
  unfold f_M_number_j30 at h
  refine hl_aload_n (i := 0) d68_30 rfl rfl (by decide) ?_
  refine hl_iconst d68_31 ki1 ?_
  refine hl_aload_n (i := 0) d68_32 rfl rfl (by decide) ?_
  refine hl_gi d68_33 gM_179_64 ?_
  refine hl_cVv (D := D) (z := y67) (n := 2) (av := [.int 1, .int (σ.1 64 2)]) (st := []) d68_36 mlM_203 rfl (Nat.le_of_ble_eq_true rfl) (Nat.le_of_ble_eq_true rfl) rc64 ((p_M_fail D 1 (σ.1 64 2) σ rfl).dle (by omega)) ?_
  refine hl_iconst d68_39 ki0 ?_
  obtain ⟨e1, e2⟩ := hl_some2 h
  subst e1; subst e2
  exact hl_iret d68_40 rfl
set_option maxRecDepth 20000 in
theorem p_M_number_L49 {X : hl_X} (D : Nat) (v1 : Int32) (v2 : Int32) (v3 : Int32) (s : Int32 × hl_M) {o : (Int32 × hl_M) ⊕ ((Int32 × hl_M) ⊕ (hl_M))} {v : Option Value} {τ : hl_M} (h : f_M_number_L49 v1 v2 v3 s = some o) (k1 : ∀ (c0 : Int32) (c1 : hl_M), o = .inl ((c0, c1)) → hl_R X (D + 1) y68 49 [(0, .ref 64), (1, .int v1), (2, .int v2), (3, .int v3), (4, .int c0)] [] c1 v τ) (k2 : ∀ (a0 : Int32) (a1 : hl_M), o = .inr (.inl (a0, a1)) → hl_R X (D + 1) y68 129 [(0, .ref 64), (1, .int v1), (2, .int v2), (3, .int v3), (4, .int a0)] [] a1 v τ) (k3 : ∀ (a0 : hl_M), o = .inr (.inr (a0)) → hl_R X (D + 1) y68 85 [(0, .ref 64)] [] a0 v τ) : hl_R X (D + 1) y68 49 [(0, .ref 64), (1, .int v1), (2, .int v2), (3, .int v3), (4, .int s.1)] [] s.2 v τ := by
  unfold f_M_number_L49 at h
  refine hl_aload_n (i := 0) d68_49 rfl rfl (by decide) ?_
  refine hl_gi d68_50 gM_179_64 ?_
  refine hl_aload_n (i := 0) d68_53 rfl rfl (by decide) ?_
  refine hl_gi d68_54 gM_182_64 ?_
  refine hl_icmp_ge (tg := 129) d68_57 rfl (fun hc => ?_) (fun hc => ?_)
  · have h := hl_pos hc h
    have h := Option.some.inj h
    subst h
    exact hl_loc (k2 s.1 s.2 rfl) ⟨rfl, rfl, rfl, rfl, rfl, trivial⟩
  · have h := hl_neg hc h
    refine hl_aload_n (i := 0) d68_60 rfl rfl (by decide) ?_
    refine hl_gr d68_61 gM_7_64 ?_
    refine hl_aload_n (i := 0) d68_64 rfl rfl (by decide) ?_
    refine hl_gi d68_65 gM_179_64 ?_
    obtain ⟨hb, h⟩ := hl_gd h
    refine hl_iald d68_68 sh65 (hl_b_in hb) ?_
    refine hl_cSi (D := D) (z := y69) (n := 1) (av := [.int (s.2.1 65 (s.2.1 64 2).toNatClampNeg)]) (st := []) d68_69 mlM_210 rfl (Nat.le_of_ble_eq_true rfl) (Nat.le_of_ble_eq_true rfl) ((p_M_isDigit D (s.2.1 65 (s.2.1 64 2).toNatClampNeg) s.2 rfl).dle (by omega)) ?_
    refine hl_if_eq (tg := 129) d68_72 rfl (fun hc => ?_) (fun hc => ?_)
    · have h := hl_pos hc h
      have h := Option.some.inj h
      subst h
      exact hl_loc (k2 s.1 s.2 rfl) ⟨rfl, rfl, rfl, rfl, rfl, trivial⟩
    · have h := hl_neg hc h
      refine hl_aload_n (i := 0) d68_75 rfl rfl (by decide) ?_
      refine hl_gi d68_76 gM_179_64 ?_
      refine hl_iload_n (i := 3) d68_79 rfl rfl ?_
      refine hl_isub d68_80 ?_
      refine hl_iconst d68_81 ki4 ?_
      refine hl_icmp_ne (tg := 96) d68_82 rfl (fun hc => ?_) (fun hc => ?_)
      · have h := hl_neg hc h
        refine hl_bipush d68_96 kb10 ?_
        refine hl_iload d68_98 rfl ?_
        refine hl_imul d68_100 ?_
        refine hl_aload_n (i := 0) d68_101 rfl rfl (by decide) ?_
        refine hl_gr d68_102 gM_7_64 ?_
        refine hl_aload_n (i := 0) d68_105 rfl rfl (by decide) ?_
        refine hl_gi d68_106 gM_179_64 ?_
        obtain ⟨hb, h⟩ := hl_gd h
        refine hl_iald d68_109 sh65 (hl_b_in hb) ?_
        refine hl_iadd d68_110 ?_
        refine hl_bipush d68_111 kb48 ?_
        refine hl_isub d68_113 ?_
        refine hl_istore (ls2 := [(4, .int (((10 * s.1) + (s.2.1 65 (s.2.1 64 2).toNatClampNeg)) - 48)), (0, .ref 64), (1, .int v1), (2, .int v2), (3, .int v3)]) d68_114 (by decide) rfl ?_
        refine hl_aload_n (i := 0) d68_116 rfl rfl (by decide) ?_
        refine hl_dup d68_117 rfl ?_
        refine hl_gi d68_118 gM_179_64 ?_
        refine hl_iconst d68_121 ki1 ?_
        refine hl_iadd d68_122 ?_
        refine hl_pi d68_123 qM_179_64 ?_
        refine hl_goto (tg := 49) d68_126 rfl ?_
        have h := Option.some.inj h
        subst h
        exact hl_loc (k1 (((10 * s.1) + (s.2.1 65 (s.2.1 64 2).toNatClampNeg)) - 48) (hl_si s.2 64 2 ((s.2.1 64 2) + 1)) rfl) ⟨rfl, rfl, rfl, rfl, rfl, trivial⟩
      · have h := hl_pos hc h
        have h := Option.some.inj h
        subst h
        exact hl_loc (k3 s.2 rfl) ⟨rfl, trivial⟩
set_option maxRecDepth 20000 in
theorem p_M_number {X : hl_X} (D : Nat) (v1 : Int32) (v2 : Int32) (σ : hl_M) {r : Int32} {τ : hl_M} (h : f_M_number v1 v2 σ = some (r, τ)) : hl_R X (D + 1) y68 0 [(0, .ref 64), (1, .int v1), (2, .int v2)] [] σ (some (.int r)) τ := by
  unfold f_M_number at h
  refine hl_aload_n (i := 0) d68_0 rfl rfl (by decide) ?_
  refine hl_gi d68_1 gM_173_64 ?_
  refine hl_if_eq (tg := 9) d68_4 rfl (fun hc => ?_) (fun hc => ?_)
  · have h := hl_pos hc h
    refine hl_aload_n (i := 0) d68_9 rfl rfl (by decide) ?_
    obtain ⟨x1, hx1, h⟩ := hl_bind h
    refine hl_cVi (D := D) (z := y65) (n := 0) (av := []) (st := []) d68_10 mlM_185 rfl (Nat.le_of_ble_eq_true rfl) (Nat.le_of_ble_eq_true rfl) rc64 ((p_M_look D σ hx1).dle (by omega)) ?_
    refine hl_cSi (D := D) (z := y69) (n := 1) (av := [.int x1.1]) (st := []) d68_13 mlM_210 rfl (Nat.le_of_ble_eq_true rfl) (Nat.le_of_ble_eq_true rfl) ((p_M_isDigit D x1.1 x1.2 rfl).dle (by omega)) ?_
    refine hl_if_eq (tg := 30) d68_16 rfl (fun hc => ?_) (fun hc => ?_)
    · have h := hl_pos hc h
      exact hl_loc (p_M_number_j30 D x1.2 h) ⟨rfl, trivial⟩
    · have h := hl_neg hc h
      refine hl_aload_n (i := 0) d68_19 rfl rfl (by decide) ?_
      refine hl_gi d68_20 gM_179_64 ?_
      refine hl_aload_n (i := 0) d68_23 rfl rfl (by decide) ?_
      refine hl_gi d68_24 gM_193_64 ?_
      refine hl_icmp_ne (tg := 41) d68_27 rfl (fun hc => ?_) (fun hc => ?_)
      · have h := hl_neg hc h
        refine hl_aload_n (i := 0) d68_41 rfl rfl (by decide) ?_
        refine hl_gi d68_42 gM_179_64 ?_
        refine hl_istore_n (i := 3) (ls2 := [(3, .int (x1.2.1 64 2)), (0, .ref 64), (1, .int v1), (2, .int v2)]) d68_45 rfl (by decide) rfl ?_
        refine hl_iconst d68_46 ki0 ?_
        refine hl_istore (ls2 := [(4, .int 0), (3, .int (x1.2.1 64 2)), (0, .ref 64), (1, .int v1), (2, .int v2)]) d68_47 (by decide) rfl ?_
        obtain ⟨x2, hx2, h⟩ := hl_bind h
        refine hl_R.loc (ls' := [(0, .ref 64), (1, .int v1), (2, .int v2), (3, .int (x1.2.1 64 2)), (4, .int 0)]) ⟨rfl, rfl, rfl, rfl, rfl, trivial⟩ ?_
        refine hl_lp_run2 (P := fun (c0 : Int32) (c1 : hl_M) => hl_R X (D + 1) y68 49 [(0, .ref 64), (1, .int v1), (2, .int v2), (3, .int (x1.2.1 64 2)), (4, .int c0)] [] c1 (some (.int r)) τ) (Sum.elim (fun x : Int32 × hl_M => hl_R X (D + 1) y68 129 [(0, .ref 64), (1, .int v1), (2, .int v2), (3, .int (x1.2.1 64 2)), (4, .int x.1)] [] x.2 (some (.int r)) τ) (fun x : hl_M => hl_R X (D + 1) y68 85 [(0, .ref 64)] [] x (some (.int r)) τ)) (fun c0 c1 o ho h1 h2 => p_M_number_L49 D v1 v2 (x1.2.1 64 2) (c0, c1) ho h1 (fun a0 a1 e => h2 (.inl (a0, a1)) e) (fun a0 e => h2 (.inr (a0)) e)) hl_big 0 x1.2 x2 hx2 ?_
        rcases hl_sum h with ⟨x3, e_x3, h⟩ | ⟨x4, e_x4, h⟩
        · subst e_x3
          refine hl_aload_n (i := 0) d68_129 rfl rfl (by decide) ?_
          refine hl_aload_n (i := 0) d68_130 rfl rfl (by decide) ?_
          refine hl_gi d68_131 gM_179_64 ?_
          refine hl_pi d68_134 qM_193_64 ?_
          refine hl_aload_n (i := 0) d68_137 rfl rfl (by decide) ?_
          refine hl_iload_n (i := 3) d68_138 rfl rfl ?_
          refine hl_pi d68_139 qM_213_64 ?_
          refine hl_iload d68_142 rfl ?_
          refine hl_i2l d68_144 ?_
          refine hl_iload_n (i := 1) d68_145 rfl rfl ?_
          refine hl_i2l d68_146 ?_
          refine hl_iload_n (i := 2) d68_147 rfl rfl ?_
          refine hl_i2l d68_148 ?_
          refine hl_cSi (D := D) (z := y70) (n := 3) (av := [.long x3.1.toInt64, .long v1.toInt64, .long v2.toInt64]) (st := []) d68_149 mlM_216 rfl (Nat.le_of_ble_eq_true rfl) (Nat.le_of_ble_eq_true rfl) ((p_M_isIn D x3.1.toInt64 v1.toInt64 v2.toInt64 (hl_si (hl_si x3.2 64 4 (x3.2.1 64 2)) 64 9 (x1.2.1 64 2)) rfl).dle (by omega)) ?_
          refine hl_if_ne (tg := 161) d68_152 rfl (fun hc => ?_) (fun hc => ?_)
          · have h := hl_neg hc h
            refine hl_iload d68_161 rfl ?_
            obtain ⟨e1, e2⟩ := hl_some2 h
            subst e1; subst e2
            exact hl_iret d68_163 rfl
          · have h := hl_pos hc h
            refine hl_aload_n (i := 0) d68_155 rfl rfl (by decide) ?_
            refine hl_iconst d68_156 ki2 ?_
            refine hl_iload_n (i := 3) d68_157 rfl rfl ?_
            refine hl_cVv (D := D) (z := y67) (n := 2) (av := [.int 2, .int (x1.2.1 64 2)]) (st := []) d68_158 mlM_203 rfl (Nat.le_of_ble_eq_true rfl) (Nat.le_of_ble_eq_true rfl) rc64 ((p_M_fail D 2 (x1.2.1 64 2) (hl_si (hl_si x3.2 64 4 (x3.2.1 64 2)) 64 9 (x1.2.1 64 2)) rfl).dle (by omega)) ?_
            refine hl_iload d68_161 rfl ?_
            obtain ⟨e1, e2⟩ := hl_some2 h
            subst e1; subst e2
            exact hl_iret d68_163 rfl
        · subst e_x4
          refine hl_aload_n (i := 0) d68_85 rfl rfl (by decide) ?_
          refine hl_iconst d68_86 ki1 ?_
          refine hl_aload_n (i := 0) d68_87 rfl rfl (by decide) ?_
          refine hl_gi d68_88 gM_179_64 ?_
          refine hl_cVv (D := D) (z := y67) (n := 2) (av := [.int 1, .int (x4.1 64 2)]) (st := []) d68_91 mlM_203 rfl (Nat.le_of_ble_eq_true rfl) (Nat.le_of_ble_eq_true rfl) rc64 ((p_M_fail D 1 (x4.1 64 2) x4 rfl).dle (by omega)) ?_
          refine hl_iconst d68_94 ki0 ?_
          obtain ⟨e1, e2⟩ := hl_some2 h
          subst e1; subst e2
          exact hl_iret d68_95 rfl
      · have h := hl_pos hc h
        exact hl_loc (p_M_number_j30 D x1.2 h) ⟨rfl, trivial⟩
  · have h := hl_neg hc h
    refine hl_iconst d68_7 ki0 ?_
    obtain ⟨e1, e2⟩ := hl_some2 h
    subst e1; subst e2
    exact hl_iret d68_8 rfl
def f_M_takesSign (v1 : Int32) (σ : hl_M) : Option (Int32 × hl_M) :=
  if (σ.1 64 5) = 0 then
  (f_M_look σ).bind fun x1 =>
  if x1.1 = v1 then
  some ((1, hl_si x1.2 64 2 ((x1.2.1 64 2) + 1))) else
  some ((0, x1.2)) else
  some ((0, σ))
set_option maxRecDepth 20000 in
theorem p_M_takesSign {X : hl_X} (D : Nat) (v1 : Int32) (σ : hl_M) {r : Int32} {τ : hl_M} (h : f_M_takesSign v1 σ = some (r, τ)) : hl_R X (D + 1) y72 0 [(0, .ref 64), (1, .int v1)] [] σ (some (.int r)) τ := by
  unfold f_M_takesSign at h
  refine hl_aload_n (i := 0) d72_0 rfl rfl (by decide) ?_
  refine hl_gi d72_1 gM_173_64 ?_
  refine hl_if_ne (tg := 15) d72_4 rfl (fun hc => ?_) (fun hc => ?_)
  · have h := hl_neg hc h
    refine hl_iconst d72_15 ki0 ?_
    obtain ⟨e1, e2⟩ := hl_some2 h
    subst e1; subst e2
    exact hl_zret d72_16 rfl (by decide)
  · have h := hl_pos hc h
    refine hl_aload_n (i := 0) d72_7 rfl rfl (by decide) ?_
    obtain ⟨x1, hx1, h⟩ := hl_bind h
    refine hl_cVi (D := D) (z := y65) (n := 0) (av := []) (st := []) d72_8 mlM_185 rfl (Nat.le_of_ble_eq_true rfl) (Nat.le_of_ble_eq_true rfl) rc64 ((p_M_look D σ hx1).dle (by omega)) ?_
    refine hl_iload_n (i := 1) d72_11 rfl rfl ?_
    refine hl_icmp_eq (tg := 17) d72_12 rfl (fun hc => ?_) (fun hc => ?_)
    · have h := hl_pos hc h
      refine hl_aload_n (i := 0) d72_17 rfl rfl (by decide) ?_
      refine hl_dup d72_18 rfl ?_
      refine hl_gi d72_19 gM_179_64 ?_
      refine hl_iconst d72_22 ki1 ?_
      refine hl_iadd d72_23 ?_
      refine hl_pi d72_24 qM_179_64 ?_
      refine hl_iconst d72_27 ki1 ?_
      obtain ⟨e1, e2⟩ := hl_some2 h
      subst e1; subst e2
      exact hl_zret d72_28 rfl (by decide)
    · have h := hl_neg hc h
      refine hl_iconst d72_15 ki0 ?_
      obtain ⟨e1, e2⟩ := hl_some2 h
      subst e1; subst e2
      exact hl_zret d72_16 rfl (by decide)
def f_M_asksSign (v1 : Int32) (σ : hl_M) : Option (hl_M) :=
  if (σ.1 64 5) = 0 then
  (f_M_takesSign v1 σ).bind fun x1 =>
  if x1.1 = 0 then
  some (f_M_fail 1 (x1.2.1 64 2) x1.2) else
  some x1.2 else
  some σ
set_option maxRecDepth 20000 in
theorem p_M_asksSign {X : hl_X} (D : Nat) (v1 : Int32) (σ : hl_M) {τ : hl_M} (h : f_M_asksSign v1 σ = some τ) : hl_R X (D + 2) y71 0 [(0, .ref 64), (1, .int v1)] [] σ none τ := by
  unfold f_M_asksSign at h
  refine hl_aload_n (i := 0) d71_0 rfl rfl (by decide) ?_
  refine hl_gi d71_1 gM_173_64 ?_
  refine hl_if_ne (tg := 24) d71_4 rfl (fun hc => ?_) (fun hc => ?_)
  · have h := hl_neg hc h
    have h := Option.some.inj h
    subst h
    exact hl_vret d71_24 rfl
  · have h := hl_pos hc h
    refine hl_aload_n (i := 0) d71_7 rfl rfl (by decide) ?_
    refine hl_iload_n (i := 1) d71_8 rfl rfl ?_
    obtain ⟨x1, hx1, h⟩ := hl_bind h
    refine hl_cVi (D := (D + 1)) (z := y72) (n := 1) (av := [.int v1]) (st := []) d71_9 mlM_207 rfl (Nat.le_of_ble_eq_true rfl) (Nat.le_of_ble_eq_true rfl) rc64 ((p_M_takesSign D v1 σ hx1).dle (by omega)) ?_
    refine hl_if_ne (tg := 24) d71_12 rfl (fun hc => ?_) (fun hc => ?_)
    · have h := hl_neg hc h
      have h := Option.some.inj h
      subst h
      exact hl_vret d71_24 rfl
    · have h := hl_pos hc h
      refine hl_aload_n (i := 0) d71_15 rfl rfl (by decide) ?_
      refine hl_iconst d71_16 ki1 ?_
      refine hl_aload_n (i := 0) d71_17 rfl rfl (by decide) ?_
      refine hl_gi d71_18 gM_179_64 ?_
      refine hl_cVv (D := (D + 1)) (z := y67) (n := 2) (av := [.int 1, .int (x1.2.1 64 2)]) (st := []) d71_21 mlM_203 rfl (Nat.le_of_ble_eq_true rfl) (Nat.le_of_ble_eq_true rfl) rc64 ((p_M_fail D 1 (x1.2.1 64 2) x1.2 rfl).dle (by omega)) ?_
      have h := Option.some.inj h
      subst h
      exact hl_vret d71_24 rfl
def f_M_isFull_j23 (σ : hl_M) : Option (Int32 × hl_M) :=
  if (σ.1 64 5) = 0 then
  some ((0, σ)) else
  some ((1, σ))
def f_M_isFull (v1 : Int32) (v2 : Int32) (v3 : Int32) (σ : hl_M) : Option (Int32 × hl_M) :=
  if (σ.1 64 5) = 0 then
  if hl_b v1 6 then
  if (σ.1 75 v1.toNatClampNeg) = v2 then
  f_M_isFull_j23 (f_M_fail 5 v3 σ) else
  f_M_isFull_j23 σ else none else
  f_M_isFull_j23 σ
set_option maxRecDepth 20000 in
theorem p_M_isFull_j23 {X : hl_X} (D : Nat) (σ : hl_M) {r : Int32} {τ : hl_M} (h : f_M_isFull_j23 σ = some (r, τ)) : hl_R X (D + 1) y75 23 [(0, .ref 64)] [] σ (some (.int r)) τ := by
  unfold f_M_isFull_j23 at h
  refine hl_aload_n (i := 0) d75_23 rfl rfl (by decide) ?_
  refine hl_gi d75_24 gM_173_64 ?_
  refine hl_if_eq (tg := 34) d75_27 rfl (fun hc => ?_) (fun hc => ?_)
  · have h := hl_pos hc h
    refine hl_iconst d75_34 ki0 ?_
    obtain ⟨e1, e2⟩ := hl_some2 h
    subst e1; subst e2
    exact hl_zret d75_35 rfl (by decide)
  · have h := hl_neg hc h
    refine hl_iconst d75_30 ki1 ?_
    refine hl_goto (tg := 35) d75_31 rfl ?_
    obtain ⟨e1, e2⟩ := hl_some2 h
    subst e1; subst e2
    exact hl_zret d75_35 rfl (by decide)
set_option maxRecDepth 20000 in
theorem p_M_isFull {X : hl_X} (D : Nat) (v1 : Int32) (v2 : Int32) (v3 : Int32) (σ : hl_M) {r : Int32} {τ : hl_M} (h : f_M_isFull v1 v2 v3 σ = some (r, τ)) : hl_R X (D + 1) y75 0 [(0, .ref 64), (1, .int v1), (2, .int v2), (3, .int v3)] [] σ (some (.int r)) τ := by
  unfold f_M_isFull at h
  refine hl_aload_n (i := 0) d75_0 rfl rfl (by decide) ?_
  refine hl_gi d75_1 gM_173_64 ?_
  refine hl_if_ne (tg := 23) d75_4 rfl (fun hc => ?_) (fun hc => ?_)
  · have h := hl_neg hc h
    exact hl_loc (p_M_isFull_j23 D σ h) ⟨rfl, trivial⟩
  · have h := hl_pos hc h
    refine hl_aload_n (i := 0) d75_7 rfl rfl (by decide) ?_
    refine hl_gr d75_8 gM_45_64 ?_
    refine hl_iload_n (i := 1) d75_11 rfl rfl ?_
    obtain ⟨hb, h⟩ := hl_gd h
    refine hl_iald d75_12 sh75 (hl_b_in hb) ?_
    refine hl_iload_n (i := 2) d75_13 rfl rfl ?_
    refine hl_icmp_ne (tg := 23) d75_14 rfl (fun hc => ?_) (fun hc => ?_)
    · have h := hl_neg hc h
      exact hl_loc (p_M_isFull_j23 D σ h) ⟨rfl, trivial⟩
    · have h := hl_pos hc h
      refine hl_aload_n (i := 0) d75_17 rfl rfl (by decide) ?_
      refine hl_iconst d75_18 ki5 ?_
      refine hl_iload_n (i := 3) d75_19 rfl rfl ?_
      refine hl_cVv (D := D) (z := y67) (n := 2) (av := [.int 5, .int v3]) (st := []) d75_20 mlM_203 rfl (Nat.le_of_ble_eq_true rfl) (Nat.le_of_ble_eq_true rfl) rc64 ((p_M_fail D 5 v3 σ rfl).dle (by omega)) ?_
      exact hl_loc (p_M_isFull_j23 D (f_M_fail 5 v3 σ) h) ⟨rfl, trivial⟩
