def f_M_checked_L5 (v1 : Int32) (σ : hl_M) (s : Int32 × Int32) : Option ((Int32 × Int32) ⊕ (Int32)) :=
  if v1 ≤ s.2 then
  some (.inr s.1) else
  if hl_b s.2 142 then
  some (.inl ((((3 * s.1) + (σ.1 113 s.2.toNatClampNeg)) - ((3 * s.1) + (σ.1 113 s.2.toNatClampNeg)) / 251 * 251, s.2 + 1))) else none
def f_M_checked (v1 : Int32) (σ : hl_M) : Option (Int32) :=
  (hl_lp (f_M_checked_L5 v1 σ) hl_big ((109, 0))).bind fun x1 =>
  some x1
set_option maxRecDepth 20000 in
theorem p_M_checked_L5 {X : hl_X} (D : Nat) (v1 : Int32) (σ : hl_M) (s : Int32 × Int32) {o : (Int32 × Int32) ⊕ (Int32)} {v : Option Value} (h : f_M_checked_L5 v1 σ s = some o) (k1 : ∀ (c0 : Int32) (c1 : Int32), o = .inl ((c0, c1)) → hl_R X D y287 5 [(0, .ref 113), (1, .int v1), (2, .int c0), (3, .int c1)] [] σ v σ) (k2 : ∀ (a0 : Int32), o = .inr a0 → hl_R X D y287 28 [(2, .int a0)] [] σ v σ) : hl_R X D y287 5 [(0, .ref 113), (1, .int v1), (2, .int s.1), (3, .int s.2)] [] σ v σ := by
  unfold f_M_checked_L5 at h
  refine hl_iload_n (i := 3) d287_5 rfl rfl ?_
  refine hl_iload_n (i := 1) d287_6 rfl rfl ?_
  refine hl_icmp_ge (tg := 28) d287_7 rfl (fun hc => ?_) (fun hc => ?_)
  · have h := hl_pos hc h
    have h := Option.some.inj h
    subst h
    exact hl_loc (k2 s.1 rfl) ⟨rfl, trivial⟩
  · have h := hl_neg hc h
    refine hl_iconst d287_10 ki3 ?_
    refine hl_iload_n (i := 2) d287_11 rfl rfl ?_
    refine hl_imul d287_12 ?_
    refine hl_aload_n (i := 0) d287_13 rfl rfl (by decide) ?_
    refine hl_iload_n (i := 3) d287_14 rfl rfl ?_
    obtain ⟨hb, h⟩ := hl_gd h
    refine hl_iald d287_15 sh113 (hl_b_in hb) ?_
    refine hl_iadd d287_16 ?_
    refine hl_sipush d287_17 ks251 ?_
    refine hl_irem d287_20 (by decide) ?_
    refine hl_istore_n (i := 2) (ls2 := [(2, .int (((3 * s.1) + (σ.1 113 s.2.toNatClampNeg)) - ((3 * s.1) + (σ.1 113 s.2.toNatClampNeg)) / 251 * 251)), (0, .ref 113), (1, .int v1), (3, .int s.2)]) d287_21 rfl (by decide) rfl ?_
    refine hl_iinc (ls2 := [(3, .int (s.2 + 1)), (2, .int (((3 * s.1) + (σ.1 113 s.2.toNatClampNeg)) - ((3 * s.1) + (σ.1 113 s.2.toNatClampNeg)) / 251 * 251)), (0, .ref 113), (1, .int v1)]) d287_22 rfl kx1 (by decide) rfl ?_
    refine hl_goto (tg := 5) d287_25 rfl ?_
    have h := Option.some.inj h
    subst h
    exact hl_loc (k1 (((3 * s.1) + (σ.1 113 s.2.toNatClampNeg)) - ((3 * s.1) + (σ.1 113 s.2.toNatClampNeg)) / 251 * 251) (s.2 + 1) rfl) ⟨rfl, rfl, rfl, rfl, trivial⟩
set_option maxRecDepth 20000 in
theorem p_M_checked {X : hl_X} (D : Nat) (v1 : Int32) (σ : hl_M) {r : Int32} (h : f_M_checked v1 σ = some r) : hl_R X D y287 0 [(0, .ref 113), (1, .int v1)] [] σ (some (.int r)) σ := by
  unfold f_M_checked at h
  refine hl_bipush d287_0 kb109 ?_
  refine hl_istore_n (i := 2) (ls2 := [(2, .int 109), (0, .ref 113), (1, .int v1)]) d287_2 rfl (by decide) rfl ?_
  refine hl_iconst d287_3 ki0 ?_
  refine hl_istore_n (i := 3) (ls2 := [(3, .int 0), (2, .int 109), (0, .ref 113), (1, .int v1)]) d287_4 rfl (by decide) rfl ?_
  obtain ⟨x1, hx1, h⟩ := hl_bind h
  refine hl_R.loc (ls' := [(0, .ref 113), (1, .int v1), (2, .int 109), (3, .int 0)]) ⟨rfl, rfl, rfl, rfl, trivial⟩ ?_
  refine hl_lp_run2 (P := fun (c0 : Int32) (c1 : Int32) => hl_R X D y287 5 [(0, .ref 113), (1, .int v1), (2, .int c0), (3, .int c1)] [] σ (some (.int r)) σ) (fun x : Int32 => hl_R X D y287 28 [(2, .int x)] [] σ (some (.int r)) σ) (fun c0 c1 o ho h1 h2 => p_M_checked_L5 D v1 σ (c0, c1) ho h1 (fun a0 e => h2 a0 e)) hl_big 109 0 x1 hx1 ?_
  refine hl_iload_n (i := 2) d287_28 rfl rfl ?_
  have h := Option.some.inj h
  subst h
  exact hl_iret d287_29 rfl
def f_M_image_L17 (v1 : Int32) (s : Int32 × hl_M) : Option ((Int32 × hl_M) ⊕ (hl_M)) :=
  (f_M_stepMany v1 s.2).bind fun x2 =>
  if (2 + x2) ≤ s.1 then
  some (.inr s.2) else
  if hl_b ((151 + (15 * v1)) + s.1) 300 then
  if hl_b (s.2.1 64 82) 142 then
  some (.inl ((s.1 + 1, hl_si (hl_si s.2 113 (s.2.1 64 82).toNatClampNeg (s.2.1 78 ((151 + (15 * v1)) + s.1).toNatClampNeg)) 64 82 (((hl_si s.2 113 (s.2.1 64 82).toNatClampNeg (s.2.1 78 ((151 + (15 * v1)) + s.1).toNatClampNeg)).1 64 82) + 1)))) else none else none
def f_M_image_L7 (s : Int32 × hl_M) : Option ((Int32 × hl_M) ⊕ (hl_M)) :=
  (f_M_personMany s.2).bind fun x1 =>
  if x1 ≤ s.1 then
  some (.inr s.2) else
  (hl_lp (f_M_image_L17 s.1) hl_big ((0, s.2))).bind fun x3 =>
  some (.inl ((s.1 + 1, x3)))
def f_M_image (σ : hl_M) : Option (Int32 × hl_M) :=
  (hl_lp (f_M_image_L7) hl_big ((0, hl_si σ 64 82 0))).bind fun x4 =>
  (f_M_checked (x4.1 64 82) x4).bind fun x5 =>
  if hl_b (x4.1 64 82) 142 then
  hl_let (hl_si (hl_si x4 113 (x4.1 64 82).toNatClampNeg x5) 64 82 (((hl_si x4 113 (x4.1 64 82).toNatClampNeg x5).1 64 82) + 1)) (fun σ6 =>
  some ((σ6.1 64 82, σ6))) else none
set_option maxRecDepth 20000 in
theorem p_M_image_L17 {X : hl_X} (D : Nat) (v1 : Int32) (s : Int32 × hl_M) {o : (Int32 × hl_M) ⊕ (hl_M)} {v : Option Value} {τ : hl_M} (h : f_M_image_L17 v1 s = some o) (k1 : ∀ (c0 : Int32) (c1 : hl_M), o = .inl ((c0, c1)) → hl_R X (D + 1) y286 17 [(0, .ref 64), (1, .int v1), (2, .int c0)] [] c1 v τ) (k2 : ∀ (a0 : hl_M), o = .inr a0 → hl_R X (D + 1) y286 68 [(0, .ref 64), (1, .int v1)] [] a0 v τ) : hl_R X (D + 1) y286 17 [(0, .ref 64), (1, .int v1), (2, .int s.1)] [] s.2 v τ := by
  unfold f_M_image_L17 at h
  refine hl_iload_n (i := 2) d286_17 rfl rfl ?_
  refine hl_iconst d286_18 ki2 ?_
  refine hl_aload_n (i := 0) d286_19 rfl rfl (by decide) ?_
  refine hl_iload_n (i := 1) d286_20 rfl rfl ?_
  obtain ⟨x2, hx2, h⟩ := hl_bind h
  refine hl_cVi (D := D) (z := y95) (n := 1) (av := [.int v1]) (st := [.int 2, .int s.1]) d286_21 mlM_343 rfl (Nat.le_of_ble_eq_true rfl) (Nat.le_of_ble_eq_true rfl) rc64 ((p_M_stepMany D v1 s.2 hx2).dle (by omega)) ?_
  refine hl_iadd d286_24 ?_
  refine hl_icmp_ge (tg := 68) d286_25 rfl (fun hc => ?_) (fun hc => ?_)
  · have h := hl_pos hc h
    have h := Option.some.inj h
    subst h
    exact hl_loc (k2 s.2 rfl) ⟨rfl, rfl, trivial⟩
  · have h := hl_neg hc h
    refine hl_aload_n (i := 0) d286_28 rfl rfl (by decide) ?_
    refine hl_gr d286_29 gM_167_64 ?_
    refine hl_aload_n (i := 0) d286_32 rfl rfl (by decide) ?_
    refine hl_gi d286_33 gM_597_64 ?_
    refine hl_aload_n (i := 0) d286_36 rfl rfl (by decide) ?_
    refine hl_gr d286_37 gM_56_64 ?_
    refine hl_sipush d286_40 ks151 ?_
    refine hl_bipush d286_43 kb15 ?_
    refine hl_iload_n (i := 1) d286_45 rfl rfl ?_
    refine hl_imul d286_46 ?_
    refine hl_iadd d286_47 ?_
    refine hl_iload_n (i := 2) d286_48 rfl rfl ?_
    refine hl_iadd d286_49 ?_
    obtain ⟨hb, h⟩ := hl_gd h
    refine hl_iald d286_50 sh78 (hl_b_in hb) ?_
    obtain ⟨hb, h⟩ := hl_gd h
    refine hl_iast (q := 113) d286_51 sh113 (hl_b_in hb) ?_
    refine hl_aload_n (i := 0) d286_52 rfl rfl (by decide) ?_
    refine hl_dup d286_53 rfl ?_
    refine hl_gi d286_54 gM_597_64 ?_
    refine hl_iconst d286_57 ki1 ?_
    refine hl_iadd d286_58 ?_
    refine hl_pi d286_59 qM_597_64 ?_
    refine hl_iinc (ls2 := [(2, .int (s.1 + 1)), (0, .ref 64), (1, .int v1)]) d286_62 rfl kx1 (by decide) rfl ?_
    refine hl_goto (tg := 17) d286_65 rfl ?_
    have h := Option.some.inj h
    subst h
    exact hl_loc (k1 (s.1 + 1) (hl_si (hl_si s.2 113 (s.2.1 64 82).toNatClampNeg (s.2.1 78 ((151 + (15 * v1)) + s.1).toNatClampNeg)) 64 82 (((hl_si s.2 113 (s.2.1 64 82).toNatClampNeg (s.2.1 78 ((151 + (15 * v1)) + s.1).toNatClampNeg)).1 64 82) + 1)) rfl) ⟨rfl, rfl, rfl, trivial⟩
set_option maxRecDepth 20000 in
theorem p_M_image_L7 {X : hl_X} (D : Nat) (s : Int32 × hl_M) {o : (Int32 × hl_M) ⊕ (hl_M)} {v : Option Value} {τ : hl_M} (h : f_M_image_L7 s = some o) (k1 : ∀ (c0 : Int32) (c1 : hl_M), o = .inl ((c0, c1)) → hl_R X (D + 1) y286 7 [(0, .ref 64), (1, .int c0)] [] c1 v τ) (k2 : ∀ (a0 : hl_M), o = .inr a0 → hl_R X (D + 1) y286 74 [(0, .ref 64)] [] a0 v τ) : hl_R X (D + 1) y286 7 [(0, .ref 64), (1, .int s.1)] [] s.2 v τ := by
  unfold f_M_image_L7 at h
  refine hl_iload_n (i := 1) d286_7 rfl rfl ?_
  refine hl_aload_n (i := 0) d286_8 rfl rfl (by decide) ?_
  obtain ⟨x1, hx1, h⟩ := hl_bind h
  refine hl_cVi (D := D) (z := y93) (n := 0) (av := []) (st := [.int s.1]) d286_9 mlM_335 rfl (Nat.le_of_ble_eq_true rfl) (Nat.le_of_ble_eq_true rfl) rc64 ((p_M_personMany D s.2 hx1).dle (by omega)) ?_
  refine hl_icmp_ge (tg := 74) d286_12 rfl (fun hc => ?_) (fun hc => ?_)
  · have h := hl_pos hc h
    have h := Option.some.inj h
    subst h
    exact hl_loc (k2 s.2 rfl) ⟨rfl, trivial⟩
  · have h := hl_neg hc h
    refine hl_iconst d286_15 ki0 ?_
    refine hl_istore_n (i := 2) (ls2 := [(2, .int 0), (0, .ref 64), (1, .int s.1)]) d286_16 rfl (by decide) rfl ?_
    obtain ⟨x3, hx3, h⟩ := hl_bind h
    refine hl_R.loc (ls' := [(0, .ref 64), (1, .int s.1), (2, .int 0)]) ⟨rfl, rfl, rfl, trivial⟩ ?_
    refine hl_lp_run2 (P := fun (c0 : Int32) (c1 : hl_M) => hl_R X (D + 1) y286 17 [(0, .ref 64), (1, .int s.1), (2, .int c0)] [] c1 v τ) (fun x : hl_M => hl_R X (D + 1) y286 68 [(0, .ref 64), (1, .int s.1)] [] x v τ) (fun c0 c1 o ho h1 h2 => p_M_image_L17 D s.1 (c0, c1) ho h1 (fun a0 e => h2 a0 e)) hl_big 0 s.2 x3 hx3 ?_
    refine hl_iinc (ls2 := [(1, .int (s.1 + 1)), (0, .ref 64)]) d286_68 rfl kx1 (by decide) rfl ?_
    refine hl_goto (tg := 7) d286_71 rfl ?_
    have h := Option.some.inj h
    subst h
    exact hl_loc (k1 (s.1 + 1) x3 rfl) ⟨rfl, rfl, trivial⟩
set_option maxRecDepth 20000 in
theorem p_M_image {X : hl_X} (D : Nat) (σ : hl_M) {r : Int32} {τ : hl_M} (h : f_M_image σ = some (r, τ)) : hl_R X (D + 1) y286 0 [(0, .ref 64)] [] σ (some (.int r)) τ := by
  unfold f_M_image at h
  refine hl_aload_n (i := 0) d286_0 rfl rfl (by decide) ?_
  refine hl_iconst d286_1 ki0 ?_
  refine hl_pi d286_2 qM_597_64 ?_
  refine hl_iconst d286_5 ki0 ?_
  refine hl_istore_n (i := 1) (ls2 := [(1, .int 0), (0, .ref 64)]) d286_6 rfl (by decide) rfl ?_
  obtain ⟨x4, hx4, h⟩ := hl_bind h
  refine hl_R.loc (ls' := [(0, .ref 64), (1, .int 0)]) ⟨rfl, rfl, trivial⟩ ?_
  refine hl_lp_run2 (P := fun (c0 : Int32) (c1 : hl_M) => hl_R X (D + 1) y286 7 [(0, .ref 64), (1, .int c0)] [] c1 (some (.int r)) τ) (fun x : hl_M => hl_R X (D + 1) y286 74 [(0, .ref 64)] [] x (some (.int r)) τ) (fun c0 c1 o ho h1 h2 => p_M_image_L7 D (c0, c1) ho h1 (fun a0 e => h2 a0 e)) hl_big 0 (hl_si σ 64 82 0) x4 hx4 ?_
  refine hl_aload_n (i := 0) d286_74 rfl rfl (by decide) ?_
  refine hl_gr d286_75 gM_167_64 ?_
  refine hl_aload_n (i := 0) d286_78 rfl rfl (by decide) ?_
  refine hl_gi d286_79 gM_597_64 ?_
  refine hl_aload_n (i := 0) d286_82 rfl rfl (by decide) ?_
  refine hl_gr d286_83 gM_167_64 ?_
  refine hl_aload_n (i := 0) d286_86 rfl rfl (by decide) ?_
  refine hl_gi d286_87 gM_597_64 ?_
  obtain ⟨x5, hx5, h⟩ := hl_bind h
  refine hl_cSi (D := D) (z := y287) (n := 2) (av := [.ref 113, .int (x4.1 64 82)]) (st := [.int (x4.1 64 82), .ref 113]) d286_90 mlM_600 rfl (Nat.le_of_ble_eq_true rfl) (Nat.le_of_ble_eq_true rfl) ((p_M_checked D (x4.1 64 82) x4 hx5).dle (by omega)) ?_
  obtain ⟨hb, h⟩ := hl_gd h
  refine hl_iast (q := 113) d286_93 sh113 (hl_b_in hb) ?_
  refine hl_aload_n (i := 0) d286_94 rfl rfl (by decide) ?_
  refine hl_dup d286_95 rfl ?_
  refine hl_gi d286_96 gM_597_64 ?_
  refine hl_iconst d286_99 ki1 ?_
  refine hl_iadd d286_100 ?_
  refine hl_pi d286_101 qM_597_64 ?_
  refine hl_nmm h (fun σ6 h => ?_)
  refine hl_aload_n (i := 0) d286_104 rfl rfl (by decide) ?_
  refine hl_gi d286_105 gM_597_64 ?_
  obtain ⟨e1, e2⟩ := hl_some2 h
  subst e1; subst e2
  exact hl_iret d286_108 rfl
def f_X_octet (v1 : Int32) (σ : hl_M) : Option (Int32) :=
  if (f_X_within v1 (σ.1 62 2)) = 0 then
  some ((-1)) else
  if hl_b v1 141 then
  some (σ.1 63 v1.toNatClampNeg) else none
set_option maxRecDepth 20000 in
theorem p_X_octet {X : hl_X} (D : Nat) (v1 : Int32) (σ : hl_M) {r : Int32} (h : f_X_octet v1 σ = some r) : hl_R X (D + 1) y288 0 [(0, .ref 0), (1, .int v1)] [] σ (some (.int r)) σ := by
  unfold f_X_octet at h
  refine hl_iload_n (i := 1) d288_0 rfl rfl ?_
  refine hl_aload_n (i := 0) d288_1 rfl rfl (by decide) ?_
  refine hl_gr d288_2 gX_88_0 ?_
  refine hl_gi d288_5 gX_328_62 ?_
  refine hl_cSi (D := D) (z := y2) (n := 2) (av := [.int v1, .int (σ.1 62 2)]) (st := []) d288_8 mlX_154 rfl (Nat.le_of_ble_eq_true rfl) (Nat.le_of_ble_eq_true rfl) ((p_X_within D v1 (σ.1 62 2) σ rfl).dle (by omega)) ?_
  refine hl_if_eq (tg := 26) d288_11 rfl (fun hc => ?_) (fun hc => ?_)
  · have h := hl_pos hc h
    refine hl_iconst d288_26 kim1 ?_
    have h := Option.some.inj h
    subst h
    exact hl_iret d288_27 rfl
  · have h := hl_neg hc h
    refine hl_aload_n (i := 0) d288_14 rfl rfl (by decide) ?_
    refine hl_gr d288_15 gX_88_0 ?_
    refine hl_gr d288_18 gX_329_62 ?_
    refine hl_iload_n (i := 1) d288_21 rfl rfl ?_
    obtain ⟨hb, h⟩ := hl_gd h
    refine hl_iald d288_22 sh63 (hl_b_in hb) ?_
    refine hl_goto (tg := 27) d288_23 rfl ?_
    have h := Option.some.inj h
    subst h
    exact hl_iret d288_27 rfl
def f_M_octet (v1 : Int32) (σ : hl_M) : Option (Int32) :=
  if v1 < 0 then
  some ((-1)) else
  if (σ.1 64 82) ≤ v1 then
  some ((-1)) else
  if hl_b v1 142 then
  some (σ.1 113 v1.toNatClampNeg) else none
set_option maxRecDepth 20000 in
theorem p_M_octet {X : hl_X} (D : Nat) (v1 : Int32) (σ : hl_M) {r : Int32} (h : f_M_octet v1 σ = some r) : hl_R X D y289 0 [(0, .ref 64), (1, .int v1)] [] σ (some (.int r)) σ := by
  unfold f_M_octet at h
  refine hl_iload_n (i := 1) d289_0 rfl rfl ?_
  refine hl_if_lt (tg := 21) d289_1 rfl (fun hc => ?_) (fun hc => ?_)
  · have h := hl_pos hc h
    refine hl_iconst d289_21 kim1 ?_
    have h := Option.some.inj h
    subst h
    exact hl_iret d289_22 rfl
  · have h := hl_neg hc h
    refine hl_iload_n (i := 1) d289_4 rfl rfl ?_
    refine hl_aload_n (i := 0) d289_5 rfl rfl (by decide) ?_
    refine hl_gi d289_6 gM_597_64 ?_
    refine hl_icmp_ge (tg := 21) d289_9 rfl (fun hc => ?_) (fun hc => ?_)
    · have h := hl_pos hc h
      refine hl_iconst d289_21 kim1 ?_
      have h := Option.some.inj h
      subst h
      exact hl_iret d289_22 rfl
    · have h := hl_neg hc h
      refine hl_aload_n (i := 0) d289_12 rfl rfl (by decide) ?_
      refine hl_gr d289_13 gM_167_64 ?_
      refine hl_iload_n (i := 1) d289_16 rfl rfl ?_
      obtain ⟨hb, h⟩ := hl_gd h
      refine hl_iald d289_17 sh113 (hl_b_in hb) ?_
      refine hl_goto (tg := 22) d289_18 rfl ?_
      have h := Option.some.inj h
      subst h
      exact hl_iret d289_22 rfl
def f_Im_takeOver_L32 (v2 : Int32) (v3 : Int32) (v4 : Int32) (σ : hl_M) (s : Int64 × Int32) : Option ((Int64 × Int32) ⊕ (Int64)) :=
  if v4 ≤ s.2 then
  some (.inr s.1) else
  (f_Tape_at ((v2 + 2) + s.2) σ).bind fun x2 =>
  some (.inl ((s.1 ||| (f_X_placedStep x2 s.2), s.2 + 1)))
def f_Im_takeOver_L4 (s : Int32 × Int32 × hl_M) : Option ((Int32 × Int32 × hl_M) ⊕ (hl_M)) :=
  if (s.2.2.1 4 3) ≤ s.2.1 then
  some (.inr s.2.2) else
  (f_Tape_at (s.1 + 1) s.2.2).bind fun x1 =>
  (hl_lp (f_Im_takeOver_L32 s.1 s.2.1 x1 s.2.2) hl_big ((x1.toInt64, 0))).bind fun x3 =>
  (f_Tape_at s.1 s.2.2).bind fun x4 =>
  if hl_b s.2.1 10 then
  if hl_b s.2.1 10 then
  some (.inl ((s.1 + (2 + x1), s.2.1 + 1, hl_sl (hl_si s.2.2 7 s.2.1.toNatClampNeg x4) 8 s.2.1.toNatClampNeg x3))) else none else none
def f_Im_takeOver (σ : hl_M) : Option (hl_M) :=
  (hl_lp (f_Im_takeOver_L4) hl_big ((0, 0, σ))).bind fun x5 =>
  some x5
set_option maxRecDepth 20000 in
theorem p_Im_takeOver_L32 {X : hl_X} (D : Nat) (v2 : Int32) (v3 : Int32) (v4 : Int32) (σ : hl_M) (s : Int64 × Int32) {o : (Int64 × Int32) ⊕ (Int64)} {v : Option Value} {τ : hl_M} (h : f_Im_takeOver_L32 v2 v3 v4 σ s = some o) (k1 : ∀ (c0 : Int64) (c1 : Int32), o = .inl ((c0, c1)) → hl_R X (D + 1) y291 32 [(0, .ref 62), (1, .ref 1), (2, .int v2), (3, .int v3), (4, .int v4), (5, .long c0), (7, .int c1)] [] σ v τ) (k2 : ∀ (a0 : Int64), o = .inr a0 → hl_R X (D + 1) y291 65 [(0, .ref 62), (1, .ref 1), (2, .int v2), (3, .int v3), (4, .int v4), (5, .long a0)] [] σ v τ) : hl_R X (D + 1) y291 32 [(0, .ref 62), (1, .ref 1), (2, .int v2), (3, .int v3), (4, .int v4), (5, .long s.1), (7, .int s.2)] [] σ v τ := by
  unfold f_Im_takeOver_L32 at h
  refine hl_iload d291_32 rfl ?_
  refine hl_iload d291_34 rfl ?_
  refine hl_icmp_ge (tg := 65) d291_36 rfl (fun hc => ?_) (fun hc => ?_)
  · have h := hl_pos hc h
    have h := Option.some.inj h
    subst h
    exact hl_loc (k2 s.1 rfl) ⟨rfl, rfl, rfl, rfl, rfl, rfl, trivial⟩
  · have h := hl_neg hc h
    refine hl_lload d291_39 rfl ?_
    refine hl_aload_n (i := 1) d291_41 rfl rfl (by decide) ?_
    refine hl_iload_n (i := 2) d291_42 rfl rfl ?_
    refine hl_iconst d291_43 ki2 ?_
    refine hl_iadd d291_44 ?_
    refine hl_iload d291_45 rfl ?_
    refine hl_iadd d291_47 ?_
    obtain ⟨x2, hx2, h⟩ := hl_bind h
    refine hl_cVi (D := D) (z := y11) (n := 1) (av := [.int ((v2 + 2) + s.2)]) (st := [.long s.1]) d291_48 mlIm_54 rfl (Nat.le_of_ble_eq_true rfl) (Nat.le_of_ble_eq_true rfl) rc1 ((p_Tape_at D ((v2 + 2) + s.2) σ hx2).dle (by omega)) ?_
    refine hl_iload d291_51 rfl ?_
    refine hl_cNl (D := D) (z := y48) (n := 2) (av := [.int x2, .int s.2]) (st := [.long s.1]) d291_53 mlIm_61 rfl (Nat.le_of_ble_eq_true rfl) (Nat.le_of_ble_eq_true rfl) ((p_X_placedStep D x2 s.2 σ rfl).dle (by omega)) ?_
    refine hl_lor d291_56 ?_
    refine hl_lstore (ls2 := [(5, .long (s.1 ||| (f_X_placedStep x2 s.2))), (0, .ref 62), (1, .ref 1), (2, .int v2), (3, .int v3), (4, .int v4), (7, .int s.2)]) d291_57 (by decide) rfl ?_
    refine hl_iinc (ls2 := [(7, .int (s.2 + 1)), (5, .long (s.1 ||| (f_X_placedStep x2 s.2))), (0, .ref 62), (1, .ref 1), (2, .int v2), (3, .int v3), (4, .int v4)]) d291_59 rfl kx1 (by decide) rfl ?_
    refine hl_goto (tg := 32) d291_62 rfl ?_
    have h := Option.some.inj h
    subst h
    exact hl_loc (k1 (s.1 ||| (f_X_placedStep x2 s.2)) (s.2 + 1) rfl) ⟨rfl, rfl, rfl, rfl, rfl, rfl, rfl, trivial⟩
set_option maxRecDepth 20000 in
theorem p_Im_takeOver_L4 {X : hl_X} (D : Nat) (s : Int32 × Int32 × hl_M) {o : (Int32 × Int32 × hl_M) ⊕ (hl_M)} {v : Option Value} {τ : hl_M} (h : f_Im_takeOver_L4 s = some o) (k1 : ∀ (c0 : Int32) (c1 : Int32) (c2 : hl_M), o = .inl ((c0, c1, c2)) → hl_R X (D + 1) y291 4 [(0, .ref 62), (1, .ref 1), (2, .int c0), (3, .int c1)] [] c2 v τ) (k2 : ∀ (a0 : hl_M), o = .inr a0 → hl_R X (D + 1) y291 103 [] [] a0 v τ) : hl_R X (D + 1) y291 4 [(0, .ref 62), (1, .ref 1), (2, .int s.1), (3, .int s.2.1)] [] s.2.2 v τ := by
  unfold f_Im_takeOver_L4 at h
  refine hl_iload_n (i := 3) d291_4 rfl rfl ?_
  refine hl_aload_n (i := 0) d291_5 rfl rfl (by decide) ?_
  refine hl_gr d291_6 gIm_15_62 ?_
  refine hl_gi d291_9 gIm_23_4 ?_
  refine hl_icmp_ge (tg := 103) d291_12 rfl (fun hc => ?_) (fun hc => ?_)
  · have h := hl_pos hc h
    have h := Option.some.inj h
    subst h
    exact hl_loc (k2 s.2.2 rfl) trivial
  · have h := hl_neg hc h
    refine hl_aload_n (i := 1) d291_15 rfl rfl (by decide) ?_
    refine hl_iload_n (i := 2) d291_16 rfl rfl ?_
    refine hl_iconst d291_17 ki1 ?_
    refine hl_iadd d291_18 ?_
    obtain ⟨x1, hx1, h⟩ := hl_bind h
    refine hl_cVi (D := D) (z := y11) (n := 1) (av := [.int (s.1 + 1)]) (st := []) d291_19 mlIm_54 rfl (Nat.le_of_ble_eq_true rfl) (Nat.le_of_ble_eq_true rfl) rc1 ((p_Tape_at D (s.1 + 1) s.2.2 hx1).dle (by omega)) ?_
    refine hl_istore (ls2 := [(4, .int x1), (0, .ref 62), (1, .ref 1), (2, .int s.1), (3, .int s.2.1)]) d291_22 (by decide) rfl ?_
    refine hl_iload d291_24 rfl ?_
    refine hl_i2l d291_26 ?_
    refine hl_lstore (ls2 := [(5, .long x1.toInt64), (4, .int x1), (0, .ref 62), (1, .ref 1), (2, .int s.1), (3, .int s.2.1)]) d291_27 (by decide) rfl ?_
    refine hl_iconst d291_29 ki0 ?_
    refine hl_istore (ls2 := [(7, .int 0), (5, .long x1.toInt64), (4, .int x1), (0, .ref 62), (1, .ref 1), (2, .int s.1), (3, .int s.2.1)]) d291_30 (by decide) rfl ?_
    obtain ⟨x3, hx3, h⟩ := hl_bind h
    refine hl_R.loc (ls' := [(0, .ref 62), (1, .ref 1), (2, .int s.1), (3, .int s.2.1), (4, .int x1), (5, .long x1.toInt64), (7, .int 0)]) ⟨rfl, rfl, rfl, rfl, rfl, rfl, rfl, trivial⟩ ?_
    refine hl_lp_run2 (P := fun (c0 : Int64) (c1 : Int32) => hl_R X (D + 1) y291 32 [(0, .ref 62), (1, .ref 1), (2, .int s.1), (3, .int s.2.1), (4, .int x1), (5, .long c0), (7, .int c1)] [] s.2.2 v τ) (fun x : Int64 => hl_R X (D + 1) y291 65 [(0, .ref 62), (1, .ref 1), (2, .int s.1), (3, .int s.2.1), (4, .int x1), (5, .long x)] [] s.2.2 v τ) (fun c0 c1 o ho h1 h2 => p_Im_takeOver_L32 D s.1 s.2.1 x1 s.2.2 (c0, c1) ho h1 (fun a0 e => h2 a0 e)) hl_big x1.toInt64 0 x3 hx3 ?_
    refine hl_aload_n (i := 0) d291_65 rfl rfl (by decide) ?_
    refine hl_gr d291_66 gIm_15_62 ?_
    refine hl_gr d291_69 gIm_36_4 ?_
    refine hl_iload_n (i := 3) d291_72 rfl rfl ?_
    refine hl_aload_n (i := 1) d291_73 rfl rfl (by decide) ?_
    refine hl_iload_n (i := 2) d291_74 rfl rfl ?_
    obtain ⟨x4, hx4, h⟩ := hl_bind h
    refine hl_cVi (D := D) (z := y11) (n := 1) (av := [.int s.1]) (st := [.int s.2.1, .ref 7]) d291_75 mlIm_54 rfl (Nat.le_of_ble_eq_true rfl) (Nat.le_of_ble_eq_true rfl) rc1 ((p_Tape_at D s.1 s.2.2 hx4).dle (by omega)) ?_
    obtain ⟨hb, h⟩ := hl_gd h
    refine hl_iast (q := 7) d291_78 sh7 (hl_b_in hb) ?_
    refine hl_aload_n (i := 0) d291_79 rfl rfl (by decide) ?_
    refine hl_gr d291_80 gIm_15_62 ?_
    refine hl_gr d291_83 gIm_28_4 ?_
    refine hl_iload_n (i := 3) d291_86 rfl rfl ?_
    refine hl_lload d291_87 rfl ?_
    obtain ⟨hb, h⟩ := hl_gd h
    refine hl_last (q := 8) d291_89 sh8 (hl_b_in hb) ?_
    refine hl_iload_n (i := 2) d291_90 rfl rfl ?_
    refine hl_iconst d291_91 ki2 ?_
    refine hl_iload d291_92 rfl ?_
    refine hl_iadd d291_94 ?_
    refine hl_iadd d291_95 ?_
    refine hl_istore_n (i := 2) (ls2 := [(2, .int (s.1 + (2 + x1))), (0, .ref 62), (1, .ref 1), (3, .int s.2.1), (4, .int x1), (5, .long x3)]) d291_96 rfl (by decide) rfl ?_
    refine hl_iinc (ls2 := [(3, .int (s.2.1 + 1)), (2, .int (s.1 + (2 + x1))), (0, .ref 62), (1, .ref 1), (4, .int x1), (5, .long x3)]) d291_97 rfl kx1 (by decide) rfl ?_
    refine hl_goto (tg := 4) d291_100 rfl ?_
    have h := Option.some.inj h
    subst h
    exact hl_loc (k1 (s.1 + (2 + x1)) (s.2.1 + 1) (hl_sl (hl_si s.2.2 7 s.2.1.toNatClampNeg x4) 8 s.2.1.toNatClampNeg x3) rfl) ⟨rfl, rfl, rfl, rfl, trivial⟩
set_option maxRecDepth 20000 in
theorem p_Im_takeOver {X : hl_X} (D : Nat) (σ : hl_M) {τ : hl_M} (h : f_Im_takeOver σ = some τ) : hl_R X (D + 1) y291 0 [(0, .ref 62), (1, .ref 1)] [] σ none τ := by
  unfold f_Im_takeOver at h
  refine hl_iconst d291_0 ki0 ?_
  refine hl_istore_n (i := 2) (ls2 := [(2, .int 0), (0, .ref 62), (1, .ref 1)]) d291_1 rfl (by decide) rfl ?_
  refine hl_iconst d291_2 ki0 ?_
  refine hl_istore_n (i := 3) (ls2 := [(3, .int 0), (2, .int 0), (0, .ref 62), (1, .ref 1)]) d291_3 rfl (by decide) rfl ?_
  obtain ⟨x5, hx5, h⟩ := hl_bind h
  refine hl_R.loc (ls' := [(0, .ref 62), (1, .ref 1), (2, .int 0), (3, .int 0)]) ⟨rfl, rfl, rfl, rfl, trivial⟩ ?_
  refine hl_lp_run3 (P := fun (c0 : Int32) (c1 : Int32) (c2 : hl_M) => hl_R X (D + 1) y291 4 [(0, .ref 62), (1, .ref 1), (2, .int c0), (3, .int c1)] [] c2 none τ) (fun x : hl_M => hl_R X (D + 1) y291 103 [] [] x none τ) (fun c0 c1 c2 o ho h1 h2 => p_Im_takeOver_L4 D (c0, c1, c2) ho h1 (fun a0 e => h2 a0 e)) hl_big 0 0 σ x5 hx5 ?_
  have h := Option.some.inj h
  subst h
  exact hl_vret d291_103 rfl
def f_Im_isOn_L54 (v2 : Int32) (v3 : Int32) (v4 : Int32) (σ : hl_M) (s : Int32) : Option ((Int32) ⊕ ((Unit) ⊕ (Int32))) :=
  if v4 ≤ s then
  some (.inr (.inl (()))) else
  (f_Tape_at ((v2 + 2) + s) σ).bind fun x3 =>
  if (f_X_within x3 5) = 0 then
  some (.inr (.inr (0))) else
  some (.inl (s + 1))
def f_Im_isOn_L4 (σ : hl_M) (s : Int32 × Int32) : Option ((Int32 × Int32) ⊕ ((Int32) ⊕ (Int32))) :=
  if (σ.1 4 3) ≤ s.2 then
  some (.inr (.inl s.1)) else
  (f_Tape_at (s.1 + 1) σ).bind fun x1 =>
  (f_Tape_at s.1 σ).bind fun x2 =>
  if (f_X_within x2 3) = 0 then
  some (.inr (.inr (0))) else
  if x1 < 1 then
  some (.inr (.inr (0))) else
  if x1 ≤ 12 then
  (hl_lp (f_Im_isOn_L54 s.1 s.2 x1 σ) hl_big 0).bind fun x4 =>
  Sum.elim (fun x5 =>
  some (.inl ((s.1 + (2 + x1), s.2 + 1)))) (fun x6 =>
  some (.inr (.inr (x6)))) x4 else
  some (.inr (.inr (0)))
def f_Im_isOn_L105 (v2 : Int32) (σ : hl_M) (s : Int32 × Int32) : Option ((Int32 × Int32) ⊕ (Int32)) :=
  if v2 ≤ s.2 then
  some (.inr s.1) else
  (f_Tape_at s.2 σ).bind fun x9 =>
  some (.inl ((f_Im_summed s.1 x9, s.2 + 1)))
def f_Im_isOn (σ : hl_M) : Option (Int32) :=
  (hl_lp (f_Im_isOn_L4 σ) hl_big ((0, 0))).bind fun x7 =>
  Sum.elim (fun x8 =>
  (hl_lp (f_Im_isOn_L105 x8 σ) hl_big ((109, 0))).bind fun x10 =>
  if (σ.1 1 1) = (x8 + 1) then
  (f_Tape_at x8 σ).bind fun x11 =>
  if x11 = x10 then
  some 1 else
  some 0 else
  some 0) (fun x12 =>
  some x12) x7
set_option maxRecDepth 20000 in
theorem p_Im_isOn_L54 {X : hl_X} (D : Nat) (v2 : Int32) (v3 : Int32) (v4 : Int32) (σ : hl_M) (s : Int32) {o : (Int32) ⊕ ((Unit) ⊕ (Int32))} {v : Option Value} (h : f_Im_isOn_L54 v2 v3 v4 σ s = some o) (k1 : ∀ (c0 : Int32), o = .inl c0 → hl_R X (D + 1) y292 54 [(0, .ref 62), (1, .ref 1), (2, .int v2), (3, .int v3), (4, .int v4), (5, .int c0)] [] σ v σ) (k2 : o = .inr (.inl ()) → hl_R X (D + 1) y292 86 [(0, .ref 62), (1, .ref 1), (2, .int v2), (3, .int v3), (4, .int v4)] [] σ v σ) (kr : ∀ (a : Int32), o = .inr (.inr (a)) → v = some (.int a)) : hl_R X (D + 1) y292 54 [(0, .ref 62), (1, .ref 1), (2, .int v2), (3, .int v3), (4, .int v4), (5, .int s)] [] σ v σ := by
  unfold f_Im_isOn_L54 at h
  refine hl_iload d292_54 rfl ?_
  refine hl_iload d292_56 rfl ?_
  refine hl_icmp_ge (tg := 86) d292_58 rfl (fun hc => ?_) (fun hc => ?_)
  · have h := hl_pos hc h
    have h := Option.some.inj h
    subst h
    exact hl_loc (k2 rfl) ⟨rfl, rfl, rfl, rfl, rfl, trivial⟩
  · have h := hl_neg hc h
    refine hl_aload_n (i := 1) d292_61 rfl rfl (by decide) ?_
    refine hl_iload_n (i := 2) d292_62 rfl rfl ?_
    refine hl_iconst d292_63 ki2 ?_
    refine hl_iadd d292_64 ?_
    refine hl_iload d292_65 rfl ?_
    refine hl_iadd d292_67 ?_
    obtain ⟨x3, hx3, h⟩ := hl_bind h
    refine hl_cVi (D := D) (z := y11) (n := 1) (av := [.int ((v2 + 2) + s)]) (st := []) d292_68 mlIm_54 rfl (Nat.le_of_ble_eq_true rfl) (Nat.le_of_ble_eq_true rfl) rc1 ((p_Tape_at D ((v2 + 2) + s) σ hx3).dle (by omega)) ?_
    refine hl_iconst d292_71 ki5 ?_
    refine hl_cNi (D := D) (z := y2) (n := 2) (av := [.int x3, .int 5]) (st := []) d292_72 mlIm_47 rfl (Nat.le_of_ble_eq_true rfl) (Nat.le_of_ble_eq_true rfl) ((p_X_within D x3 5 σ rfl).dle (by omega)) ?_
    refine hl_if_ne (tg := 80) d292_75 rfl (fun hc => ?_) (fun hc => ?_)
    · have h := hl_neg hc h
      refine hl_iinc (ls2 := [(5, .int (s + 1)), (0, .ref 62), (1, .ref 1), (2, .int v2), (3, .int v3), (4, .int v4)]) d292_80 rfl kx1 (by decide) rfl ?_
      refine hl_goto (tg := 54) d292_83 rfl ?_
      have h := Option.some.inj h
      subst h
      exact hl_loc (k1 (s + 1) rfl) ⟨rfl, rfl, rfl, rfl, rfl, rfl, trivial⟩
    · have h := hl_pos hc h
      refine hl_iconst d292_78 ki0 ?_
      have h := Option.some.inj h
      subst h
      have e1 := kr 0 rfl
      subst e1
      exact hl_zret d292_79 rfl (by decide)
set_option maxRecDepth 20000 in
theorem p_Im_isOn_L4 {X : hl_X} (D : Nat) (σ : hl_M) (s : Int32 × Int32) {o : (Int32 × Int32) ⊕ ((Int32) ⊕ (Int32))} {v : Option Value} (h : f_Im_isOn_L4 σ s = some o) (k1 : ∀ (c0 : Int32) (c1 : Int32), o = .inl ((c0, c1)) → hl_R X (D + 1) y292 4 [(0, .ref 62), (1, .ref 1), (2, .int c0), (3, .int c1)] [] σ v σ) (k2 : ∀ (a0 : Int32), o = .inr (.inl a0) → hl_R X (D + 1) y292 99 [(1, .ref 1), (2, .int a0)] [] σ v σ) (kr : ∀ (a : Int32), o = .inr (.inr (a)) → v = some (.int a)) : hl_R X (D + 1) y292 4 [(0, .ref 62), (1, .ref 1), (2, .int s.1), (3, .int s.2)] [] σ v σ := by
  unfold f_Im_isOn_L4 at h
  refine hl_iload_n (i := 3) d292_4 rfl rfl ?_
  refine hl_aload_n (i := 0) d292_5 rfl rfl (by decide) ?_
  refine hl_gr d292_6 gIm_15_62 ?_
  refine hl_gi d292_9 gIm_23_4 ?_
  refine hl_icmp_ge (tg := 99) d292_12 rfl (fun hc => ?_) (fun hc => ?_)
  · have h := hl_pos hc h
    have h := Option.some.inj h
    subst h
    exact hl_loc (k2 s.1 rfl) ⟨rfl, rfl, trivial⟩
  · have h := hl_neg hc h
    refine hl_aload_n (i := 1) d292_15 rfl rfl (by decide) ?_
    refine hl_iload_n (i := 2) d292_16 rfl rfl ?_
    refine hl_iconst d292_17 ki1 ?_
    refine hl_iadd d292_18 ?_
    obtain ⟨x1, hx1, h⟩ := hl_bind h
    refine hl_cVi (D := D) (z := y11) (n := 1) (av := [.int (s.1 + 1)]) (st := []) d292_19 mlIm_54 rfl (Nat.le_of_ble_eq_true rfl) (Nat.le_of_ble_eq_true rfl) rc1 ((p_Tape_at D (s.1 + 1) σ hx1).dle (by omega)) ?_
    refine hl_istore (ls2 := [(4, .int x1), (0, .ref 62), (1, .ref 1), (2, .int s.1), (3, .int s.2)]) d292_22 (by decide) rfl ?_
    refine hl_aload_n (i := 1) d292_24 rfl rfl (by decide) ?_
    refine hl_iload_n (i := 2) d292_25 rfl rfl ?_
    obtain ⟨x2, hx2, h⟩ := hl_bind h
    refine hl_cVi (D := D) (z := y11) (n := 1) (av := [.int s.1]) (st := []) d292_26 mlIm_54 rfl (Nat.le_of_ble_eq_true rfl) (Nat.le_of_ble_eq_true rfl) rc1 ((p_Tape_at D s.1 σ hx2).dle (by omega)) ?_
    refine hl_iconst d292_29 ki3 ?_
    refine hl_cNi (D := D) (z := y2) (n := 2) (av := [.int x2, .int 3]) (st := []) d292_30 mlIm_47 rfl (Nat.le_of_ble_eq_true rfl) (Nat.le_of_ble_eq_true rfl) ((p_X_within D x2 3 σ rfl).dle (by omega)) ?_
    refine hl_if_eq (tg := 49) d292_33 rfl (fun hc => ?_) (fun hc => ?_)
    · have h := hl_pos hc h
      refine hl_iconst d292_49 ki0 ?_
      have h := Option.some.inj h
      subst h
      have e1 := kr 0 rfl
      subst e1
      exact hl_zret d292_50 rfl (by decide)
    · have h := hl_neg hc h
      refine hl_iload d292_36 rfl ?_
      refine hl_iconst d292_38 ki1 ?_
      refine hl_icmp_lt (tg := 49) d292_39 rfl (fun hc => ?_) (fun hc => ?_)
      · have h := hl_pos hc h
        refine hl_iconst d292_49 ki0 ?_
        have h := Option.some.inj h
        subst h
        have e1 := kr 0 rfl
        subst e1
        exact hl_zret d292_50 rfl (by decide)
      · have h := hl_neg hc h
        refine hl_iload d292_42 rfl ?_
        refine hl_bipush d292_44 kb12 ?_
        refine hl_icmp_le (tg := 51) d292_46 rfl (fun hc => ?_) (fun hc => ?_)
        · have h := hl_pos hc h
          refine hl_iconst d292_51 ki0 ?_
          refine hl_istore (ls2 := [(5, .int 0), (4, .int x1), (0, .ref 62), (1, .ref 1), (2, .int s.1), (3, .int s.2)]) d292_52 (by decide) rfl ?_
          obtain ⟨x4, hx4, h⟩ := hl_bind h
          refine hl_R.loc (ls' := [(0, .ref 62), (1, .ref 1), (2, .int s.1), (3, .int s.2), (4, .int x1), (5, .int 0)]) ⟨rfl, rfl, rfl, rfl, rfl, rfl, trivial⟩ ?_
          refine hl_lp_run1 (P := fun (c0 : Int32) => hl_R X (D + 1) y292 54 [(0, .ref 62), (1, .ref 1), (2, .int s.1), (3, .int s.2), (4, .int x1), (5, .int c0)] [] σ v σ) (Sum.elim (fun x : Unit => hl_R X (D + 1) y292 86 [(0, .ref 62), (1, .ref 1), (2, .int s.1), (3, .int s.2), (4, .int x1)] [] σ v σ) (fun a : Int32 => (v : Option Value) = some (.int a))) (fun c0 o ho h1 h2 => p_Im_isOn_L54 D s.1 s.2 x1 σ c0 ho h1 (fun e => h2 (.inl ()) e) (fun a e => h2 (.inr (a)) e)) hl_big 0 x4 hx4 ?_
          rcases hl_sum h with ⟨x5, e_x5, h⟩ | ⟨x6, e_x6, h⟩
          · subst e_x5
            refine hl_iload_n (i := 2) d292_86 rfl rfl ?_
            refine hl_iconst d292_87 ki2 ?_
            refine hl_iload d292_88 rfl ?_
            refine hl_iadd d292_90 ?_
            refine hl_iadd d292_91 ?_
            refine hl_istore_n (i := 2) (ls2 := [(2, .int (s.1 + (2 + x1))), (0, .ref 62), (1, .ref 1), (3, .int s.2), (4, .int x1)]) d292_92 rfl (by decide) rfl ?_
            refine hl_iinc (ls2 := [(3, .int (s.2 + 1)), (2, .int (s.1 + (2 + x1))), (0, .ref 62), (1, .ref 1), (4, .int x1)]) d292_93 rfl kx1 (by decide) rfl ?_
            refine hl_goto (tg := 4) d292_96 rfl ?_
            have h := Option.some.inj h
            subst h
            exact hl_loc (k1 (s.1 + (2 + x1)) (s.2 + 1) rfl) ⟨rfl, rfl, rfl, rfl, trivial⟩
          · subst e_x6
            have h := Option.some.inj h
            subst h
            exact kr _ rfl
        · have h := hl_neg hc h
          refine hl_iconst d292_49 ki0 ?_
          have h := Option.some.inj h
          subst h
          have e1 := kr 0 rfl
          subst e1
          exact hl_zret d292_50 rfl (by decide)
set_option maxRecDepth 20000 in
theorem p_Im_isOn_L105 {X : hl_X} (D : Nat) (v2 : Int32) (σ : hl_M) (s : Int32 × Int32) {o : (Int32 × Int32) ⊕ (Int32)} {v : Option Value} (h : f_Im_isOn_L105 v2 σ s = some o) (k1 : ∀ (c0 : Int32) (c1 : Int32), o = .inl ((c0, c1)) → hl_R X (D + 1) y292 105 [(1, .ref 1), (2, .int v2), (3, .int c0), (4, .int c1)] [] σ v σ) (k2 : ∀ (a0 : Int32), o = .inr a0 → hl_R X (D + 1) y292 128 [(1, .ref 1), (2, .int v2), (3, .int a0)] [] σ v σ) : hl_R X (D + 1) y292 105 [(1, .ref 1), (2, .int v2), (3, .int s.1), (4, .int s.2)] [] σ v σ := by
  unfold f_Im_isOn_L105 at h
  refine hl_iload d292_105 rfl ?_
  refine hl_iload_n (i := 2) d292_107 rfl rfl ?_
  refine hl_icmp_ge (tg := 128) d292_108 rfl (fun hc => ?_) (fun hc => ?_)
  · have h := hl_pos hc h
    have h := Option.some.inj h
    subst h
    exact hl_loc (k2 s.1 rfl) ⟨rfl, rfl, rfl, trivial⟩
  · have h := hl_neg hc h
    refine hl_iload_n (i := 3) d292_111 rfl rfl ?_
    refine hl_aload_n (i := 1) d292_112 rfl rfl (by decide) ?_
    refine hl_iload d292_113 rfl ?_
    obtain ⟨x9, hx9, h⟩ := hl_bind h
    refine hl_cVi (D := D) (z := y11) (n := 1) (av := [.int s.2]) (st := [.int s.1]) d292_115 mlIm_54 rfl (Nat.le_of_ble_eq_true rfl) (Nat.le_of_ble_eq_true rfl) rc1 ((p_Tape_at D s.2 σ hx9).dle (by omega)) ?_
    refine hl_cSi (D := D) (z := y285) (n := 2) (av := [.int s.1, .int x9]) (st := []) d292_118 mlIm_51 rfl (Nat.le_of_ble_eq_true rfl) (Nat.le_of_ble_eq_true rfl) ((p_Im_summed D s.1 x9 σ rfl).dle (by omega)) ?_
    refine hl_istore_n (i := 3) (ls2 := [(3, .int (f_Im_summed s.1 x9)), (1, .ref 1), (2, .int v2), (4, .int s.2)]) d292_121 rfl (by decide) rfl ?_
    refine hl_iinc (ls2 := [(4, .int (s.2 + 1)), (3, .int (f_Im_summed s.1 x9)), (1, .ref 1), (2, .int v2)]) d292_122 rfl kx1 (by decide) rfl ?_
    refine hl_goto (tg := 105) d292_125 rfl ?_
    have h := Option.some.inj h
    subst h
    exact hl_loc (k1 (f_Im_summed s.1 x9) (s.2 + 1) rfl) ⟨rfl, rfl, rfl, rfl, trivial⟩
set_option maxRecDepth 20000 in
theorem p_Im_isOn {X : hl_X} (D : Nat) (σ : hl_M) {r : Int32} (h : f_Im_isOn σ = some r) : hl_R X (D + 1) y292 0 [(0, .ref 62), (1, .ref 1)] [] σ (some (.int r)) σ := by
  unfold f_Im_isOn at h
  refine hl_iconst d292_0 ki0 ?_
  refine hl_istore_n (i := 2) (ls2 := [(2, .int 0), (0, .ref 62), (1, .ref 1)]) d292_1 rfl (by decide) rfl ?_
  refine hl_iconst d292_2 ki0 ?_
  refine hl_istore_n (i := 3) (ls2 := [(3, .int 0), (2, .int 0), (0, .ref 62), (1, .ref 1)]) d292_3 rfl (by decide) rfl ?_
  obtain ⟨x7, hx7, h⟩ := hl_bind h
  refine hl_R.loc (ls' := [(0, .ref 62), (1, .ref 1), (2, .int 0), (3, .int 0)]) ⟨rfl, rfl, rfl, rfl, trivial⟩ ?_
  refine hl_lp_run2 (P := fun (c0 : Int32) (c1 : Int32) => hl_R X (D + 1) y292 4 [(0, .ref 62), (1, .ref 1), (2, .int c0), (3, .int c1)] [] σ (some (.int r)) σ) (Sum.elim (fun x : Int32 => hl_R X (D + 1) y292 99 [(1, .ref 1), (2, .int x)] [] σ (some (.int r)) σ) (fun a : Int32 => ((some (.int r)) : Option Value) = some (.int a))) (fun c0 c1 o ho h1 h2 => p_Im_isOn_L4 D σ (c0, c1) ho h1 (fun a0 e => h2 (.inl a0) e) (fun a e => h2 (.inr (a)) e)) hl_big 0 0 x7 hx7 ?_
  rcases hl_sum h with ⟨x8, e_x8, h⟩ | ⟨x12, e_x12, h⟩
  · subst e_x8
    refine hl_bipush d292_99 kb109 ?_
    refine hl_istore_n (i := 3) (ls2 := [(3, .int 109), (1, .ref 1), (2, .int x8)]) d292_101 rfl (by decide) rfl ?_
    refine hl_iconst d292_102 ki0 ?_
    refine hl_istore (ls2 := [(4, .int 0), (3, .int 109), (1, .ref 1), (2, .int x8)]) d292_103 (by decide) rfl ?_
    obtain ⟨x10, hx10, h⟩ := hl_bind h
    refine hl_R.loc (ls' := [(1, .ref 1), (2, .int x8), (3, .int 109), (4, .int 0)]) ⟨rfl, rfl, rfl, rfl, trivial⟩ ?_
    refine hl_lp_run2 (P := fun (c0 : Int32) (c1 : Int32) => hl_R X (D + 1) y292 105 [(1, .ref 1), (2, .int x8), (3, .int c0), (4, .int c1)] [] σ (some (.int r)) σ) (fun x : Int32 => hl_R X (D + 1) y292 128 [(1, .ref 1), (2, .int x8), (3, .int x)] [] σ (some (.int r)) σ) (fun c0 c1 o ho h1 h2 => p_Im_isOn_L105 D x8 σ (c0, c1) ho h1 (fun a0 e => h2 a0 e)) hl_big 109 0 x10 hx10 ?_
    refine hl_aload_n (i := 1) d292_128 rfl rfl (by decide) ?_
    refine hl_gi d292_129 gIm_60_1 ?_
    refine hl_iload_n (i := 2) d292_132 rfl rfl ?_
    refine hl_iconst d292_133 ki1 ?_
    refine hl_iadd d292_134 ?_
    refine hl_icmp_ne (tg := 151) d292_135 rfl (fun hc => ?_) (fun hc => ?_)
    · have h := hl_neg hc h
      refine hl_iconst d292_151 ki0 ?_
      have h := Option.some.inj h
      subst h
      exact hl_zret d292_152 rfl (by decide)
    · have h := hl_pos hc h
      refine hl_aload_n (i := 1) d292_138 rfl rfl (by decide) ?_
      refine hl_iload_n (i := 2) d292_139 rfl rfl ?_
      obtain ⟨x11, hx11, h⟩ := hl_bind h
      refine hl_cVi (D := D) (z := y11) (n := 1) (av := [.int x8]) (st := []) d292_140 mlIm_54 rfl (Nat.le_of_ble_eq_true rfl) (Nat.le_of_ble_eq_true rfl) rc1 ((p_Tape_at D x8 σ hx11).dle (by omega)) ?_
      refine hl_iload_n (i := 3) d292_143 rfl rfl ?_
      refine hl_icmp_ne (tg := 151) d292_144 rfl (fun hc => ?_) (fun hc => ?_)
      · have h := hl_neg hc h
        refine hl_iconst d292_151 ki0 ?_
        have h := Option.some.inj h
        subst h
        exact hl_zret d292_152 rfl (by decide)
      · have h := hl_pos hc h
        refine hl_iconst d292_147 ki1 ?_
        refine hl_goto (tg := 152) d292_148 rfl ?_
        have h := Option.some.inj h
        subst h
        exact hl_zret d292_152 rfl (by decide)
  · subst e_x12
    cases h
    rfl
def f_X_on_j60 (v1 : Int32) (σ : hl_M) : Option (Int32 × hl_M) :=
  some ((vp_nar .boolean v1, hl_si σ 1 1 0))
def f_X_on_j29 (s0 : Int32) (σ : hl_M) : Option (Int32 × hl_M) :=
  if s0 = 0 then
  f_X_on_j60 s0 σ else
  (f_Im_takeOver σ).bind fun x1 =>
  (f_Wk_retraceAll x1).bind fun x2 =>
  f_X_on_j60 s0 (hl_si x2 58 3 0)
def f_X_on (σ : hl_M) : Option (Int32 × hl_M) :=
  if (σ.1 4 0) ≤ 0 then
  f_X_on_j29 0 σ else
  (f_Im_isOn σ).bind fun x3 =>
  if x3 = 0 then
  f_X_on_j29 0 σ else
  f_X_on_j29 1 σ
set_option maxRecDepth 20000 in
theorem p_X_on_j60 {X : hl_X} (D : Nat) (v1 : Int32) (σ : hl_M) {r : Int32} {τ : hl_M} (h : f_X_on_j60 v1 σ = some (r, τ)) : hl_R X (D + 5) y290 60 [(0, .ref 0), (1, .int v1)] [] σ (some (.int r)) τ := by
  unfold f_X_on_j60 at h
  refine hl_aload_n (i := 0) d290_60 rfl rfl (by decide) ?_
  refine hl_gr d290_61 gX_10_0 ?_
  refine hl_iconst d290_64 ki0 ?_
  refine hl_pi d290_65 qX_92_1 ?_
  refine hl_iload_n (i := 1) d290_68 rfl rfl ?_
  obtain ⟨e1, e2⟩ := hl_some2 h
  subst e1; subst e2
  exact hl_zret d290_69 rfl rfl
set_option maxRecDepth 20000 in
theorem p_X_on_j29 {X : hl_X} (D : Nat) (s0 : Int32) (σ : hl_M) {r : Int32} {τ : hl_M} (h : f_X_on_j29 s0 σ = some (r, τ)) : hl_R X (D + 5) y290 29 [(0, .ref 0)] [.int s0] σ (some (.int r)) τ := by
  unfold f_X_on_j29 at h
  refine hl_istore_n (i := 1) (ls2 := [(1, .int s0), (0, .ref 0)]) d290_29 rfl (by decide) rfl ?_
  refine hl_iload_n (i := 1) d290_30 rfl rfl ?_
  refine hl_if_eq (tg := 60) d290_31 rfl (fun hc => ?_) (fun hc => ?_)
  · have h := hl_pos hc h
    exact hl_loc (p_X_on_j60 D s0 σ h) ⟨rfl, rfl, trivial⟩
  · have h := hl_neg hc h
    refine hl_aload_n (i := 0) d290_34 rfl rfl (by decide) ?_
    refine hl_gr d290_35 gX_88_0 ?_
    refine hl_aload_n (i := 0) d290_38 rfl rfl (by decide) ?_
    refine hl_gr d290_39 gX_10_0 ?_
    obtain ⟨x1, hx1, h⟩ := hl_bind h
    refine hl_cVv (D := (D + 4)) (z := y291) (n := 1) (av := [.ref 1]) (st := []) d290_42 mlX_336 rfl (Nat.le_of_ble_eq_true rfl) (Nat.le_of_ble_eq_true rfl) rc62 ((p_Im_takeOver D σ hx1).dle (by omega)) ?_
    refine hl_aload_n (i := 0) d290_45 rfl rfl (by decide) ?_
    refine hl_gr d290_46 gX_49_0 ?_
    obtain ⟨x2, hx2, h⟩ := hl_bind h
    refine hl_cVv (D := (D + 4)) (z := y55) (n := 0) (av := []) (st := []) d290_49 mlX_107 rfl (Nat.le_of_ble_eq_true rfl) (Nat.le_of_ble_eq_true rfl) rc25 ((p_Wk_retraceAll D x1 hx2).dle (by omega)) ?_
    refine hl_aload_n (i := 0) d290_52 rfl rfl (by decide) ?_
    refine hl_gr d290_53 gX_81_0 ?_
    refine hl_iconst d290_56 ki0 ?_
    refine hl_pi d290_57 qX_110_58 ?_
    exact hl_loc (p_X_on_j60 D s0 (hl_si x2 58 3 0) h) ⟨rfl, rfl, trivial⟩
set_option maxRecDepth 20000 in
theorem p_X_on {X : hl_X} (D : Nat) (σ : hl_M) {r : Int32} {τ : hl_M} (h : f_X_on σ = some (r, τ)) : hl_R X (D + 5) y290 0 [(0, .ref 0)] [] σ (some (.int r)) τ := by
  unfold f_X_on at h
  refine hl_aload_n (i := 0) d290_0 rfl rfl (by decide) ?_
  refine hl_gr d290_1 gX_28_0 ?_
  refine hl_gi d290_4 gX_123_4 ?_
  refine hl_if_le (tg := 28) d290_7 rfl (fun hc => ?_) (fun hc => ?_)
  · have h := hl_pos hc h
    refine hl_iconst d290_28 ki0 ?_
    exact hl_loc (p_X_on_j29 D 0 σ h) ⟨rfl, trivial⟩
  · have h := hl_neg hc h
    refine hl_aload_n (i := 0) d290_10 rfl rfl (by decide) ?_
    refine hl_gr d290_11 gX_88_0 ?_
    refine hl_aload_n (i := 0) d290_14 rfl rfl (by decide) ?_
    refine hl_gr d290_15 gX_10_0 ?_
    obtain ⟨x3, hx3, h⟩ := hl_bind h
    refine hl_cVi (D := (D + 4)) (z := y292) (n := 1) (av := [.ref 1]) (st := []) d290_18 mlX_332 rfl (Nat.le_of_ble_eq_true rfl) (Nat.le_of_ble_eq_true rfl) rc62 ((p_Im_isOn D σ hx3).dle (by omega)) ?_
    refine hl_if_eq (tg := 28) d290_21 rfl (fun hc => ?_) (fun hc => ?_)
    · have h := hl_pos hc h
      refine hl_iconst d290_28 ki0 ?_
      exact hl_loc (p_X_on_j29 D 0 σ h) ⟨rfl, trivial⟩
    · have h := hl_neg hc h
      refine hl_iconst d290_24 ki1 ?_
      refine hl_goto (tg := 29) d290_25 rfl ?_
      exact hl_loc (p_X_on_j29 D 1 σ h) ⟨rfl, trivial⟩
def f_M_checked_2_L5 (v1 : Int32) (σ : hl_M) (s : Int32 × Int32) : Option ((Int32 × Int32) ⊕ (Int32)) :=
  if v1 ≤ s.2 then
  some (.inr s.1) else
  if hl_b s.2 1600 then
  some (.inl ((((3 * s.1) + (σ.1 65 s.2.toNatClampNeg)) - ((3 * s.1) + (σ.1 65 s.2.toNatClampNeg)) / 251 * 251, s.2 + 1))) else none
def f_M_checked_2 (v1 : Int32) (σ : hl_M) : Option (Int32) :=
  (hl_lp (f_M_checked_2_L5 v1 σ) hl_big ((109, 0))).bind fun x1 =>
  some x1
set_option maxRecDepth 20000 in
theorem p_M_checked_2_L5 {X : hl_X} (D : Nat) (v1 : Int32) (σ : hl_M) (s : Int32 × Int32) {o : (Int32 × Int32) ⊕ (Int32)} {v : Option Value} (h : f_M_checked_2_L5 v1 σ s = some o) (k1 : ∀ (c0 : Int32) (c1 : Int32), o = .inl ((c0, c1)) → hl_R X D y287 5 [(0, .ref 65), (1, .int v1), (2, .int c0), (3, .int c1)] [] σ v σ) (k2 : ∀ (a0 : Int32), o = .inr a0 → hl_R X D y287 28 [(2, .int a0)] [] σ v σ) : hl_R X D y287 5 [(0, .ref 65), (1, .int v1), (2, .int s.1), (3, .int s.2)] [] σ v σ := by
  unfold f_M_checked_2_L5 at h
  refine hl_iload_n (i := 3) d287_5 rfl rfl ?_
  refine hl_iload_n (i := 1) d287_6 rfl rfl ?_
  refine hl_icmp_ge (tg := 28) d287_7 rfl (fun hc => ?_) (fun hc => ?_)
  · have h := hl_pos hc h
    have h := Option.some.inj h
    subst h
    exact hl_loc (k2 s.1 rfl) ⟨rfl, trivial⟩
  · have h := hl_neg hc h
    refine hl_iconst d287_10 ki3 ?_
    refine hl_iload_n (i := 2) d287_11 rfl rfl ?_
    refine hl_imul d287_12 ?_
    refine hl_aload_n (i := 0) d287_13 rfl rfl (by decide) ?_
    refine hl_iload_n (i := 3) d287_14 rfl rfl ?_
    obtain ⟨hb, h⟩ := hl_gd h
    refine hl_iald d287_15 sh65 (hl_b_in hb) ?_
    refine hl_iadd d287_16 ?_
    refine hl_sipush d287_17 ks251 ?_
    refine hl_irem d287_20 (by decide) ?_
    refine hl_istore_n (i := 2) (ls2 := [(2, .int (((3 * s.1) + (σ.1 65 s.2.toNatClampNeg)) - ((3 * s.1) + (σ.1 65 s.2.toNatClampNeg)) / 251 * 251)), (0, .ref 65), (1, .int v1), (3, .int s.2)]) d287_21 rfl (by decide) rfl ?_
    refine hl_iinc (ls2 := [(3, .int (s.2 + 1)), (2, .int (((3 * s.1) + (σ.1 65 s.2.toNatClampNeg)) - ((3 * s.1) + (σ.1 65 s.2.toNatClampNeg)) / 251 * 251)), (0, .ref 65), (1, .int v1)]) d287_22 rfl kx1 (by decide) rfl ?_
    refine hl_goto (tg := 5) d287_25 rfl ?_
    have h := Option.some.inj h
    subst h
    exact hl_loc (k1 (((3 * s.1) + (σ.1 65 s.2.toNatClampNeg)) - ((3 * s.1) + (σ.1 65 s.2.toNatClampNeg)) / 251 * 251) (s.2 + 1) rfl) ⟨rfl, rfl, rfl, rfl, trivial⟩
set_option maxRecDepth 20000 in
theorem p_M_checked_2 {X : hl_X} (D : Nat) (v1 : Int32) (σ : hl_M) {r : Int32} (h : f_M_checked_2 v1 σ = some r) : hl_R X D y287 0 [(0, .ref 65), (1, .int v1)] [] σ (some (.int r)) σ := by
  unfold f_M_checked_2 at h
  refine hl_bipush d287_0 kb109 ?_
  refine hl_istore_n (i := 2) (ls2 := [(2, .int 109), (0, .ref 65), (1, .int v1)]) d287_2 rfl (by decide) rfl ?_
  refine hl_iconst d287_3 ki0 ?_
  refine hl_istore_n (i := 3) (ls2 := [(3, .int 0), (2, .int 109), (0, .ref 65), (1, .int v1)]) d287_4 rfl (by decide) rfl ?_
  obtain ⟨x1, hx1, h⟩ := hl_bind h
  refine hl_R.loc (ls' := [(0, .ref 65), (1, .int v1), (2, .int 109), (3, .int 0)]) ⟨rfl, rfl, rfl, rfl, trivial⟩ ?_
  refine hl_lp_run2 (P := fun (c0 : Int32) (c1 : Int32) => hl_R X D y287 5 [(0, .ref 65), (1, .int v1), (2, .int c0), (3, .int c1)] [] σ (some (.int r)) σ) (fun x : Int32 => hl_R X D y287 28 [(2, .int x)] [] σ (some (.int r)) σ) (fun c0 c1 o ho h1 h2 => p_M_checked_2_L5 D v1 σ (c0, c1) ho h1 (fun a0 e => h2 a0 e)) hl_big 109 0 x1 hx1 ?_
  refine hl_iload_n (i := 2) d287_28 rfl rfl ?_
  have h := Option.some.inj h
  subst h
  exact hl_iret d287_29 rfl
def f_M_isTold_L110 (v1 : Int32) (v2 : Int32) (v3 : Int32) (σ : hl_M) (s : Int32) : Option ((Int32) ⊕ ((Unit) ⊕ (Int32))) :=
  if hl_b (v2 + 1) 1600 then
  if ((v2 + 2) + (σ.1 65 (v2 + 1).toNatClampNeg)) ≤ s then
  some (.inr (.inl (()))) else
  if hl_b s 1600 then
  if (σ.1 65 s.toNatClampNeg) ≤ 4 then
  some (.inl (s + 1)) else
  some (.inr (.inr (0))) else none else none
def f_M_isTold_L39 (v1 : Int32) (σ : hl_M) (s : Int32 × Int32) : Option ((Int32 × Int32) ⊕ ((Int32) ⊕ (Int32))) :=
  (f_M_personMany σ).bind fun x2 =>
  if x2 ≤ s.2 then
  some (.inr (.inl s.1)) else
  if (v1 - 1) < (s.1 + 2) then
  some (.inr (.inr (0))) else
  if hl_b s.1 1600 then
  if 2 < (σ.1 65 s.1.toNatClampNeg) then
  some (.inr (.inr (0))) else
  if hl_b (s.1 + 1) 1600 then
  if (f_M_isIn ((σ.1 65 (s.1 + 1).toNatClampNeg).toInt64) 1 12) = 0 then
  some (.inr (.inr (0))) else
  if hl_b (s.1 + 1) 1600 then
  if ((s.1 + 2) + (σ.1 65 (s.1 + 1).toNatClampNeg)) ≤ (v1 - 1) then
  (hl_lp (f_M_isTold_L110 v1 s.1 s.2 σ) hl_big (s.1 + 2)).bind fun x3 =>
  Sum.elim (fun x4 =>
  if hl_b (s.1 + 1) 1600 then
  some (.inl ((s.1 + (2 + (σ.1 65 (s.1 + 1).toNatClampNeg)), s.2 + 1))) else none) (fun x5 =>
  some (.inr (.inr (x5)))) x3 else
  some (.inr (.inr (0))) else none else none else none
def f_M_isTold (v1 : Int32) (σ : hl_M) : Option (Int32) :=
  if (σ.1 64 30) = 0 then
  some 0 else
  if v1 < 1 then
  some 0 else
  if hl_b (v1 - 1) 1600 then
  (f_M_checked_2 (v1 - 1) σ).bind fun x1 =>
  if (σ.1 65 (v1 - 1).toNatClampNeg) = x1 then
  (hl_lp (f_M_isTold_L39 v1 σ) hl_big ((0, 0))).bind fun x6 =>
  Sum.elim (fun x7 =>
  if x7 = (v1 - 1) then
  some 1 else
  some 0) (fun x8 =>
  some x8) x6 else
  some 0 else none
set_option maxRecDepth 20000 in
theorem p_M_isTold_L110 {X : hl_X} (D : Nat) (v1 : Int32) (v2 : Int32) (v3 : Int32) (σ : hl_M) (s : Int32) {o : (Int32) ⊕ ((Unit) ⊕ (Int32))} {v : Option Value} (h : f_M_isTold_L110 v1 v2 v3 σ s = some o) (k1 : ∀ (c0 : Int32), o = .inl c0 → hl_R X (D + 1) y294 110 [(0, .ref 64), (1, .int v1), (2, .int v2), (3, .int v3), (4, .int c0)] [] σ v σ) (k2 : o = .inr (.inl ()) → hl_R X (D + 1) y294 146 [(0, .ref 64), (1, .int v1), (2, .int v2), (3, .int v3)] [] σ v σ) (kr : ∀ (a : Int32), o = .inr (.inr (a)) → v = some (.int a)) : hl_R X (D + 1) y294 110 [(0, .ref 64), (1, .int v1), (2, .int v2), (3, .int v3), (4, .int s)] [] σ v σ := by
  unfold f_M_isTold_L110 at h
  refine hl_iload d294_110 rfl ?_
  refine hl_iload_n (i := 2) d294_112 rfl rfl ?_
  refine hl_iconst d294_113 ki2 ?_
  refine hl_iadd d294_114 ?_
  refine hl_aload_n (i := 0) d294_115 rfl rfl (by decide) ?_
  refine hl_gr d294_116 gM_7_64 ?_
  refine hl_iload_n (i := 2) d294_119 rfl rfl ?_
  refine hl_iconst d294_120 ki1 ?_
  refine hl_iadd d294_121 ?_
  obtain ⟨hb, h⟩ := hl_gd h
  refine hl_iald d294_122 sh65 (hl_b_in hb) ?_
  refine hl_iadd d294_123 ?_
  refine hl_icmp_ge (tg := 146) d294_124 rfl (fun hc => ?_) (fun hc => ?_)
  · have h := hl_pos hc h
    have h := Option.some.inj h
    subst h
    exact hl_loc (k2 rfl) ⟨rfl, rfl, rfl, rfl, trivial⟩
  · have h := hl_neg hc h
    refine hl_aload_n (i := 0) d294_127 rfl rfl (by decide) ?_
    refine hl_gr d294_128 gM_7_64 ?_
    refine hl_iload d294_131 rfl ?_
    obtain ⟨hb, h⟩ := hl_gd h
    refine hl_iald d294_133 sh65 (hl_b_in hb) ?_
    refine hl_iconst d294_134 ki4 ?_
    refine hl_icmp_le (tg := 140) d294_135 rfl (fun hc => ?_) (fun hc => ?_)
    · have h := hl_pos hc h
      refine hl_iinc (ls2 := [(4, .int (s + 1)), (0, .ref 64), (1, .int v1), (2, .int v2), (3, .int v3)]) d294_140 rfl kx1 (by decide) rfl ?_
      refine hl_goto (tg := 110) d294_143 rfl ?_
      have h := Option.some.inj h
      subst h
      exact hl_loc (k1 (s + 1) rfl) ⟨rfl, rfl, rfl, rfl, rfl, trivial⟩
    · have h := hl_neg hc h
      refine hl_iconst d294_138 ki0 ?_
      have h := Option.some.inj h
      subst h
      have e1 := kr 0 rfl
      subst e1
      exact hl_zret d294_139 rfl (by decide)
set_option maxRecDepth 20000 in
theorem p_M_isTold_L39 {X : hl_X} (D : Nat) (v1 : Int32) (σ : hl_M) (s : Int32 × Int32) {o : (Int32 × Int32) ⊕ ((Int32) ⊕ (Int32))} {v : Option Value} (h : f_M_isTold_L39 v1 σ s = some o) (k1 : ∀ (c0 : Int32) (c1 : Int32), o = .inl ((c0, c1)) → hl_R X (D + 1) y294 39 [(0, .ref 64), (1, .int v1), (2, .int c0), (3, .int c1)] [] σ v σ) (k2 : ∀ (a0 : Int32), o = .inr (.inl a0) → hl_R X (D + 1) y294 165 [(1, .int v1), (2, .int a0)] [] σ v σ) (kr : ∀ (a : Int32), o = .inr (.inr (a)) → v = some (.int a)) : hl_R X (D + 1) y294 39 [(0, .ref 64), (1, .int v1), (2, .int s.1), (3, .int s.2)] [] σ v σ := by
  unfold f_M_isTold_L39 at h
  refine hl_iload_n (i := 3) d294_39 rfl rfl ?_
  refine hl_aload_n (i := 0) d294_40 rfl rfl (by decide) ?_
  obtain ⟨x2, hx2, h⟩ := hl_bind h
  refine hl_cVi (D := D) (z := y93) (n := 0) (av := []) (st := [.int s.2]) d294_41 mlM_335 rfl (Nat.le_of_ble_eq_true rfl) (Nat.le_of_ble_eq_true rfl) rc64 ((p_M_personMany D σ hx2).dle (by omega)) ?_
  refine hl_icmp_ge (tg := 165) d294_44 rfl (fun hc => ?_) (fun hc => ?_)
  · have h := hl_pos hc h
    have h := Option.some.inj h
    subst h
    exact hl_loc (k2 s.1 rfl) ⟨rfl, rfl, trivial⟩
  · have h := hl_neg hc h
    refine hl_iload_n (i := 2) d294_47 rfl rfl ?_
    refine hl_iconst d294_48 ki2 ?_
    refine hl_iadd d294_49 ?_
    refine hl_iload_n (i := 1) d294_50 rfl rfl ?_
    refine hl_iconst d294_51 ki1 ?_
    refine hl_isub d294_52 ?_
    refine hl_icmp_gt (tg := 103) d294_53 rfl (fun hc => ?_) (fun hc => ?_)
    · have h := hl_pos hc h
      refine hl_iconst d294_103 ki0 ?_
      have h := Option.some.inj h
      subst h
      have e1 := kr 0 rfl
      subst e1
      exact hl_zret d294_104 rfl (by decide)
    · have h := hl_neg hc h
      refine hl_aload_n (i := 0) d294_56 rfl rfl (by decide) ?_
      refine hl_gr d294_57 gM_7_64 ?_
      refine hl_iload_n (i := 2) d294_60 rfl rfl ?_
      obtain ⟨hb, h⟩ := hl_gd h
      refine hl_iald d294_61 sh65 (hl_b_in hb) ?_
      refine hl_iconst d294_62 ki2 ?_
      refine hl_icmp_gt (tg := 103) d294_63 rfl (fun hc => ?_) (fun hc => ?_)
      · have h := hl_pos hc h
        refine hl_iconst d294_103 ki0 ?_
        have h := Option.some.inj h
        subst h
        have e1 := kr 0 rfl
        subst e1
        exact hl_zret d294_104 rfl (by decide)
      · have h := hl_neg hc h
        refine hl_aload_n (i := 0) d294_66 rfl rfl (by decide) ?_
        refine hl_gr d294_67 gM_7_64 ?_
        refine hl_iload_n (i := 2) d294_70 rfl rfl ?_
        refine hl_iconst d294_71 ki1 ?_
        refine hl_iadd d294_72 ?_
        obtain ⟨hb, h⟩ := hl_gd h
        refine hl_iald d294_73 sh65 (hl_b_in hb) ?_
        refine hl_i2l d294_74 ?_
        refine hl_lconst (x := 1) d294_75 (by decide) ?_
        refine hl_ldc2 d294_76 wlM_471 ?_
        refine hl_cSi (D := D) (z := y70) (n := 3) (av := [.long ((σ.1 65 (s.1 + 1).toNatClampNeg).toInt64), .long 1, .long 12]) (st := []) d294_79 mlM_216 rfl (Nat.le_of_ble_eq_true rfl) (Nat.le_of_ble_eq_true rfl) ((p_M_isIn D ((σ.1 65 (s.1 + 1).toNatClampNeg).toInt64) 1 12 σ rfl).dle (by omega)) ?_
        refine hl_if_eq (tg := 103) d294_82 rfl (fun hc => ?_) (fun hc => ?_)
        · have h := hl_pos hc h
          refine hl_iconst d294_103 ki0 ?_
          have h := Option.some.inj h
          subst h
          have e1 := kr 0 rfl
          subst e1
          exact hl_zret d294_104 rfl (by decide)
        · have h := hl_neg hc h
          refine hl_iload_n (i := 2) d294_85 rfl rfl ?_
          refine hl_iconst d294_86 ki2 ?_
          refine hl_iadd d294_87 ?_
          refine hl_aload_n (i := 0) d294_88 rfl rfl (by decide) ?_
          refine hl_gr d294_89 gM_7_64 ?_
          refine hl_iload_n (i := 2) d294_92 rfl rfl ?_
          refine hl_iconst d294_93 ki1 ?_
          refine hl_iadd d294_94 ?_
          obtain ⟨hb, h⟩ := hl_gd h
          refine hl_iald d294_95 sh65 (hl_b_in hb) ?_
          refine hl_iadd d294_96 ?_
          refine hl_iload_n (i := 1) d294_97 rfl rfl ?_
          refine hl_iconst d294_98 ki1 ?_
          refine hl_isub d294_99 ?_
          refine hl_icmp_le (tg := 105) d294_100 rfl (fun hc => ?_) (fun hc => ?_)
          · have h := hl_pos hc h
            refine hl_iload_n (i := 2) d294_105 rfl rfl ?_
            refine hl_iconst d294_106 ki2 ?_
            refine hl_iadd d294_107 ?_
            refine hl_istore (ls2 := [(4, .int (s.1 + 2)), (0, .ref 64), (1, .int v1), (2, .int s.1), (3, .int s.2)]) d294_108 (by decide) rfl ?_
            obtain ⟨x3, hx3, h⟩ := hl_bind h
            refine hl_R.loc (ls' := [(0, .ref 64), (1, .int v1), (2, .int s.1), (3, .int s.2), (4, .int (s.1 + 2))]) ⟨rfl, rfl, rfl, rfl, rfl, trivial⟩ ?_
            refine hl_lp_run1 (P := fun (c0 : Int32) => hl_R X (D + 1) y294 110 [(0, .ref 64), (1, .int v1), (2, .int s.1), (3, .int s.2), (4, .int c0)] [] σ v σ) (Sum.elim (fun x : Unit => hl_R X (D + 1) y294 146 [(0, .ref 64), (1, .int v1), (2, .int s.1), (3, .int s.2)] [] σ v σ) (fun a : Int32 => (v : Option Value) = some (.int a))) (fun c0 o ho h1 h2 => p_M_isTold_L110 D v1 s.1 s.2 σ c0 ho h1 (fun e => h2 (.inl ()) e) (fun a e => h2 (.inr (a)) e)) hl_big (s.1 + 2) x3 hx3 ?_
            rcases hl_sum h with ⟨x4, e_x4, h⟩ | ⟨x5, e_x5, h⟩
            · subst e_x4
              refine hl_iload_n (i := 2) d294_146 rfl rfl ?_
              refine hl_iconst d294_147 ki2 ?_
              refine hl_aload_n (i := 0) d294_148 rfl rfl (by decide) ?_
              refine hl_gr d294_149 gM_7_64 ?_
              refine hl_iload_n (i := 2) d294_152 rfl rfl ?_
              refine hl_iconst d294_153 ki1 ?_
              refine hl_iadd d294_154 ?_
              obtain ⟨hb, h⟩ := hl_gd h
              refine hl_iald d294_155 sh65 (hl_b_in hb) ?_
              refine hl_iadd d294_156 ?_
              refine hl_iadd d294_157 ?_
              refine hl_istore_n (i := 2) (ls2 := [(2, .int (s.1 + (2 + (σ.1 65 (s.1 + 1).toNatClampNeg)))), (0, .ref 64), (1, .int v1), (3, .int s.2)]) d294_158 rfl (by decide) rfl ?_
              refine hl_iinc (ls2 := [(3, .int (s.2 + 1)), (2, .int (s.1 + (2 + (σ.1 65 (s.1 + 1).toNatClampNeg)))), (0, .ref 64), (1, .int v1)]) d294_159 rfl kx1 (by decide) rfl ?_
              refine hl_goto (tg := 39) d294_162 rfl ?_
              have h := Option.some.inj h
              subst h
              exact hl_loc (k1 (s.1 + (2 + (σ.1 65 (s.1 + 1).toNatClampNeg))) (s.2 + 1) rfl) ⟨rfl, rfl, rfl, rfl, trivial⟩
            · subst e_x5
              have h := Option.some.inj h
              subst h
              exact kr _ rfl
          · have h := hl_neg hc h
            refine hl_iconst d294_103 ki0 ?_
            have h := Option.some.inj h
            subst h
            have e1 := kr 0 rfl
            subst e1
            exact hl_zret d294_104 rfl (by decide)
set_option maxRecDepth 20000 in
theorem p_M_isTold {X : hl_X} (D : Nat) (v1 : Int32) (σ : hl_M) {r : Int32} (h : f_M_isTold v1 σ = some r) : hl_R X (D + 1) y294 0 [(0, .ref 64), (1, .int v1)] [] σ (some (.int r)) σ := by
  unfold f_M_isTold at h
  refine hl_aload_n (i := 0) d294_0 rfl rfl (by decide) ?_
  refine hl_gi d294_1 gM_307_64 ?_
  refine hl_if_eq (tg := 33) d294_4 rfl (fun hc => ?_) (fun hc => ?_)
  · have h := hl_pos hc h
    refine hl_iconst d294_33 ki0 ?_
    have h := Option.some.inj h
    subst h
    exact hl_zret d294_34 rfl (by decide)
  · have h := hl_neg hc h
    refine hl_iload_n (i := 1) d294_7 rfl rfl ?_
    refine hl_iconst d294_8 ki1 ?_
    refine hl_icmp_lt (tg := 33) d294_9 rfl (fun hc => ?_) (fun hc => ?_)
    · have h := hl_pos hc h
      refine hl_iconst d294_33 ki0 ?_
      have h := Option.some.inj h
      subst h
      exact hl_zret d294_34 rfl (by decide)
    · have h := hl_neg hc h
      refine hl_aload_n (i := 0) d294_12 rfl rfl (by decide) ?_
      refine hl_gr d294_13 gM_7_64 ?_
      refine hl_iload_n (i := 1) d294_16 rfl rfl ?_
      refine hl_iconst d294_17 ki1 ?_
      refine hl_isub d294_18 ?_
      obtain ⟨hb, h⟩ := hl_gd h
      refine hl_iald d294_19 sh65 (hl_b_in hb) ?_
      refine hl_aload_n (i := 0) d294_20 rfl rfl (by decide) ?_
      refine hl_gr d294_21 gM_7_64 ?_
      refine hl_iload_n (i := 1) d294_24 rfl rfl ?_
      refine hl_iconst d294_25 ki1 ?_
      refine hl_isub d294_26 ?_
      obtain ⟨x1, hx1, h⟩ := hl_bind h
      refine hl_cSi (D := D) (z := y287) (n := 2) (av := [.ref 65, .int (v1 - 1)]) (st := [.int (σ.1 65 (v1 - 1).toNatClampNeg)]) d294_27 mlM_600 rfl (Nat.le_of_ble_eq_true rfl) (Nat.le_of_ble_eq_true rfl) ((p_M_checked_2 D (v1 - 1) σ hx1).dle (by omega)) ?_
      refine hl_icmp_eq (tg := 35) d294_30 rfl (fun hc => ?_) (fun hc => ?_)
      · have h := hl_pos hc h
        refine hl_iconst d294_35 ki0 ?_
        refine hl_istore_n (i := 2) (ls2 := [(2, .int 0), (0, .ref 64), (1, .int v1)]) d294_36 rfl (by decide) rfl ?_
        refine hl_iconst d294_37 ki0 ?_
        refine hl_istore_n (i := 3) (ls2 := [(3, .int 0), (2, .int 0), (0, .ref 64), (1, .int v1)]) d294_38 rfl (by decide) rfl ?_
        obtain ⟨x6, hx6, h⟩ := hl_bind h
        refine hl_R.loc (ls' := [(0, .ref 64), (1, .int v1), (2, .int 0), (3, .int 0)]) ⟨rfl, rfl, rfl, rfl, trivial⟩ ?_
        refine hl_lp_run2 (P := fun (c0 : Int32) (c1 : Int32) => hl_R X (D + 1) y294 39 [(0, .ref 64), (1, .int v1), (2, .int c0), (3, .int c1)] [] σ (some (.int r)) σ) (Sum.elim (fun x : Int32 => hl_R X (D + 1) y294 165 [(1, .int v1), (2, .int x)] [] σ (some (.int r)) σ) (fun a : Int32 => ((some (.int r)) : Option Value) = some (.int a))) (fun c0 c1 o ho h1 h2 => p_M_isTold_L39 D v1 σ (c0, c1) ho h1 (fun a0 e => h2 (.inl a0) e) (fun a e => h2 (.inr (a)) e)) hl_big 0 0 x6 hx6 ?_
        rcases hl_sum h with ⟨x7, e_x7, h⟩ | ⟨x8, e_x8, h⟩
        · subst e_x7
          refine hl_iload_n (i := 2) d294_165 rfl rfl ?_
          refine hl_iload_n (i := 1) d294_166 rfl rfl ?_
          refine hl_iconst d294_167 ki1 ?_
          refine hl_isub d294_168 ?_
          refine hl_icmp_ne (tg := 176) d294_169 rfl (fun hc => ?_) (fun hc => ?_)
          · have h := hl_neg hc h
            refine hl_iconst d294_176 ki0 ?_
            have h := Option.some.inj h
            subst h
            exact hl_zret d294_177 rfl (by decide)
          · have h := hl_pos hc h
            refine hl_iconst d294_172 ki1 ?_
            refine hl_goto (tg := 177) d294_173 rfl ?_
            have h := Option.some.inj h
            subst h
            exact hl_zret d294_177 rfl (by decide)
        · subst e_x8
          cases h
          rfl
      · have h := hl_neg hc h
        refine hl_iconst d294_33 ki0 ?_
        have h := Option.some.inj h
        subst h
        exact hl_zret d294_34 rfl (by decide)
def f_M_on_L45 (v2 : Int32) (v3 : Int32) (v4 : Int32) (s : Int32 × hl_M) : Option ((Int32 × hl_M) ⊕ (hl_M)) :=
  if (2 + v4) ≤ s.1 then
  some (.inr s.2) else
  if hl_b (v2 + s.1) 1600 then
  if hl_b ((151 + (15 * v3)) + s.1) 300 then
  some (.inl ((s.1 + 1, hl_si s.2 78 ((151 + (15 * v3)) + s.1).toNatClampNeg (s.2.1 65 (v2 + s.1).toNatClampNeg)))) else none else none
def f_M_on_L24 (s : Int32 × Int32 × hl_M) : Option ((Int32 × Int32 × hl_M) ⊕ (hl_M)) :=
  (f_M_personMany s.2.2).bind fun x2 =>
  if x2 ≤ s.2.1 then
  some (.inr s.2.2) else
  if hl_b (s.1 + 1) 1600 then
  (hl_lp (f_M_on_L45 s.1 s.2.1 (s.2.2.1 65 (s.1 + 1).toNatClampNeg)) hl_big ((0, s.2.2))).bind fun x3 =>
  some (.inl ((s.1 + (2 + (s.2.2.1 65 (s.1 + 1).toNatClampNeg)), s.2.1 + 1, x3))) else none
def f_M_on (σ : hl_M) : Option (Int32 × hl_M) :=
  (f_M_isTold (σ.1 64 1) (hl_si σ 64 1 0)).bind fun x1 =>
  if x1 = 0 then
  some ((0, hl_si σ 64 1 0)) else
  (hl_lp (f_M_on_L24) hl_big ((0, 0, hl_si σ 64 1 0))).bind fun x4 =>
  (f_M_walks (hl_si x4 64 50 0)).bind fun x5 =>
  some ((1, x5))
set_option maxRecDepth 20000 in
theorem p_M_on_L45 {X : hl_X} (D : Nat) (v2 : Int32) (v3 : Int32) (v4 : Int32) (s : Int32 × hl_M) {o : (Int32 × hl_M) ⊕ (hl_M)} {v : Option Value} {τ : hl_M} (h : f_M_on_L45 v2 v3 v4 s = some o) (k1 : ∀ (c0 : Int32) (c1 : hl_M), o = .inl ((c0, c1)) → hl_R X (D + 3) y293 45 [(0, .ref 64), (2, .int v2), (3, .int v3), (4, .int v4), (5, .int c0)] [] c1 v τ) (k2 : ∀ (a0 : hl_M), o = .inr a0 → hl_R X (D + 3) y293 85 [(0, .ref 64), (2, .int v2), (3, .int v3), (4, .int v4)] [] a0 v τ) : hl_R X (D + 3) y293 45 [(0, .ref 64), (2, .int v2), (3, .int v3), (4, .int v4), (5, .int s.1)] [] s.2 v τ := by
  unfold f_M_on_L45 at h
  refine hl_iload d293_45 rfl ?_
  refine hl_iconst d293_47 ki2 ?_
  refine hl_iload d293_48 rfl ?_
  refine hl_iadd d293_50 ?_
  refine hl_icmp_ge (tg := 85) d293_51 rfl (fun hc => ?_) (fun hc => ?_)
  · have h := hl_pos hc h
    have h := Option.some.inj h
    subst h
    exact hl_loc (k2 s.2 rfl) ⟨rfl, rfl, rfl, rfl, trivial⟩
  · have h := hl_neg hc h
    refine hl_aload_n (i := 0) d293_54 rfl rfl (by decide) ?_
    refine hl_gr d293_55 gM_56_64 ?_
    refine hl_sipush d293_58 ks151 ?_
    refine hl_bipush d293_61 kb15 ?_
    refine hl_iload_n (i := 3) d293_63 rfl rfl ?_
    refine hl_imul d293_64 ?_
    refine hl_iadd d293_65 ?_
    refine hl_iload d293_66 rfl ?_
    refine hl_iadd d293_68 ?_
    refine hl_aload_n (i := 0) d293_69 rfl rfl (by decide) ?_
    refine hl_gr d293_70 gM_7_64 ?_
    refine hl_iload_n (i := 2) d293_73 rfl rfl ?_
    refine hl_iload d293_74 rfl ?_
    refine hl_iadd d293_76 ?_
    obtain ⟨hb, h⟩ := hl_gd h
    refine hl_iald d293_77 sh65 (hl_b_in hb) ?_
    obtain ⟨hb, h⟩ := hl_gd h
    refine hl_iast (q := 78) d293_78 sh78 (hl_b_in hb) ?_
    refine hl_iinc (ls2 := [(5, .int (s.1 + 1)), (0, .ref 64), (2, .int v2), (3, .int v3), (4, .int v4)]) d293_79 rfl kx1 (by decide) rfl ?_
    refine hl_goto (tg := 45) d293_82 rfl ?_
    have h := Option.some.inj h
    subst h
    exact hl_loc (k1 (s.1 + 1) (hl_si s.2 78 ((151 + (15 * v3)) + s.1).toNatClampNeg (s.2.1 65 (v2 + s.1).toNatClampNeg)) rfl) ⟨rfl, rfl, rfl, rfl, rfl, trivial⟩
set_option maxRecDepth 20000 in
theorem p_M_on_L24 {X : hl_X} (D : Nat) (s : Int32 × Int32 × hl_M) {o : (Int32 × Int32 × hl_M) ⊕ (hl_M)} {v : Option Value} {τ : hl_M} (h : f_M_on_L24 s = some o) (k1 : ∀ (c0 : Int32) (c1 : Int32) (c2 : hl_M), o = .inl ((c0, c1, c2)) → hl_R X (D + 3) y293 24 [(0, .ref 64), (2, .int c0), (3, .int c1)] [] c2 v τ) (k2 : ∀ (a0 : hl_M), o = .inr a0 → hl_R X (D + 3) y293 98 [(0, .ref 64)] [] a0 v τ) : hl_R X (D + 3) y293 24 [(0, .ref 64), (2, .int s.1), (3, .int s.2.1)] [] s.2.2 v τ := by
  unfold f_M_on_L24 at h
  refine hl_iload_n (i := 3) d293_24 rfl rfl ?_
  refine hl_aload_n (i := 0) d293_25 rfl rfl (by decide) ?_
  obtain ⟨x2, hx2, h⟩ := hl_bind h
  refine hl_cVi (D := (D + 2)) (z := y93) (n := 0) (av := []) (st := [.int s.2.1]) d293_26 mlM_335 rfl (Nat.le_of_ble_eq_true rfl) (Nat.le_of_ble_eq_true rfl) rc64 ((p_M_personMany D s.2.2 hx2).dle (by omega)) ?_
  refine hl_icmp_ge (tg := 98) d293_29 rfl (fun hc => ?_) (fun hc => ?_)
  · have h := hl_pos hc h
    have h := Option.some.inj h
    subst h
    exact hl_loc (k2 s.2.2 rfl) ⟨rfl, trivial⟩
  · have h := hl_neg hc h
    refine hl_aload_n (i := 0) d293_32 rfl rfl (by decide) ?_
    refine hl_gr d293_33 gM_7_64 ?_
    refine hl_iload_n (i := 2) d293_36 rfl rfl ?_
    refine hl_iconst d293_37 ki1 ?_
    refine hl_iadd d293_38 ?_
    obtain ⟨hb, h⟩ := hl_gd h
    refine hl_iald d293_39 sh65 (hl_b_in hb) ?_
    refine hl_istore (ls2 := [(4, .int (s.2.2.1 65 (s.1 + 1).toNatClampNeg)), (0, .ref 64), (2, .int s.1), (3, .int s.2.1)]) d293_40 (by decide) rfl ?_
    refine hl_iconst d293_42 ki0 ?_
    refine hl_istore (ls2 := [(5, .int 0), (4, .int (s.2.2.1 65 (s.1 + 1).toNatClampNeg)), (0, .ref 64), (2, .int s.1), (3, .int s.2.1)]) d293_43 (by decide) rfl ?_
    obtain ⟨x3, hx3, h⟩ := hl_bind h
    refine hl_R.loc (ls' := [(0, .ref 64), (2, .int s.1), (3, .int s.2.1), (4, .int (s.2.2.1 65 (s.1 + 1).toNatClampNeg)), (5, .int 0)]) ⟨rfl, rfl, rfl, rfl, rfl, trivial⟩ ?_
    refine hl_lp_run2 (P := fun (c0 : Int32) (c1 : hl_M) => hl_R X (D + 3) y293 45 [(0, .ref 64), (2, .int s.1), (3, .int s.2.1), (4, .int (s.2.2.1 65 (s.1 + 1).toNatClampNeg)), (5, .int c0)] [] c1 v τ) (fun x : hl_M => hl_R X (D + 3) y293 85 [(0, .ref 64), (2, .int s.1), (3, .int s.2.1), (4, .int (s.2.2.1 65 (s.1 + 1).toNatClampNeg))] [] x v τ) (fun c0 c1 o ho h1 h2 => p_M_on_L45 D s.1 s.2.1 (s.2.2.1 65 (s.1 + 1).toNatClampNeg) (c0, c1) ho h1 (fun a0 e => h2 a0 e)) hl_big 0 s.2.2 x3 hx3 ?_
    refine hl_iload_n (i := 2) d293_85 rfl rfl ?_
    refine hl_iconst d293_86 ki2 ?_
    refine hl_iload d293_87 rfl ?_
    refine hl_iadd d293_89 ?_
    refine hl_iadd d293_90 ?_
    refine hl_istore_n (i := 2) (ls2 := [(2, .int (s.1 + (2 + (s.2.2.1 65 (s.1 + 1).toNatClampNeg)))), (0, .ref 64), (3, .int s.2.1), (4, .int (s.2.2.1 65 (s.1 + 1).toNatClampNeg))]) d293_91 rfl (by decide) rfl ?_
    refine hl_iinc (ls2 := [(3, .int (s.2.1 + 1)), (2, .int (s.1 + (2 + (s.2.2.1 65 (s.1 + 1).toNatClampNeg)))), (0, .ref 64), (4, .int (s.2.2.1 65 (s.1 + 1).toNatClampNeg))]) d293_92 rfl kx1 (by decide) rfl ?_
    refine hl_goto (tg := 24) d293_95 rfl ?_
    have h := Option.some.inj h
    subst h
    exact hl_loc (k1 (s.1 + (2 + (s.2.2.1 65 (s.1 + 1).toNatClampNeg))) (s.2.1 + 1) x3 rfl) ⟨rfl, rfl, rfl, trivial⟩
set_option maxRecDepth 20000 in
theorem p_M_on {X : hl_X} (D : Nat) (σ : hl_M) {r : Int32} {τ : hl_M} (h : f_M_on σ = some (r, τ)) : hl_R X (D + 3) y293 0 [(0, .ref 64)] [] σ (some (.int r)) τ := by
  unfold f_M_on at h
  refine hl_aload_n (i := 0) d293_0 rfl rfl (by decide) ?_
  refine hl_gi d293_1 gM_170_64 ?_
  refine hl_istore_n (i := 1) (ls2 := [(1, .int (σ.1 64 1)), (0, .ref 64)]) d293_4 rfl (by decide) rfl ?_
  refine hl_aload_n (i := 0) d293_5 rfl rfl (by decide) ?_
  refine hl_iconst d293_6 ki0 ?_
  refine hl_pi d293_7 qM_170_64 ?_
  refine hl_aload_n (i := 0) d293_10 rfl rfl (by decide) ?_
  refine hl_iload_n (i := 1) d293_11 rfl rfl ?_
  obtain ⟨x1, hx1, h⟩ := hl_bind h
  refine hl_cVi (D := (D + 2)) (z := y294) (n := 1) (av := [.int (σ.1 64 1)]) (st := []) d293_12 mlM_604 rfl (Nat.le_of_ble_eq_true rfl) (Nat.le_of_ble_eq_true rfl) rc64 ((p_M_isTold D (σ.1 64 1) (hl_si σ 64 1 0) hx1).dle (by omega)) ?_
  refine hl_if_ne (tg := 20) d293_15 rfl (fun hc => ?_) (fun hc => ?_)
  · have h := hl_neg hc h
    refine hl_iconst d293_20 ki0 ?_
    refine hl_istore_n (i := 2) (ls2 := [(2, .int 0), (1, .int (σ.1 64 1)), (0, .ref 64)]) d293_21 rfl (by decide) rfl ?_
    refine hl_iconst d293_22 ki0 ?_
    refine hl_istore_n (i := 3) (ls2 := [(3, .int 0), (2, .int 0), (1, .int (σ.1 64 1)), (0, .ref 64)]) d293_23 rfl (by decide) rfl ?_
    obtain ⟨x4, hx4, h⟩ := hl_bind h
    refine hl_R.loc (ls' := [(0, .ref 64), (2, .int 0), (3, .int 0)]) ⟨rfl, rfl, rfl, trivial⟩ ?_
    refine hl_lp_run3 (P := fun (c0 : Int32) (c1 : Int32) (c2 : hl_M) => hl_R X (D + 3) y293 24 [(0, .ref 64), (2, .int c0), (3, .int c1)] [] c2 (some (.int r)) τ) (fun x : hl_M => hl_R X (D + 3) y293 98 [(0, .ref 64)] [] x (some (.int r)) τ) (fun c0 c1 c2 o ho h1 h2 => p_M_on_L24 D (c0, c1, c2) ho h1 (fun a0 e => h2 a0 e)) hl_big 0 0 (hl_si σ 64 1 0) x4 hx4 ?_
    refine hl_aload_n (i := 0) d293_98 rfl rfl (by decide) ?_
    refine hl_iconst d293_99 ki0 ?_
    refine hl_pi d293_100 qM_313_64 ?_
    refine hl_aload_n (i := 0) d293_103 rfl rfl (by decide) ?_
    obtain ⟨x5, hx5, h⟩ := hl_bind h
    refine hl_cVv (D := (D + 2)) (z := y92) (n := 0) (av := []) (st := []) d293_104 mlM_326 rfl (Nat.le_of_ble_eq_true rfl) (Nat.le_of_ble_eq_true rfl) rc64 ((p_M_walks D (hl_si x4 64 50 0) hx5).dle (by omega)) ?_
    refine hl_iconst d293_107 ki1 ?_
    obtain ⟨e1, e2⟩ := hl_some2 h
    subst e1; subst e2
    exact hl_zret d293_108 rfl (by decide)
  · have h := hl_pos hc h
    refine hl_iconst d293_18 ki0 ?_
    obtain ⟨e1, e2⟩ := hl_some2 h
    subst e1; subst e2
    exact hl_zret d293_19 rfl (by decide)
