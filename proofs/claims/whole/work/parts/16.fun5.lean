def f_X_far (v1 : Int32) (v2 : Int32) (v3 : Int32) (σ : hl_M) : Option (Int32 × hl_M) :=
  if (f_X_within v1 100) = 0 then
  some (((-1), σ)) else
  if (f_X_within v2 (σ.1 4 8)) = 0 then
  some (((-1), σ)) else
  (f_X_look v1 v3 σ).bind fun x1 =>
  (f_Vw_farFrom v2 x1).bind fun x2 =>
  some ((x2, x1))
set_option maxRecDepth 20000 in
theorem p_X_far {X : hl_X} (D : Nat) (v1 : Int32) (v2 : Int32) (v3 : Int32) (σ : hl_M) {r : Int32} {τ : hl_M} (h : f_X_far v1 v2 v3 σ = some (r, τ)) : hl_R X (D + 4) y161 0 [(0, .ref 0), (1, .int v1), (2, .int v2), (3, .int v3)] [] σ (some (.int r)) τ := by
  unfold f_X_far at h
  refine hl_iload_n (i := 1) d161_0 rfl rfl ?_
  refine hl_bipush d161_1 kb100 ?_
  refine hl_cSi (D := (D + 3)) (z := y2) (n := 2) (av := [.int v1, .int 100]) (st := []) d161_3 mlX_154 rfl (Nat.le_of_ble_eq_true rfl) (Nat.le_of_ble_eq_true rfl) ((p_X_within D v1 100 σ rfl).dle (by omega)) ?_
  refine hl_if_eq (tg := 23) d161_6 rfl (fun hc => ?_) (fun hc => ?_)
  · have h := hl_pos hc h
    refine hl_iconst d161_23 kim1 ?_
    obtain ⟨e1, e2⟩ := hl_some2 h
    subst e1; subst e2
    exact hl_iret d161_24 rfl
  · have h := hl_neg hc h
    refine hl_iload_n (i := 2) d161_9 rfl rfl ?_
    refine hl_aload_n (i := 0) d161_10 rfl rfl (by decide) ?_
    refine hl_gr d161_11 gX_28_0 ?_
    refine hl_gi d161_14 gX_145_4 ?_
    refine hl_cSi (D := (D + 3)) (z := y2) (n := 2) (av := [.int v2, .int (σ.1 4 8)]) (st := []) d161_17 mlX_154 rfl (Nat.le_of_ble_eq_true rfl) (Nat.le_of_ble_eq_true rfl) ((p_X_within D v2 (σ.1 4 8) σ rfl).dle (by omega)) ?_
    refine hl_if_ne (tg := 25) d161_20 rfl (fun hc => ?_) (fun hc => ?_)
    · have h := hl_neg hc h
      refine hl_aload_n (i := 0) d161_25 rfl rfl (by decide) ?_
      refine hl_iload_n (i := 1) d161_26 rfl rfl ?_
      refine hl_iload_n (i := 3) d161_27 rfl rfl ?_
      obtain ⟨x1, hx1, h⟩ := hl_bind h
      refine hl_cVv (D := (D + 3)) (z := y155) (n := 2) (av := [.int v1, .int v3]) (st := []) d161_28 mlX_232 rfl (Nat.le_of_ble_eq_true rfl) (Nat.le_of_ble_eq_true rfl) rc0 ((p_X_look D v1 v3 σ hx1).dle (by omega)) ?_
      refine hl_aload_n (i := 0) d161_31 rfl rfl (by decide) ?_
      refine hl_gr d161_32 gX_58_0 ?_
      refine hl_iload_n (i := 2) d161_35 rfl rfl ?_
      obtain ⟨x2, hx2, h⟩ := hl_bind h
      refine hl_cVi (D := (D + 3)) (z := y106) (n := 1) (av := [.int v2]) (st := []) d161_36 mlX_238 rfl (Nat.le_of_ble_eq_true rfl) (Nat.le_of_ble_eq_true rfl) rc37 ((p_Vw_farFrom D v2 x1 hx2).dle (by omega)) ?_
      obtain ⟨e1, e2⟩ := hl_some2 h
      subst e1; subst e2
      exact hl_iret d161_39 rfl
    · have h := hl_pos hc h
      refine hl_iconst d161_23 kim1 ?_
      obtain ⟨e1, e2⟩ := hl_some2 h
      subst e1; subst e2
      exact hl_iret d161_24 rfl
def f_M_far (v1 : Int32) (v2 : Int32) (v3 : Int32) (σ : hl_M) : Option (Int32) :=
  if (f_M_isBeat v1) = 0 then
  some ((-1)) else
  (f_M_isWord v2 σ).bind fun x1 =>
  if x1 = 0 then
  some ((-1)) else
  (f_M_farFrom v1 v2 v3 σ).bind fun x2 =>
  some x2
set_option maxRecDepth 20000 in
theorem p_M_far {X : hl_X} (D : Nat) (v1 : Int32) (v2 : Int32) (v3 : Int32) (σ : hl_M) {r : Int32} (h : f_M_far v1 v2 v3 σ = some r) : hl_R X (D + 3) y162 0 [(0, .ref 64), (1, .int v1), (2, .int v2), (3, .int v3)] [] σ (some (.int r)) σ := by
  unfold f_M_far at h
  refine hl_iload_n (i := 1) d162_0 rfl rfl ?_
  refine hl_cSi (D := (D + 2)) (z := y139) (n := 1) (av := [.int v1]) (st := []) d162_1 mlM_409 rfl (Nat.le_of_ble_eq_true rfl) (Nat.le_of_ble_eq_true rfl) ((p_M_isBeat D v1 σ rfl).dle (by omega)) ?_
  refine hl_if_eq (tg := 25) d162_4 rfl (fun hc => ?_) (fun hc => ?_)
  · have h := hl_pos hc h
    refine hl_iconst d162_25 kim1 ?_
    have h := Option.some.inj h
    subst h
    exact hl_iret d162_26 rfl
  · have h := hl_neg hc h
    refine hl_aload_n (i := 0) d162_7 rfl rfl (by decide) ?_
    refine hl_iload_n (i := 2) d162_8 rfl rfl ?_
    obtain ⟨x1, hx1, h⟩ := hl_bind h
    refine hl_cVi (D := (D + 2)) (z := y132) (n := 1) (av := [.int v2]) (st := []) d162_9 mlM_403 rfl (Nat.le_of_ble_eq_true rfl) (Nat.le_of_ble_eq_true rfl) rc64 ((p_M_isWord D v2 σ hx1).dle (by omega)) ?_
    refine hl_if_eq (tg := 25) d162_12 rfl (fun hc => ?_) (fun hc => ?_)
    · have h := hl_pos hc h
      refine hl_iconst d162_25 kim1 ?_
      have h := Option.some.inj h
      subst h
      exact hl_iret d162_26 rfl
    · have h := hl_neg hc h
      refine hl_aload_n (i := 0) d162_15 rfl rfl (by decide) ?_
      refine hl_iload_n (i := 1) d162_16 rfl rfl ?_
      refine hl_iload_n (i := 2) d162_17 rfl rfl ?_
      refine hl_iload_n (i := 3) d162_18 rfl rfl ?_
      obtain ⟨x2, hx2, h⟩ := hl_bind h
      refine hl_cVi (D := (D + 2)) (z := y115) (n := 3) (av := [.int v1, .int v2, .int v3]) (st := []) d162_19 mlM_364 rfl (Nat.le_of_ble_eq_true rfl) (Nat.le_of_ble_eq_true rfl) rc64 ((p_M_farFrom D v1 v2 v3 σ hx2).dle (by omega)) ?_
      refine hl_goto (tg := 26) d162_22 rfl ?_
      have h := Option.some.inj h
      subst h
      exact hl_iret d162_26 rfl
def f_Vw_nearestWord_L4 (σ : hl_M) (s : Int32 × Int32) : Option ((Int32 × Int32) ⊕ (Int32)) :=
  if (σ.1 4 8) ≤ s.2 then
  some (.inr s.1) else
  if s.1 = ((-1)) then
  some (.inl ((s.2, s.2 + 1))) else
  (f_Vw_farFrom s.2 σ).bind fun x1 =>
  (f_Vw_farFrom s.1 σ).bind fun x2 =>
  if x2 ≤ x1 then
  some (.inl ((s.1, s.2 + 1))) else
  some (.inl ((s.2, s.2 + 1)))
def f_Vw_nearestWord (σ : hl_M) : Option (Int32) :=
  (hl_lp (f_Vw_nearestWord_L4 σ) hl_big (((-1), 0))).bind fun x3 =>
  some x3
set_option maxRecDepth 20000 in
theorem p_Vw_nearestWord_L4 {X : hl_X} (D : Nat) (σ : hl_M) (s : Int32 × Int32) {o : (Int32 × Int32) ⊕ (Int32)} {v : Option Value} (h : f_Vw_nearestWord_L4 σ s = some o) (k1 : ∀ (c0 : Int32) (c1 : Int32), o = .inl ((c0, c1)) → hl_R X (D + 2) y164 4 [(0, .ref 37), (1, .int c0), (2, .int c1)] [] σ v σ) (k2 : ∀ (a0 : Int32), o = .inr a0 → hl_R X (D + 2) y164 41 [(1, .int a0)] [] σ v σ) : hl_R X (D + 2) y164 4 [(0, .ref 37), (1, .int s.1), (2, .int s.2)] [] σ v σ := by
  unfold f_Vw_nearestWord_L4 at h
  refine hl_iload_n (i := 2) d164_4 rfl rfl ?_
  refine hl_aload_n (i := 0) d164_5 rfl rfl (by decide) ?_
  refine hl_gr d164_6 gVw_9_37 ?_
  refine hl_gi d164_9 gVw_76_4 ?_
  refine hl_icmp_ge (tg := 41) d164_12 rfl (fun hc => ?_) (fun hc => ?_)
  · have h := hl_pos hc h
    have h := Option.some.inj h
    subst h
    exact hl_loc (k2 s.1 rfl) ⟨rfl, trivial⟩
  · have h := hl_neg hc h
    refine hl_iload_n (i := 1) d164_15 rfl rfl ?_
    refine hl_iconst d164_16 kim1 ?_
    refine hl_icmp_eq (tg := 33) d164_17 rfl (fun hc => ?_) (fun hc => ?_)
    · have h := hl_pos hc h
      refine hl_iload_n (i := 2) d164_33 rfl rfl ?_
      refine hl_istore_n (i := 1) (ls2 := [(1, .int s.2), (0, .ref 37), (2, .int s.2)]) d164_34 rfl (by decide) rfl ?_
      refine hl_iinc (ls2 := [(2, .int (s.2 + 1)), (1, .int s.2), (0, .ref 37)]) d164_35 rfl kx1 (by decide) rfl ?_
      refine hl_goto (tg := 4) d164_38 rfl ?_
      have h := Option.some.inj h
      subst h
      exact hl_loc (k1 s.2 (s.2 + 1) rfl) ⟨rfl, rfl, rfl, trivial⟩
    · have h := hl_neg hc h
      refine hl_aload_n (i := 0) d164_20 rfl rfl (by decide) ?_
      refine hl_iload_n (i := 2) d164_21 rfl rfl ?_
      obtain ⟨x1, hx1, h⟩ := hl_bind h
      refine hl_cVi (D := (D + 1)) (z := y106) (n := 1) (av := [.int s.2]) (st := []) d164_22 mlVw_86 rfl (Nat.le_of_ble_eq_true rfl) (Nat.le_of_ble_eq_true rfl) rc37 ((p_Vw_farFrom D s.2 σ hx1).dle (by omega)) ?_
      refine hl_aload_n (i := 0) d164_25 rfl rfl (by decide) ?_
      refine hl_iload_n (i := 1) d164_26 rfl rfl ?_
      obtain ⟨x2, hx2, h⟩ := hl_bind h
      refine hl_cVi (D := (D + 1)) (z := y106) (n := 1) (av := [.int s.1]) (st := [.int x1]) d164_27 mlVw_86 rfl (Nat.le_of_ble_eq_true rfl) (Nat.le_of_ble_eq_true rfl) rc37 ((p_Vw_farFrom D s.1 σ hx2).dle (by omega)) ?_
      refine hl_icmp_ge (tg := 35) d164_30 rfl (fun hc => ?_) (fun hc => ?_)
      · have h := hl_pos hc h
        refine hl_iinc (ls2 := [(2, .int (s.2 + 1)), (0, .ref 37), (1, .int s.1)]) d164_35 rfl kx1 (by decide) rfl ?_
        refine hl_goto (tg := 4) d164_38 rfl ?_
        have h := Option.some.inj h
        subst h
        exact hl_loc (k1 s.1 (s.2 + 1) rfl) ⟨rfl, rfl, rfl, trivial⟩
      · have h := hl_neg hc h
        refine hl_iload_n (i := 2) d164_33 rfl rfl ?_
        refine hl_istore_n (i := 1) (ls2 := [(1, .int s.2), (0, .ref 37), (2, .int s.2)]) d164_34 rfl (by decide) rfl ?_
        refine hl_iinc (ls2 := [(2, .int (s.2 + 1)), (1, .int s.2), (0, .ref 37)]) d164_35 rfl kx1 (by decide) rfl ?_
        refine hl_goto (tg := 4) d164_38 rfl ?_
        have h := Option.some.inj h
        subst h
        exact hl_loc (k1 s.2 (s.2 + 1) rfl) ⟨rfl, rfl, rfl, trivial⟩
set_option maxRecDepth 20000 in
theorem p_Vw_nearestWord {X : hl_X} (D : Nat) (σ : hl_M) {r : Int32} (h : f_Vw_nearestWord σ = some r) : hl_R X (D + 2) y164 0 [(0, .ref 37)] [] σ (some (.int r)) σ := by
  unfold f_Vw_nearestWord at h
  refine hl_iconst d164_0 kim1 ?_
  refine hl_istore_n (i := 1) (ls2 := [(1, .int ((-1))), (0, .ref 37)]) d164_1 rfl (by decide) rfl ?_
  refine hl_iconst d164_2 ki0 ?_
  refine hl_istore_n (i := 2) (ls2 := [(2, .int 0), (1, .int ((-1))), (0, .ref 37)]) d164_3 rfl (by decide) rfl ?_
  obtain ⟨x3, hx3, h⟩ := hl_bind h
  refine hl_R.loc (ls' := [(0, .ref 37), (1, .int ((-1))), (2, .int 0)]) ⟨rfl, rfl, rfl, trivial⟩ ?_
  refine hl_lp_run2 (P := fun (c0 : Int32) (c1 : Int32) => hl_R X (D + 2) y164 4 [(0, .ref 37), (1, .int c0), (2, .int c1)] [] σ (some (.int r)) σ) (fun x : Int32 => hl_R X (D + 2) y164 41 [(1, .int x)] [] σ (some (.int r)) σ) (fun c0 c1 o ho h1 h2 => p_Vw_nearestWord_L4 D σ (c0, c1) ho h1 (fun a0 e => h2 a0 e)) hl_big ((-1)) 0 x3 hx3 ?_
  refine hl_iload_n (i := 1) d164_41 rfl rfl ?_
  have h := Option.some.inj h
  subst h
  exact hl_iret d164_42 rfl
def f_Vw_doubtNow_L9 (v1 : Int32) (σ : hl_M) (s : Int32 × Int32) : Option ((Int32 × Int32) ⊕ (Int32)) :=
  if (σ.1 4 8) ≤ s.2 then
  some (.inr s.1) else
  if s.2 = v1 then
  some (.inl ((s.1, s.2 + 1))) else
  if s.1 = ((-1)) then
  some (.inl ((s.2, s.2 + 1))) else
  (f_Vw_farFrom s.2 σ).bind fun x2 =>
  (f_Vw_farFrom s.1 σ).bind fun x3 =>
  if x3 ≤ x2 then
  some (.inl ((s.1, s.2 + 1))) else
  some (.inl ((s.2, s.2 + 1)))
def f_Vw_doubtNow (σ : hl_M) : Option (Int32) :=
  (f_Vw_nearestWord σ).bind fun x1 =>
  (hl_lp (f_Vw_doubtNow_L9 x1 σ) hl_big (((-1), 0))).bind fun x4 =>
  if x4 = ((-1)) then
  some 99 else
  (f_Vw_farFrom x4 σ).bind fun x5 =>
  (f_Vw_farFrom x1 σ).bind fun x6 =>
  some (x5 - x6)
set_option maxRecDepth 20000 in
theorem p_Vw_doubtNow_L9 {X : hl_X} (D : Nat) (v1 : Int32) (σ : hl_M) (s : Int32 × Int32) {o : (Int32 × Int32) ⊕ (Int32)} {v : Option Value} (h : f_Vw_doubtNow_L9 v1 σ s = some o) (k1 : ∀ (c0 : Int32) (c1 : Int32), o = .inl ((c0, c1)) → hl_R X (D + 3) y165 9 [(0, .ref 37), (1, .int v1), (2, .int c0), (3, .int c1)] [] σ v σ) (k2 : ∀ (a0 : Int32), o = .inr a0 → hl_R X (D + 3) y165 51 [(0, .ref 37), (1, .int v1), (2, .int a0)] [] σ v σ) : hl_R X (D + 3) y165 9 [(0, .ref 37), (1, .int v1), (2, .int s.1), (3, .int s.2)] [] σ v σ := by
  unfold f_Vw_doubtNow_L9 at h
  refine hl_iload_n (i := 3) d165_9 rfl rfl ?_
  refine hl_aload_n (i := 0) d165_10 rfl rfl (by decide) ?_
  refine hl_gr d165_11 gVw_9_37 ?_
  refine hl_gi d165_14 gVw_76_4 ?_
  refine hl_icmp_ge (tg := 51) d165_17 rfl (fun hc => ?_) (fun hc => ?_)
  · have h := hl_pos hc h
    have h := Option.some.inj h
    subst h
    exact hl_loc (k2 s.1 rfl) ⟨rfl, rfl, rfl, trivial⟩
  · have h := hl_neg hc h
    refine hl_iload_n (i := 3) d165_20 rfl rfl ?_
    refine hl_iload_n (i := 1) d165_21 rfl rfl ?_
    refine hl_icmp_eq (tg := 45) d165_22 rfl (fun hc => ?_) (fun hc => ?_)
    · have h := hl_pos hc h
      refine hl_iinc (ls2 := [(3, .int (s.2 + 1)), (0, .ref 37), (1, .int v1), (2, .int s.1)]) d165_45 rfl kx1 (by decide) rfl ?_
      refine hl_goto (tg := 9) d165_48 rfl ?_
      have h := Option.some.inj h
      subst h
      exact hl_loc (k1 s.1 (s.2 + 1) rfl) ⟨rfl, rfl, rfl, rfl, trivial⟩
    · have h := hl_neg hc h
      refine hl_iload_n (i := 2) d165_25 rfl rfl ?_
      refine hl_iconst d165_26 kim1 ?_
      refine hl_icmp_eq (tg := 43) d165_27 rfl (fun hc => ?_) (fun hc => ?_)
      · have h := hl_pos hc h
        refine hl_iload_n (i := 3) d165_43 rfl rfl ?_
        refine hl_istore_n (i := 2) (ls2 := [(2, .int s.2), (0, .ref 37), (1, .int v1), (3, .int s.2)]) d165_44 rfl (by decide) rfl ?_
        refine hl_iinc (ls2 := [(3, .int (s.2 + 1)), (2, .int s.2), (0, .ref 37), (1, .int v1)]) d165_45 rfl kx1 (by decide) rfl ?_
        refine hl_goto (tg := 9) d165_48 rfl ?_
        have h := Option.some.inj h
        subst h
        exact hl_loc (k1 s.2 (s.2 + 1) rfl) ⟨rfl, rfl, rfl, rfl, trivial⟩
      · have h := hl_neg hc h
        refine hl_aload_n (i := 0) d165_30 rfl rfl (by decide) ?_
        refine hl_iload_n (i := 3) d165_31 rfl rfl ?_
        obtain ⟨x2, hx2, h⟩ := hl_bind h
        refine hl_cVi (D := (D + 2)) (z := y106) (n := 1) (av := [.int s.2]) (st := []) d165_32 mlVw_86 rfl (Nat.le_of_ble_eq_true rfl) (Nat.le_of_ble_eq_true rfl) rc37 ((p_Vw_farFrom D s.2 σ hx2).dle (by omega)) ?_
        refine hl_aload_n (i := 0) d165_35 rfl rfl (by decide) ?_
        refine hl_iload_n (i := 2) d165_36 rfl rfl ?_
        obtain ⟨x3, hx3, h⟩ := hl_bind h
        refine hl_cVi (D := (D + 2)) (z := y106) (n := 1) (av := [.int s.1]) (st := [.int x2]) d165_37 mlVw_86 rfl (Nat.le_of_ble_eq_true rfl) (Nat.le_of_ble_eq_true rfl) rc37 ((p_Vw_farFrom D s.1 σ hx3).dle (by omega)) ?_
        refine hl_icmp_ge (tg := 45) d165_40 rfl (fun hc => ?_) (fun hc => ?_)
        · have h := hl_pos hc h
          refine hl_iinc (ls2 := [(3, .int (s.2 + 1)), (0, .ref 37), (1, .int v1), (2, .int s.1)]) d165_45 rfl kx1 (by decide) rfl ?_
          refine hl_goto (tg := 9) d165_48 rfl ?_
          have h := Option.some.inj h
          subst h
          exact hl_loc (k1 s.1 (s.2 + 1) rfl) ⟨rfl, rfl, rfl, rfl, trivial⟩
        · have h := hl_neg hc h
          refine hl_iload_n (i := 3) d165_43 rfl rfl ?_
          refine hl_istore_n (i := 2) (ls2 := [(2, .int s.2), (0, .ref 37), (1, .int v1), (3, .int s.2)]) d165_44 rfl (by decide) rfl ?_
          refine hl_iinc (ls2 := [(3, .int (s.2 + 1)), (2, .int s.2), (0, .ref 37), (1, .int v1)]) d165_45 rfl kx1 (by decide) rfl ?_
          refine hl_goto (tg := 9) d165_48 rfl ?_
          have h := Option.some.inj h
          subst h
          exact hl_loc (k1 s.2 (s.2 + 1) rfl) ⟨rfl, rfl, rfl, rfl, trivial⟩
set_option maxRecDepth 20000 in
theorem p_Vw_doubtNow {X : hl_X} (D : Nat) (σ : hl_M) {r : Int32} (h : f_Vw_doubtNow σ = some r) : hl_R X (D + 3) y165 0 [(0, .ref 37)] [] σ (some (.int r)) σ := by
  unfold f_Vw_doubtNow at h
  refine hl_aload_n (i := 0) d165_0 rfl rfl (by decide) ?_
  obtain ⟨x1, hx1, h⟩ := hl_bind h
  refine hl_cVi (D := (D + 2)) (z := y164) (n := 0) (av := []) (st := []) d165_1 mlVw_90 rfl (Nat.le_of_ble_eq_true rfl) (Nat.le_of_ble_eq_true rfl) rc37 ((p_Vw_nearestWord D σ hx1).dle (by omega)) ?_
  refine hl_istore_n (i := 1) (ls2 := [(1, .int x1), (0, .ref 37)]) d165_4 rfl (by decide) rfl ?_
  refine hl_iconst d165_5 kim1 ?_
  refine hl_istore_n (i := 2) (ls2 := [(2, .int ((-1))), (1, .int x1), (0, .ref 37)]) d165_6 rfl (by decide) rfl ?_
  refine hl_iconst d165_7 ki0 ?_
  refine hl_istore_n (i := 3) (ls2 := [(3, .int 0), (2, .int ((-1))), (1, .int x1), (0, .ref 37)]) d165_8 rfl (by decide) rfl ?_
  obtain ⟨x4, hx4, h⟩ := hl_bind h
  refine hl_R.loc (ls' := [(0, .ref 37), (1, .int x1), (2, .int ((-1))), (3, .int 0)]) ⟨rfl, rfl, rfl, rfl, trivial⟩ ?_
  refine hl_lp_run2 (P := fun (c0 : Int32) (c1 : Int32) => hl_R X (D + 3) y165 9 [(0, .ref 37), (1, .int x1), (2, .int c0), (3, .int c1)] [] σ (some (.int r)) σ) (fun x : Int32 => hl_R X (D + 3) y165 51 [(0, .ref 37), (1, .int x1), (2, .int x)] [] σ (some (.int r)) σ) (fun c0 c1 o ho h1 h2 => p_Vw_doubtNow_L9 D x1 σ (c0, c1) ho h1 (fun a0 e => h2 a0 e)) hl_big ((-1)) 0 x4 hx4 ?_
  refine hl_iload_n (i := 2) d165_51 rfl rfl ?_
  refine hl_iconst d165_52 kim1 ?_
  refine hl_icmp_ne (tg := 61) d165_53 rfl (fun hc => ?_) (fun hc => ?_)
  · have h := hl_neg hc h
    refine hl_aload_n (i := 0) d165_61 rfl rfl (by decide) ?_
    refine hl_iload_n (i := 2) d165_62 rfl rfl ?_
    obtain ⟨x5, hx5, h⟩ := hl_bind h
    refine hl_cVi (D := (D + 2)) (z := y106) (n := 1) (av := [.int x4]) (st := []) d165_63 mlVw_86 rfl (Nat.le_of_ble_eq_true rfl) (Nat.le_of_ble_eq_true rfl) rc37 ((p_Vw_farFrom D x4 σ hx5).dle (by omega)) ?_
    refine hl_aload_n (i := 0) d165_66 rfl rfl (by decide) ?_
    refine hl_iload_n (i := 1) d165_67 rfl rfl ?_
    obtain ⟨x6, hx6, h⟩ := hl_bind h
    refine hl_cVi (D := (D + 2)) (z := y106) (n := 1) (av := [.int x1]) (st := [.int x5]) d165_68 mlVw_86 rfl (Nat.le_of_ble_eq_true rfl) (Nat.le_of_ble_eq_true rfl) rc37 ((p_Vw_farFrom D x1 σ hx6).dle (by omega)) ?_
    refine hl_isub d165_71 ?_
    have h := Option.some.inj h
    subst h
    exact hl_iret d165_72 rfl
  · have h := hl_pos hc h
    refine hl_bipush d165_56 kb99 ?_
    refine hl_goto (tg := 72) d165_58 rfl ?_
    have h := Option.some.inj h
    subst h
    exact hl_iret d165_72 rfl
def f_Vw_litCells (σ : hl_M) : Int32 :=
  f_Long_bitCount ((σ.2 37 2) ||| (σ.2 37 3))
set_option maxRecDepth 20000 in
theorem p_Vw_litCells {X : hl_X} (D : Nat) (σ : hl_M) {r : Int32} (h : f_Vw_litCells σ = r) : hl_R X (D + 1) y166 0 [(0, .ref 37)] [] σ (some (.int r)) σ := by
  unfold f_Vw_litCells at h
  refine hl_aload_n (i := 0) d166_0 rfl rfl (by decide) ?_
  refine hl_gl d166_1 gVw_19_37 ?_
  refine hl_aload_n (i := 0) d166_4 rfl rfl (by decide) ?_
  refine hl_gl d166_5 gVw_23_37 ?_
  refine hl_lor d166_8 ?_
  refine hl_cSi (D := D) (z := y99) (n := 1) (av := [.long ((σ.2 37 2) ||| (σ.2 37 3))]) (st := []) d166_9 mlVw_70 rfl (Nat.le_of_ble_eq_true rfl) (Nat.le_of_ble_eq_true rfl) ((p_Long_bitCount D ((σ.2 37 2) ||| (σ.2 37 3)) σ rfl).dle (by omega)) ?_
  subst h
  exact hl_iret d166_12 rfl
def f_X_nearest (v1 : Int32) (v2 : Int32) (σ : hl_M) : Option (Int32 × hl_M) :=
  if (f_X_within v1 100) = 0 then
  some (((-1), σ)) else
  (f_Vw_look v1 ((-1)) σ).bind fun x1 =>
  if v2 = 3 then
  some ((f_Vw_litCells x1, x1)) else
  if (x1.1 4 8) = 0 then
  some (((-1), x1)) else
  if v2 = 0 then
  (f_Vw_nearestWord x1).bind fun x2 =>
  some ((x2, x1)) else
  if v2 = 1 then
  (f_Vw_nearestWord x1).bind fun x3 =>
  (f_Vw_farFrom x3 x1).bind fun x4 =>
  some ((x4, x1)) else
  if v2 = 2 then
  (f_Vw_doubtNow x1).bind fun x5 =>
  some ((x5, x1)) else
  some (((-1), x1))
set_option maxRecDepth 20000 in
theorem p_X_nearest {X : hl_X} (D : Nat) (v1 : Int32) (v2 : Int32) (σ : hl_M) {r : Int32} {τ : hl_M} (h : f_X_nearest v1 v2 σ = some (r, τ)) : hl_R X (D + 4) y163 0 [(0, .ref 0), (1, .int v1), (2, .int v2)] [] σ (some (.int r)) τ := by
  unfold f_X_nearest at h
  refine hl_iload_n (i := 1) d163_0 rfl rfl ?_
  refine hl_bipush d163_1 kb100 ?_
  refine hl_cSi (D := (D + 3)) (z := y2) (n := 2) (av := [.int v1, .int 100]) (st := []) d163_3 mlX_154 rfl (Nat.le_of_ble_eq_true rfl) (Nat.le_of_ble_eq_true rfl) ((p_X_within D v1 100 σ rfl).dle (by omega)) ?_
  refine hl_if_ne (tg := 11) d163_6 rfl (fun hc => ?_) (fun hc => ?_)
  · have h := hl_neg hc h
    refine hl_aload_n (i := 0) d163_11 rfl rfl (by decide) ?_
    refine hl_gr d163_12 gX_58_0 ?_
    refine hl_iload_n (i := 1) d163_15 rfl rfl ?_
    refine hl_iconst d163_16 kim1 ?_
    obtain ⟨x1, hx1, h⟩ := hl_bind h
    refine hl_cVv (D := (D + 3)) (z := y103) (n := 2) (av := [.int v1, .int ((-1))]) (st := []) d163_17 mlX_219 rfl (Nat.le_of_ble_eq_true rfl) (Nat.le_of_ble_eq_true rfl) rc37 ((p_Vw_look D v1 ((-1)) σ hx1).dle (by omega)) ?_
    refine hl_iload_n (i := 2) d163_20 rfl rfl ?_
    refine hl_iconst d163_21 ki3 ?_
    refine hl_icmp_ne (tg := 33) d163_22 rfl (fun hc => ?_) (fun hc => ?_)
    · have h := hl_neg hc h
      refine hl_aload_n (i := 0) d163_33 rfl rfl (by decide) ?_
      refine hl_gr d163_34 gX_28_0 ?_
      refine hl_gi d163_37 gX_145_4 ?_
      refine hl_if_ne (tg := 45) d163_40 rfl (fun hc => ?_) (fun hc => ?_)
      · have h := hl_neg hc h
        refine hl_iload_n (i := 2) d163_45 rfl rfl ?_
        by_cases hc46_0 : v2 = 0
        · have h := hl_pos hc46_0 h
          refine hl_tabIn (off := 26) (tg := 72) d163_46 (by rw [hc46_0]; decide) (by rw [hc46_0]; decide) (by rw [hc46_0]; rfl) rfl ?_
          refine hl_aload_n (i := 0) d163_72 rfl rfl (by decide) ?_
          refine hl_gr d163_73 gX_58_0 ?_
          obtain ⟨x2, hx2, h⟩ := hl_bind h
          refine hl_cVi (D := (D + 3)) (z := y164) (n := 0) (av := []) (st := []) d163_76 mlX_244 rfl (Nat.le_of_ble_eq_true rfl) (Nat.le_of_ble_eq_true rfl) rc37 ((p_Vw_nearestWord D x1 hx2).dle (by omega)) ?_
          obtain ⟨e1, e2⟩ := hl_some2 h
          subst e1; subst e2
          exact hl_iret d163_79 rfl
        have h := hl_neg hc46_0 h
        by_cases hc46_1 : v2 = 1
        · have h := hl_pos hc46_1 h
          refine hl_tabIn (off := 34) (tg := 80) d163_46 (by rw [hc46_1]; decide) (by rw [hc46_1]; decide) (by rw [hc46_1]; rfl) rfl ?_
          refine hl_aload_n (i := 0) d163_80 rfl rfl (by decide) ?_
          refine hl_gr d163_81 gX_58_0 ?_
          refine hl_aload_n (i := 0) d163_84 rfl rfl (by decide) ?_
          refine hl_gr d163_85 gX_58_0 ?_
          obtain ⟨x3, hx3, h⟩ := hl_bind h
          refine hl_cVi (D := (D + 3)) (z := y164) (n := 0) (av := []) (st := [.ref 37]) d163_88 mlX_244 rfl (Nat.le_of_ble_eq_true rfl) (Nat.le_of_ble_eq_true rfl) rc37 ((p_Vw_nearestWord D x1 hx3).dle (by omega)) ?_
          obtain ⟨x4, hx4, h⟩ := hl_bind h
          refine hl_cVi (D := (D + 3)) (z := y106) (n := 1) (av := [.int x3]) (st := []) d163_91 mlX_238 rfl (Nat.le_of_ble_eq_true rfl) (Nat.le_of_ble_eq_true rfl) rc37 ((p_Vw_farFrom D x3 x1 hx4).dle (by omega)) ?_
          obtain ⟨e1, e2⟩ := hl_some2 h
          subst e1; subst e2
          exact hl_iret d163_94 rfl
        have h := hl_neg hc46_1 h
        by_cases hc46_2 : v2 = 2
        · have h := hl_pos hc46_2 h
          refine hl_tabIn (off := 49) (tg := 95) d163_46 (by rw [hc46_2]; decide) (by rw [hc46_2]; decide) (by rw [hc46_2]; rfl) rfl ?_
          refine hl_aload_n (i := 0) d163_95 rfl rfl (by decide) ?_
          refine hl_gr d163_96 gX_58_0 ?_
          obtain ⟨x5, hx5, h⟩ := hl_bind h
          refine hl_cVi (D := (D + 3)) (z := y165) (n := 0) (av := []) (st := []) d163_99 mlX_247 rfl (Nat.le_of_ble_eq_true rfl) (Nat.le_of_ble_eq_true rfl) rc37 ((p_Vw_doubtNow D x1 hx5).dle (by omega)) ?_
          obtain ⟨e1, e2⟩ := hl_some2 h
          subst e1; subst e2
          exact hl_iret d163_102 rfl
        have h := hl_neg hc46_2 h
        refine hl_tabD (tg := 103) d163_46 (fun k g1 g2 e => by
              rcases (by omega : k = 0 ∨ k = 1 ∨ k = 2) with rfl | rfl | rfl
              · exact hc46_0 (Int32.toInt_inj.mp (e.trans (by decide)))
              · exact hc46_1 (Int32.toInt_inj.mp (e.trans (by decide)))
              · exact hc46_2 (Int32.toInt_inj.mp (e.trans (by decide)))
            ) rfl ?_
        refine hl_iconst d163_103 kim1 ?_
        obtain ⟨e1, e2⟩ := hl_some2 h
        subst e1; subst e2
        exact hl_iret d163_104 rfl
      · have h := hl_pos hc h
        refine hl_iconst d163_43 kim1 ?_
        obtain ⟨e1, e2⟩ := hl_some2 h
        subst e1; subst e2
        exact hl_iret d163_44 rfl
    · have h := hl_pos hc h
      refine hl_aload_n (i := 0) d163_25 rfl rfl (by decide) ?_
      refine hl_gr d163_26 gX_58_0 ?_
      refine hl_cVi (D := (D + 3)) (z := y166) (n := 0) (av := []) (st := []) d163_29 mlX_241 rfl (Nat.le_of_ble_eq_true rfl) (Nat.le_of_ble_eq_true rfl) rc37 ((p_Vw_litCells D x1 rfl).dle (by omega)) ?_
      obtain ⟨e1, e2⟩ := hl_some2 h
      subst e1; subst e2
      exact hl_iret d163_32 rfl
  · have h := hl_pos hc h
    refine hl_iconst d163_9 kim1 ?_
    obtain ⟨e1, e2⟩ := hl_some2 h
    subst e1; subst e2
    exact hl_iret d163_10 rfl
def f_M_nearestIn_L10 (v1 : Int32) (s : Int32 × Int32 × hl_M) : Option ((Int32 × Int32 × hl_M) ⊕ (Int32 × hl_M)) :=
  (f_M_wordMany s.2.2).bind fun x1 =>
  if x1 ≤ s.2.1 then
  some (.inr (((s.1, s.2.2)))) else
  (f_M_farFrom v1 s.2.1 0 s.2.2).bind fun x2 =>
  if s.1 = ((-1)) then
  some (.inl ((s.2.1, s.2.1 + 1, hl_si s.2.2 64 38 x2))) else
  if (s.2.2.1 64 38) ≤ x2 then
  if (s.2.2.1 64 39) ≤ (x2 - (s.2.2.1 64 38)) then
  some (.inl ((s.1, s.2.1 + 1, s.2.2))) else
  some (.inl ((s.1, s.2.1 + 1, hl_si s.2.2 64 39 (x2 - (s.2.2.1 64 38))))) else
  some (.inl ((s.2.1, s.2.1 + 1, hl_si (hl_si s.2.2 64 39 ((s.2.2.1 64 38) - x2)) 64 38 x2)))
def f_M_nearestIn (v1 : Int32) (σ : hl_M) : Option (Int32 × hl_M) :=
  (hl_lp (f_M_nearestIn_L10 v1) hl_big (((-1), 0, hl_si σ 64 39 99))).bind fun x3 =>
  some ((x3.1, x3.2))
set_option maxRecDepth 20000 in
theorem p_M_nearestIn_L10 {X : hl_X} (D : Nat) (v1 : Int32) (s : Int32 × Int32 × hl_M) {o : (Int32 × Int32 × hl_M) ⊕ (Int32 × hl_M)} {v : Option Value} {τ : hl_M} (h : f_M_nearestIn_L10 v1 s = some o) (k1 : ∀ (c0 : Int32) (c1 : Int32) (c2 : hl_M), o = .inl ((c0, c1, c2)) → hl_R X (D + 3) y168 10 [(0, .ref 64), (1, .int v1), (2, .int c0), (3, .int c1)] [] c2 v τ) (k2 : ∀ (a0 : Int32) (a1 : hl_M), o = .inr ((a0, a1)) → hl_R X (D + 3) y168 105 [(2, .int a0)] [] a1 v τ) : hl_R X (D + 3) y168 10 [(0, .ref 64), (1, .int v1), (2, .int s.1), (3, .int s.2.1)] [] s.2.2 v τ := by
  unfold f_M_nearestIn_L10 at h
  refine hl_iload_n (i := 3) d168_10 rfl rfl ?_
  refine hl_aload_n (i := 0) d168_11 rfl rfl (by decide) ?_
  obtain ⟨x1, hx1, h⟩ := hl_bind h
  refine hl_cVi (D := (D + 2)) (z := y111) (n := 0) (av := []) (st := [.int s.2.1]) d168_12 mlM_338 rfl (Nat.le_of_ble_eq_true rfl) (Nat.le_of_ble_eq_true rfl) rc64 ((p_M_wordMany D s.2.2 hx1).dle (by omega)) ?_
  refine hl_icmp_ge (tg := 105) d168_15 rfl (fun hc => ?_) (fun hc => ?_)
  · have h := hl_pos hc h
    have h := Option.some.inj h
    subst h
    exact hl_loc (k2 s.1 s.2.2 rfl) ⟨rfl, trivial⟩
  · have h := hl_neg hc h
    refine hl_aload_n (i := 0) d168_18 rfl rfl (by decide) ?_
    refine hl_iload_n (i := 1) d168_19 rfl rfl ?_
    refine hl_iload_n (i := 3) d168_20 rfl rfl ?_
    refine hl_iconst d168_21 ki0 ?_
    obtain ⟨x2, hx2, h⟩ := hl_bind h
    refine hl_cVi (D := (D + 2)) (z := y115) (n := 3) (av := [.int v1, .int s.2.1, .int 0]) (st := []) d168_22 mlM_364 rfl (Nat.le_of_ble_eq_true rfl) (Nat.le_of_ble_eq_true rfl) rc64 ((p_M_farFrom D v1 s.2.1 0 s.2.2 hx2).dle (by omega)) ?_
    refine hl_istore (ls2 := [(4, .int x2), (0, .ref 64), (1, .int v1), (2, .int s.1), (3, .int s.2.1)]) d168_25 (by decide) rfl ?_
    refine hl_iload_n (i := 2) d168_27 rfl rfl ?_
    refine hl_iconst d168_28 kim1 ?_
    refine hl_icmp_ne (tg := 43) d168_29 rfl (fun hc => ?_) (fun hc => ?_)
    · have h := hl_neg hc h
      refine hl_iload d168_43 rfl ?_
      refine hl_aload_n (i := 0) d168_45 rfl rfl (by decide) ?_
      refine hl_gi d168_46 gM_371_64 ?_
      refine hl_icmp_ge (tg := 74) d168_49 rfl (fun hc => ?_) (fun hc => ?_)
      · have h := hl_pos hc h
        refine hl_iload d168_74 rfl ?_
        refine hl_aload_n (i := 0) d168_76 rfl rfl (by decide) ?_
        refine hl_gi d168_77 gM_371_64 ?_
        refine hl_isub d168_80 ?_
        refine hl_aload_n (i := 0) d168_81 rfl rfl (by decide) ?_
        refine hl_gi d168_82 gM_368_64 ?_
        refine hl_icmp_ge (tg := 99) d168_85 rfl (fun hc => ?_) (fun hc => ?_)
        · have h := hl_pos hc h
          refine hl_iinc (ls2 := [(3, .int (s.2.1 + 1)), (4, .int x2), (0, .ref 64), (1, .int v1), (2, .int s.1)]) d168_99 rfl kx1 (by decide) rfl ?_
          refine hl_goto (tg := 10) d168_102 rfl ?_
          have h := Option.some.inj h
          subst h
          exact hl_loc (k1 s.1 (s.2.1 + 1) s.2.2 rfl) ⟨rfl, rfl, rfl, rfl, trivial⟩
        · have h := hl_neg hc h
          refine hl_aload_n (i := 0) d168_88 rfl rfl (by decide) ?_
          refine hl_iload d168_89 rfl ?_
          refine hl_aload_n (i := 0) d168_91 rfl rfl (by decide) ?_
          refine hl_gi d168_92 gM_371_64 ?_
          refine hl_isub d168_95 ?_
          refine hl_pi d168_96 qM_368_64 ?_
          refine hl_iinc (ls2 := [(3, .int (s.2.1 + 1)), (4, .int x2), (0, .ref 64), (1, .int v1), (2, .int s.1)]) d168_99 rfl kx1 (by decide) rfl ?_
          refine hl_goto (tg := 10) d168_102 rfl ?_
          have h := Option.some.inj h
          subst h
          exact hl_loc (k1 s.1 (s.2.1 + 1) (hl_si s.2.2 64 39 (x2 - (s.2.2.1 64 38))) rfl) ⟨rfl, rfl, rfl, rfl, trivial⟩
      · have h := hl_neg hc h
        refine hl_aload_n (i := 0) d168_52 rfl rfl (by decide) ?_
        refine hl_aload_n (i := 0) d168_53 rfl rfl (by decide) ?_
        refine hl_gi d168_54 gM_371_64 ?_
        refine hl_iload d168_57 rfl ?_
        refine hl_isub d168_59 ?_
        refine hl_pi d168_60 qM_368_64 ?_
        refine hl_iload_n (i := 3) d168_63 rfl rfl ?_
        refine hl_istore_n (i := 2) (ls2 := [(2, .int s.2.1), (4, .int x2), (0, .ref 64), (1, .int v1), (3, .int s.2.1)]) d168_64 rfl (by decide) rfl ?_
        refine hl_aload_n (i := 0) d168_65 rfl rfl (by decide) ?_
        refine hl_iload d168_66 rfl ?_
        refine hl_pi d168_68 qM_371_64 ?_
        refine hl_goto (tg := 99) d168_71 rfl ?_
        refine hl_iinc (ls2 := [(3, .int (s.2.1 + 1)), (2, .int s.2.1), (4, .int x2), (0, .ref 64), (1, .int v1)]) d168_99 rfl kx1 (by decide) rfl ?_
        refine hl_goto (tg := 10) d168_102 rfl ?_
        have h := Option.some.inj h
        subst h
        exact hl_loc (k1 s.2.1 (s.2.1 + 1) (hl_si (hl_si s.2.2 64 39 ((s.2.2.1 64 38) - x2)) 64 38 x2) rfl) ⟨rfl, rfl, rfl, rfl, trivial⟩
    · have h := hl_pos hc h
      refine hl_iload_n (i := 3) d168_32 rfl rfl ?_
      refine hl_istore_n (i := 2) (ls2 := [(2, .int s.2.1), (4, .int x2), (0, .ref 64), (1, .int v1), (3, .int s.2.1)]) d168_33 rfl (by decide) rfl ?_
      refine hl_aload_n (i := 0) d168_34 rfl rfl (by decide) ?_
      refine hl_iload d168_35 rfl ?_
      refine hl_pi d168_37 qM_371_64 ?_
      refine hl_goto (tg := 99) d168_40 rfl ?_
      refine hl_iinc (ls2 := [(3, .int (s.2.1 + 1)), (2, .int s.2.1), (4, .int x2), (0, .ref 64), (1, .int v1)]) d168_99 rfl kx1 (by decide) rfl ?_
      refine hl_goto (tg := 10) d168_102 rfl ?_
      have h := Option.some.inj h
      subst h
      exact hl_loc (k1 s.2.1 (s.2.1 + 1) (hl_si s.2.2 64 38 x2) rfl) ⟨rfl, rfl, rfl, rfl, trivial⟩
set_option maxRecDepth 20000 in
theorem p_M_nearestIn {X : hl_X} (D : Nat) (v1 : Int32) (σ : hl_M) {r : Int32} {τ : hl_M} (h : f_M_nearestIn v1 σ = some (r, τ)) : hl_R X (D + 3) y168 0 [(0, .ref 64), (1, .int v1)] [] σ (some (.int r)) τ := by
  unfold f_M_nearestIn at h
  refine hl_iconst d168_0 kim1 ?_
  refine hl_istore_n (i := 2) (ls2 := [(2, .int ((-1))), (0, .ref 64), (1, .int v1)]) d168_1 rfl (by decide) rfl ?_
  refine hl_aload_n (i := 0) d168_2 rfl rfl (by decide) ?_
  refine hl_bipush d168_3 kb99 ?_
  refine hl_pi d168_5 qM_368_64 ?_
  refine hl_iconst d168_8 ki0 ?_
  refine hl_istore_n (i := 3) (ls2 := [(3, .int 0), (2, .int ((-1))), (0, .ref 64), (1, .int v1)]) d168_9 rfl (by decide) rfl ?_
  obtain ⟨x3, hx3, h⟩ := hl_bind h
  refine hl_R.loc (ls' := [(0, .ref 64), (1, .int v1), (2, .int ((-1))), (3, .int 0)]) ⟨rfl, rfl, rfl, rfl, trivial⟩ ?_
  refine hl_lp_run3 (P := fun (c0 : Int32) (c1 : Int32) (c2 : hl_M) => hl_R X (D + 3) y168 10 [(0, .ref 64), (1, .int v1), (2, .int c0), (3, .int c1)] [] c2 (some (.int r)) τ) (fun x : Int32 × hl_M => hl_R X (D + 3) y168 105 [(2, .int x.1)] [] x.2 (some (.int r)) τ) (fun c0 c1 c2 o ho h1 h2 => p_M_nearestIn_L10 D v1 (c0, c1, c2) ho h1 (fun a0 a1 e => h2 ((a0, a1)) e)) hl_big ((-1)) 0 (hl_si σ 64 39 99) x3 hx3 ?_
  refine hl_iload_n (i := 2) d168_105 rfl rfl ?_
  obtain ⟨e1, e2⟩ := hl_some2 h
  subst e1; subst e2
  exact hl_iret d168_106 rfl
def f_M_litMany_L4 (v1 : Int32) (σ : hl_M) (s : Int32 × Int32) : Option ((Int32 × Int32) ⊕ (Int32)) :=
  if (f_M_cells σ) ≤ s.2 then
  some (.inr s.1) else
  (f_M_litIn v1 s.2 σ).bind fun x1 =>
  if x1 ≤ 0 then
  some (.inl ((s.1, s.2 + 1))) else
  some (.inl ((s.1 + 1, s.2 + 1)))
def f_M_litMany (v1 : Int32) (σ : hl_M) : Option (Int32) :=
  (hl_lp (f_M_litMany_L4 v1 σ) hl_big ((0, 0))).bind fun x2 =>
  some x2
set_option maxRecDepth 20000 in
theorem p_M_litMany_L4 {X : hl_X} (D : Nat) (v1 : Int32) (σ : hl_M) (s : Int32 × Int32) {o : (Int32 × Int32) ⊕ (Int32)} {v : Option Value} (h : f_M_litMany_L4 v1 σ s = some o) (k1 : ∀ (c0 : Int32) (c1 : Int32), o = .inl ((c0, c1)) → hl_R X (D + 2) y169 4 [(0, .ref 64), (1, .int v1), (2, .int c0), (3, .int c1)] [] σ v σ) (k2 : ∀ (a0 : Int32), o = .inr a0 → hl_R X (D + 2) y169 30 [(2, .int a0)] [] σ v σ) : hl_R X (D + 2) y169 4 [(0, .ref 64), (1, .int v1), (2, .int s.1), (3, .int s.2)] [] σ v σ := by
  unfold f_M_litMany_L4 at h
  refine hl_iload_n (i := 3) d169_4 rfl rfl ?_
  refine hl_aload_n (i := 0) d169_5 rfl rfl (by decide) ?_
  refine hl_cVi (D := (D + 1)) (z := y89) (n := 0) (av := []) (st := [.int s.2]) d169_6 mlM_320 rfl (Nat.le_of_ble_eq_true rfl) (Nat.le_of_ble_eq_true rfl) rc64 ((p_M_cells D σ rfl).dle (by omega)) ?_
  refine hl_icmp_ge (tg := 30) d169_9 rfl (fun hc => ?_) (fun hc => ?_)
  · have h := hl_pos hc h
    have h := Option.some.inj h
    subst h
    exact hl_loc (k2 s.1 rfl) ⟨rfl, trivial⟩
  · have h := hl_neg hc h
    refine hl_aload_n (i := 0) d169_12 rfl rfl (by decide) ?_
    refine hl_iload_n (i := 1) d169_13 rfl rfl ?_
    refine hl_iload_n (i := 3) d169_14 rfl rfl ?_
    obtain ⟨x1, hx1, h⟩ := hl_bind h
    refine hl_cVi (D := (D + 1)) (z := y116) (n := 2) (av := [.int v1, .int s.2]) (st := []) d169_15 mlM_361 rfl (Nat.le_of_ble_eq_true rfl) (Nat.le_of_ble_eq_true rfl) rc64 ((p_M_litIn D v1 s.2 σ hx1).dle (by omega)) ?_
    refine hl_if_le (tg := 24) d169_18 rfl (fun hc => ?_) (fun hc => ?_)
    · have h := hl_pos hc h
      refine hl_iinc (ls2 := [(3, .int (s.2 + 1)), (0, .ref 64), (1, .int v1), (2, .int s.1)]) d169_24 rfl kx1 (by decide) rfl ?_
      refine hl_goto (tg := 4) d169_27 rfl ?_
      have h := Option.some.inj h
      subst h
      exact hl_loc (k1 s.1 (s.2 + 1) rfl) ⟨rfl, rfl, rfl, rfl, trivial⟩
    · have h := hl_neg hc h
      refine hl_iinc (ls2 := [(2, .int (s.1 + 1)), (0, .ref 64), (1, .int v1), (3, .int s.2)]) d169_21 rfl kx1 (by decide) rfl ?_
      refine hl_iinc (ls2 := [(3, .int (s.2 + 1)), (2, .int (s.1 + 1)), (0, .ref 64), (1, .int v1)]) d169_24 rfl kx1 (by decide) rfl ?_
      refine hl_goto (tg := 4) d169_27 rfl ?_
      have h := Option.some.inj h
      subst h
      exact hl_loc (k1 (s.1 + 1) (s.2 + 1) rfl) ⟨rfl, rfl, rfl, rfl, trivial⟩
set_option maxRecDepth 20000 in
theorem p_M_litMany {X : hl_X} (D : Nat) (v1 : Int32) (σ : hl_M) {r : Int32} (h : f_M_litMany v1 σ = some r) : hl_R X (D + 2) y169 0 [(0, .ref 64), (1, .int v1)] [] σ (some (.int r)) σ := by
  unfold f_M_litMany at h
  refine hl_iconst d169_0 ki0 ?_
  refine hl_istore_n (i := 2) (ls2 := [(2, .int 0), (0, .ref 64), (1, .int v1)]) d169_1 rfl (by decide) rfl ?_
  refine hl_iconst d169_2 ki0 ?_
  refine hl_istore_n (i := 3) (ls2 := [(3, .int 0), (2, .int 0), (0, .ref 64), (1, .int v1)]) d169_3 rfl (by decide) rfl ?_
  obtain ⟨x2, hx2, h⟩ := hl_bind h
  refine hl_R.loc (ls' := [(0, .ref 64), (1, .int v1), (2, .int 0), (3, .int 0)]) ⟨rfl, rfl, rfl, rfl, trivial⟩ ?_
  refine hl_lp_run2 (P := fun (c0 : Int32) (c1 : Int32) => hl_R X (D + 2) y169 4 [(0, .ref 64), (1, .int v1), (2, .int c0), (3, .int c1)] [] σ (some (.int r)) σ) (fun x : Int32 => hl_R X (D + 2) y169 30 [(2, .int x)] [] σ (some (.int r)) σ) (fun c0 c1 o ho h1 h2 => p_M_litMany_L4 D v1 σ (c0, c1) ho h1 (fun a0 e => h2 a0 e)) hl_big 0 0 x2 hx2 ?_
  refine hl_iload_n (i := 2) d169_30 rfl rfl ?_
  have h := Option.some.inj h
  subst h
  exact hl_iret d169_31 rfl
def f_M_nearest (v1 : Int32) (v2 : Int32) (σ : hl_M) : Option (Int32 × hl_M) :=
  if (f_M_isBeat v1) = 0 then
  some (((-1), σ)) else
  if (f_M_isIn v2.toInt64 0 3) = 0 then
  some (((-1), σ)) else
  if v2 = 3 then
  (f_M_litMany v1 σ).bind fun x2 =>
  some ((x2, σ)) else
  (f_M_nearestIn v1 σ).bind fun x1 =>
  if x1.1 = ((-1)) then
  some (((-1), x1.2)) else
  if v2 = 0 then
  some ((x1.1, x1.2)) else
  if v2 = 1 then
  some ((x1.2.1 64 38, x1.2)) else
  some ((x1.2.1 64 39, x1.2))
set_option maxRecDepth 20000 in
theorem p_M_nearest {X : hl_X} (D : Nat) (v1 : Int32) (v2 : Int32) (σ : hl_M) {r : Int32} {τ : hl_M} (h : f_M_nearest v1 v2 σ = some (r, τ)) : hl_R X (D + 4) y167 0 [(0, .ref 64), (1, .int v1), (2, .int v2)] [] σ (some (.int r)) τ := by
  unfold f_M_nearest at h
  refine hl_iload_n (i := 1) d167_0 rfl rfl ?_
  refine hl_cSi (D := (D + 3)) (z := y139) (n := 1) (av := [.int v1]) (st := []) d167_1 mlM_409 rfl (Nat.le_of_ble_eq_true rfl) (Nat.le_of_ble_eq_true rfl) ((p_M_isBeat D v1 σ rfl).dle (by omega)) ?_
  refine hl_if_eq (tg := 19) d167_4 rfl (fun hc => ?_) (fun hc => ?_)
  · have h := hl_pos hc h
    refine hl_iconst d167_19 kim1 ?_
    obtain ⟨e1, e2⟩ := hl_some2 h
    subst e1; subst e2
    exact hl_iret d167_20 rfl
  · have h := hl_neg hc h
    refine hl_iload_n (i := 2) d167_7 rfl rfl ?_
    refine hl_i2l d167_8 ?_
    refine hl_lconst (x := 0) d167_9 (by decide) ?_
    refine hl_ldc2 d167_10 wlM_421 ?_
    refine hl_cSi (D := (D + 3)) (z := y70) (n := 3) (av := [.long v2.toInt64, .long 0, .long 3]) (st := []) d167_13 mlM_216 rfl (Nat.le_of_ble_eq_true rfl) (Nat.le_of_ble_eq_true rfl) ((p_M_isIn D v2.toInt64 0 3 σ rfl).dle (by omega)) ?_
    refine hl_if_ne (tg := 21) d167_16 rfl (fun hc => ?_) (fun hc => ?_)
    · have h := hl_neg hc h
      refine hl_iload_n (i := 2) d167_21 rfl rfl ?_
      refine hl_iconst d167_22 ki3 ?_
      refine hl_icmp_ne (tg := 32) d167_23 rfl (fun hc => ?_) (fun hc => ?_)
      · have h := hl_neg hc h
        refine hl_aload_n (i := 0) d167_32 rfl rfl (by decide) ?_
        refine hl_iload_n (i := 1) d167_33 rfl rfl ?_
        obtain ⟨x1, hx1, h⟩ := hl_bind h
        refine hl_cVi (D := (D + 3)) (z := y168) (n := 1) (av := [.int v1]) (st := []) d167_34 mlM_426 rfl (Nat.le_of_ble_eq_true rfl) (Nat.le_of_ble_eq_true rfl) rc64 ((p_M_nearestIn D v1 σ hx1).dle (by omega)) ?_
        refine hl_istore_n (i := 3) (ls2 := [(3, .int x1.1), (0, .ref 64), (1, .int v1), (2, .int v2)]) d167_37 rfl (by decide) rfl ?_
        refine hl_iload_n (i := 3) d167_38 rfl rfl ?_
        refine hl_iconst d167_39 kim1 ?_
        refine hl_icmp_ne (tg := 47) d167_40 rfl (fun hc => ?_) (fun hc => ?_)
        · have h := hl_neg hc h
          refine hl_iload_n (i := 2) d167_47 rfl rfl ?_
          refine hl_if_ne (tg := 55) d167_48 rfl (fun hc => ?_) (fun hc => ?_)
          · have h := hl_neg hc h
            refine hl_iload_n (i := 2) d167_55 rfl rfl ?_
            refine hl_iconst d167_56 ki1 ?_
            refine hl_icmp_ne (tg := 67) d167_57 rfl (fun hc => ?_) (fun hc => ?_)
            · have h := hl_neg hc h
              refine hl_aload_n (i := 0) d167_67 rfl rfl (by decide) ?_
              refine hl_gi d167_68 gM_368_64 ?_
              obtain ⟨e1, e2⟩ := hl_some2 h
              subst e1; subst e2
              exact hl_iret d167_71 rfl
            · have h := hl_pos hc h
              refine hl_aload_n (i := 0) d167_60 rfl rfl (by decide) ?_
              refine hl_gi d167_61 gM_371_64 ?_
              refine hl_goto (tg := 71) d167_64 rfl ?_
              obtain ⟨e1, e2⟩ := hl_some2 h
              subst e1; subst e2
              exact hl_iret d167_71 rfl
          · have h := hl_pos hc h
            refine hl_iload_n (i := 3) d167_51 rfl rfl ?_
            refine hl_goto (tg := 71) d167_52 rfl ?_
            obtain ⟨e1, e2⟩ := hl_some2 h
            subst e1; subst e2
            exact hl_iret d167_71 rfl
        · have h := hl_pos hc h
          refine hl_iconst d167_43 kim1 ?_
          refine hl_goto (tg := 71) d167_44 rfl ?_
          obtain ⟨e1, e2⟩ := hl_some2 h
          subst e1; subst e2
          exact hl_iret d167_71 rfl
      · have h := hl_pos hc h
        refine hl_aload_n (i := 0) d167_26 rfl rfl (by decide) ?_
        refine hl_iload_n (i := 1) d167_27 rfl rfl ?_
        obtain ⟨x2, hx2, h⟩ := hl_bind h
        refine hl_cVi (D := (D + 3)) (z := y169) (n := 1) (av := [.int v1]) (st := []) d167_28 mlM_423 rfl (Nat.le_of_ble_eq_true rfl) (Nat.le_of_ble_eq_true rfl) rc64 ((p_M_litMany D v1 σ hx2).dle (by omega)) ?_
        obtain ⟨e1, e2⟩ := hl_some2 h
        subst e1; subst e2
        exact hl_iret d167_31 rfl
    · have h := hl_pos hc h
      refine hl_iconst d167_19 kim1 ?_
      obtain ⟨e1, e2⟩ := hl_some2 h
      subst e1; subst e2
      exact hl_iret d167_20 rfl
def f_X_said_L4 (v1 : Int32) (s : Int32 × Int32 × hl_M) : Option ((Int32 × Int32 × hl_M) ⊕ ((Int32 × hl_M) ⊕ (Int32 × Int32 × hl_M))) :=
  if 100 ≤ s.2.1 then
  some (.inr (.inl ((s.1, s.2.2)))) else
  (f_Vw_look s.2.1 ((-1)) s.2.2).bind fun x1 =>
  (f_Vw_wordRead x1).bind fun x2 =>
  if x2 = ((-1)) then
  some (.inl ((s.1, s.2.1 + 1, x1))) else
  if s.1 = v1 then
  some (.inr (.inr (((s.2.1, x2, x1))))) else
  some (.inl ((s.1 + 1, s.2.1 + 1, x1)))
def f_X_said (v1 : Int32) (σ : hl_M) : Option (Int32 × hl_M) :=
  (hl_lp (f_X_said_L4 v1) hl_big ((0, 0, σ))).bind fun x3 =>
  Sum.elim (fun x4 =>
  if v1 = ((-1)) then
  some ((x4.1, x4.2)) else
  some (((-1), x4.2))) (fun x5 =>
  some (((100 * x5.1) + x5.2.1, x5.2.2))) x3
set_option maxRecDepth 20000 in
theorem p_X_said_L4 {X : hl_X} (D : Nat) (v1 : Int32) (s : Int32 × Int32 × hl_M) {o : (Int32 × Int32 × hl_M) ⊕ ((Int32 × hl_M) ⊕ (Int32 × Int32 × hl_M))} {v : Option Value} {τ : hl_M} (h : f_X_said_L4 v1 s = some o) (k1 : ∀ (c0 : Int32) (c1 : Int32) (c2 : hl_M), o = .inl ((c0, c1, c2)) → hl_R X (D + 3) y170 4 [(0, .ref 0), (1, .int v1), (2, .int c0), (3, .int c1)] [] c2 v τ) (k2 : ∀ (a0 : Int32) (a1 : hl_M), o = .inr (.inl (a0, a1)) → hl_R X (D + 3) y170 56 [(1, .int v1), (2, .int a0)] [] a1 v τ) (k3 : ∀ (a0 : Int32) (a1 : Int32) (a2 : hl_M), o = .inr (.inr ((a0, a1, a2))) → hl_R X (D + 3) y170 39 [(3, .int a0), (4, .int a1)] [] a2 v τ) : hl_R X (D + 3) y170 4 [(0, .ref 0), (1, .int v1), (2, .int s.1), (3, .int s.2.1)] [] s.2.2 v τ := by
  unfold f_X_said_L4 at h
  refine hl_iload_n (i := 3) d170_4 rfl rfl ?_
  refine hl_bipush d170_5 kb100 ?_
  refine hl_icmp_ge (tg := 56) d170_7 rfl (fun hc => ?_) (fun hc => ?_)
  · have h := hl_pos hc h
    have h := Option.some.inj h
    subst h
    exact hl_loc (k2 s.1 s.2.2 rfl) ⟨rfl, rfl, trivial⟩
  · have h := hl_neg hc h
    refine hl_aload_n (i := 0) d170_10 rfl rfl (by decide) ?_
    refine hl_gr d170_11 gX_58_0 ?_
    refine hl_iload_n (i := 3) d170_14 rfl rfl ?_
    refine hl_iconst d170_15 kim1 ?_
    obtain ⟨x1, hx1, h⟩ := hl_bind h
    refine hl_cVv (D := (D + 2)) (z := y103) (n := 2) (av := [.int s.2.1, .int ((-1))]) (st := []) d170_16 mlX_219 rfl (Nat.le_of_ble_eq_true rfl) (Nat.le_of_ble_eq_true rfl) rc37 ((p_Vw_look D s.2.1 ((-1)) s.2.2 hx1).dle (by omega)) ?_
    refine hl_aload_n (i := 0) d170_19 rfl rfl (by decide) ?_
    refine hl_gr d170_20 gX_58_0 ?_
    obtain ⟨x2, hx2, h⟩ := hl_bind h
    refine hl_cVi (D := (D + 2)) (z := y158) (n := 0) (av := []) (st := []) d170_23 mlX_235 rfl (Nat.le_of_ble_eq_true rfl) (Nat.le_of_ble_eq_true rfl) rc37 ((p_Vw_wordRead D x1 hx2).dle (by omega)) ?_
    refine hl_istore (ls2 := [(4, .int x2), (0, .ref 0), (1, .int v1), (2, .int s.1), (3, .int s.2.1)]) d170_26 (by decide) rfl ?_
    refine hl_iload d170_28 rfl ?_
    refine hl_iconst d170_30 kim1 ?_
    refine hl_icmp_eq (tg := 50) d170_31 rfl (fun hc => ?_) (fun hc => ?_)
    · have h := hl_pos hc h
      refine hl_iinc (ls2 := [(3, .int (s.2.1 + 1)), (4, .int x2), (0, .ref 0), (1, .int v1), (2, .int s.1)]) d170_50 rfl kx1 (by decide) rfl ?_
      refine hl_goto (tg := 4) d170_53 rfl ?_
      have h := Option.some.inj h
      subst h
      exact hl_loc (k1 s.1 (s.2.1 + 1) x1 rfl) ⟨rfl, rfl, rfl, rfl, trivial⟩
    · have h := hl_neg hc h
      refine hl_iload_n (i := 2) d170_34 rfl rfl ?_
      refine hl_iload_n (i := 1) d170_35 rfl rfl ?_
      refine hl_icmp_ne (tg := 47) d170_36 rfl (fun hc => ?_) (fun hc => ?_)
      · have h := hl_neg hc h
        refine hl_iinc (ls2 := [(2, .int (s.1 + 1)), (4, .int x2), (0, .ref 0), (1, .int v1), (3, .int s.2.1)]) d170_47 rfl kx1 (by decide) rfl ?_
        refine hl_iinc (ls2 := [(3, .int (s.2.1 + 1)), (2, .int (s.1 + 1)), (4, .int x2), (0, .ref 0), (1, .int v1)]) d170_50 rfl kx1 (by decide) rfl ?_
        refine hl_goto (tg := 4) d170_53 rfl ?_
        have h := Option.some.inj h
        subst h
        exact hl_loc (k1 (s.1 + 1) (s.2.1 + 1) x1 rfl) ⟨rfl, rfl, rfl, rfl, trivial⟩
      · have h := hl_pos hc h
        have h := Option.some.inj h
        subst h
        exact hl_loc (k3 s.2.1 x2 x1 rfl) ⟨rfl, rfl, trivial⟩
set_option maxRecDepth 20000 in
theorem p_X_said {X : hl_X} (D : Nat) (v1 : Int32) (σ : hl_M) {r : Int32} {τ : hl_M} (h : f_X_said v1 σ = some (r, τ)) : hl_R X (D + 3) y170 0 [(0, .ref 0), (1, .int v1)] [] σ (some (.int r)) τ := by
  unfold f_X_said at h
  refine hl_iconst d170_0 ki0 ?_
  refine hl_istore_n (i := 2) (ls2 := [(2, .int 0), (0, .ref 0), (1, .int v1)]) d170_1 rfl (by decide) rfl ?_
  refine hl_iconst d170_2 ki0 ?_
  refine hl_istore_n (i := 3) (ls2 := [(3, .int 0), (2, .int 0), (0, .ref 0), (1, .int v1)]) d170_3 rfl (by decide) rfl ?_
  obtain ⟨x3, hx3, h⟩ := hl_bind h
  refine hl_R.loc (ls' := [(0, .ref 0), (1, .int v1), (2, .int 0), (3, .int 0)]) ⟨rfl, rfl, rfl, rfl, trivial⟩ ?_
  refine hl_lp_run3 (P := fun (c0 : Int32) (c1 : Int32) (c2 : hl_M) => hl_R X (D + 3) y170 4 [(0, .ref 0), (1, .int v1), (2, .int c0), (3, .int c1)] [] c2 (some (.int r)) τ) (Sum.elim (fun x : Int32 × hl_M => hl_R X (D + 3) y170 56 [(1, .int v1), (2, .int x.1)] [] x.2 (some (.int r)) τ) (fun x : Int32 × Int32 × hl_M => hl_R X (D + 3) y170 39 [(3, .int x.1), (4, .int x.2.1)] [] x.2.2 (some (.int r)) τ)) (fun c0 c1 c2 o ho h1 h2 => p_X_said_L4 D v1 (c0, c1, c2) ho h1 (fun a0 a1 e => h2 (.inl (a0, a1)) e) (fun a0 a1 a2 e => h2 (.inr ((a0, a1, a2))) e)) hl_big 0 0 σ x3 hx3 ?_
  rcases hl_sum h with ⟨x4, e_x4, h⟩ | ⟨x5, e_x5, h⟩
  · subst e_x4
    refine hl_iload_n (i := 1) d170_56 rfl rfl ?_
    refine hl_iconst d170_57 kim1 ?_
    refine hl_icmp_ne (tg := 65) d170_58 rfl (fun hc => ?_) (fun hc => ?_)
    · have h := hl_neg hc h
      refine hl_iconst d170_65 kim1 ?_
      obtain ⟨e1, e2⟩ := hl_some2 h
      subst e1; subst e2
      exact hl_iret d170_66 rfl
    · have h := hl_pos hc h
      refine hl_iload_n (i := 2) d170_61 rfl rfl ?_
      refine hl_goto (tg := 66) d170_62 rfl ?_
      obtain ⟨e1, e2⟩ := hl_some2 h
      subst e1; subst e2
      exact hl_iret d170_66 rfl
  · subst e_x5
    refine hl_bipush d170_39 kb100 ?_
    refine hl_iload_n (i := 3) d170_41 rfl rfl ?_
    refine hl_imul d170_42 ?_
    refine hl_iload d170_43 rfl ?_
    refine hl_iadd d170_45 ?_
    obtain ⟨e1, e2⟩ := hl_some2 h
    subst e1; subst e2
    exact hl_iret d170_46 rfl
def f_M_said_L4 (v1 : Int32) (σ : hl_M) (s : Int32 × Int32) : Option ((Int32 × Int32) ⊕ ((Int32) ⊕ (Int32 × Int32))) :=
  if 100 ≤ s.2 then
  some (.inr (.inl s.1)) else
  (f_M_readIn s.2 0 σ).bind fun x1 =>
  if x1 = ((-1)) then
  some (.inl ((s.1, s.2 + 1))) else
  if s.1 = v1 then
  some (.inr (.inr (((s.2, x1))))) else
  some (.inl ((s.1 + 1, s.2 + 1)))
def f_M_said (v1 : Int32) (σ : hl_M) : Option (Int32) :=
  (hl_lp (f_M_said_L4 v1 σ) hl_big ((0, 0))).bind fun x2 =>
  Sum.elim (fun x3 =>
  if v1 = ((-1)) then
  some x3 else
  some ((-1))) (fun x4 =>
  some ((100 * x4.1) + x4.2)) x2
set_option maxRecDepth 20000 in
theorem p_M_said_L4 {X : hl_X} (D : Nat) (v1 : Int32) (σ : hl_M) (s : Int32 × Int32) {o : (Int32 × Int32) ⊕ ((Int32) ⊕ (Int32 × Int32))} {v : Option Value} (h : f_M_said_L4 v1 σ s = some o) (k1 : ∀ (c0 : Int32) (c1 : Int32), o = .inl ((c0, c1)) → hl_R X (D + 4) y171 4 [(0, .ref 64), (1, .int v1), (2, .int c0), (3, .int c1)] [] σ v σ) (k2 : ∀ (a0 : Int32), o = .inr (.inl a0) → hl_R X (D + 4) y171 49 [(1, .int v1), (2, .int a0)] [] σ v σ) (k3 : ∀ (a0 : Int32) (a1 : Int32), o = .inr (.inr ((a0, a1))) → hl_R X (D + 4) y171 32 [(3, .int a0), (4, .int a1)] [] σ v σ) : hl_R X (D + 4) y171 4 [(0, .ref 64), (1, .int v1), (2, .int s.1), (3, .int s.2)] [] σ v σ := by
  unfold f_M_said_L4 at h
  refine hl_iload_n (i := 3) d171_4 rfl rfl ?_
  refine hl_bipush d171_5 kb100 ?_
  refine hl_icmp_ge (tg := 49) d171_7 rfl (fun hc => ?_) (fun hc => ?_)
  · have h := hl_pos hc h
    have h := Option.some.inj h
    subst h
    exact hl_loc (k2 s.1 rfl) ⟨rfl, rfl, trivial⟩
  · have h := hl_neg hc h
    refine hl_aload_n (i := 0) d171_10 rfl rfl (by decide) ?_
    refine hl_iload_n (i := 3) d171_11 rfl rfl ?_
    refine hl_iconst d171_12 ki0 ?_
    obtain ⟨x1, hx1, h⟩ := hl_bind h
    refine hl_cVi (D := (D + 3)) (z := y160) (n := 2) (av := [.int s.2, .int 0]) (st := []) d171_13 mlM_417 rfl (Nat.le_of_ble_eq_true rfl) (Nat.le_of_ble_eq_true rfl) rc64 ((p_M_readIn D s.2 0 σ hx1).dle (by omega)) ?_
    refine hl_istore (ls2 := [(4, .int x1), (0, .ref 64), (1, .int v1), (2, .int s.1), (3, .int s.2)]) d171_16 (by decide) rfl ?_
    refine hl_iload d171_18 rfl ?_
    refine hl_iconst d171_20 kim1 ?_
    refine hl_icmp_ne (tg := 27) d171_21 rfl (fun hc => ?_) (fun hc => ?_)
    · have h := hl_neg hc h
      refine hl_iload_n (i := 2) d171_27 rfl rfl ?_
      refine hl_iload_n (i := 1) d171_28 rfl rfl ?_
      refine hl_icmp_ne (tg := 40) d171_29 rfl (fun hc => ?_) (fun hc => ?_)
      · have h := hl_neg hc h
        refine hl_iinc (ls2 := [(2, .int (s.1 + 1)), (4, .int x1), (0, .ref 64), (1, .int v1), (3, .int s.2)]) d171_40 rfl kx1 (by decide) rfl ?_
        refine hl_iinc (ls2 := [(3, .int (s.2 + 1)), (2, .int (s.1 + 1)), (4, .int x1), (0, .ref 64), (1, .int v1)]) d171_43 rfl kx1 (by decide) rfl ?_
        refine hl_goto (tg := 4) d171_46 rfl ?_
        have h := Option.some.inj h
        subst h
        exact hl_loc (k1 (s.1 + 1) (s.2 + 1) rfl) ⟨rfl, rfl, rfl, rfl, trivial⟩
      · have h := hl_pos hc h
        have h := Option.some.inj h
        subst h
        exact hl_loc (k3 s.2 x1 rfl) ⟨rfl, rfl, trivial⟩
    · have h := hl_pos hc h
      refine hl_goto (tg := 43) d171_24 rfl ?_
      refine hl_iinc (ls2 := [(3, .int (s.2 + 1)), (4, .int x1), (0, .ref 64), (1, .int v1), (2, .int s.1)]) d171_43 rfl kx1 (by decide) rfl ?_
      refine hl_goto (tg := 4) d171_46 rfl ?_
      have h := Option.some.inj h
      subst h
      exact hl_loc (k1 s.1 (s.2 + 1) rfl) ⟨rfl, rfl, rfl, rfl, trivial⟩
set_option maxRecDepth 20000 in
theorem p_M_said {X : hl_X} (D : Nat) (v1 : Int32) (σ : hl_M) {r : Int32} (h : f_M_said v1 σ = some r) : hl_R X (D + 4) y171 0 [(0, .ref 64), (1, .int v1)] [] σ (some (.int r)) σ := by
  unfold f_M_said at h
  refine hl_iconst d171_0 ki0 ?_
  refine hl_istore_n (i := 2) (ls2 := [(2, .int 0), (0, .ref 64), (1, .int v1)]) d171_1 rfl (by decide) rfl ?_
  refine hl_iconst d171_2 ki0 ?_
  refine hl_istore_n (i := 3) (ls2 := [(3, .int 0), (2, .int 0), (0, .ref 64), (1, .int v1)]) d171_3 rfl (by decide) rfl ?_
  obtain ⟨x2, hx2, h⟩ := hl_bind h
  refine hl_R.loc (ls' := [(0, .ref 64), (1, .int v1), (2, .int 0), (3, .int 0)]) ⟨rfl, rfl, rfl, rfl, trivial⟩ ?_
  refine hl_lp_run2 (P := fun (c0 : Int32) (c1 : Int32) => hl_R X (D + 4) y171 4 [(0, .ref 64), (1, .int v1), (2, .int c0), (3, .int c1)] [] σ (some (.int r)) σ) (Sum.elim (fun x : Int32 => hl_R X (D + 4) y171 49 [(1, .int v1), (2, .int x)] [] σ (some (.int r)) σ) (fun x : Int32 × Int32 => hl_R X (D + 4) y171 32 [(3, .int x.1), (4, .int x.2)] [] σ (some (.int r)) σ)) (fun c0 c1 o ho h1 h2 => p_M_said_L4 D v1 σ (c0, c1) ho h1 (fun a0 e => h2 (.inl a0) e) (fun a0 a1 e => h2 (.inr ((a0, a1))) e)) hl_big 0 0 x2 hx2 ?_
  rcases hl_sum h with ⟨x3, e_x3, h⟩ | ⟨x4, e_x4, h⟩
  · subst e_x3
    refine hl_iload_n (i := 1) d171_49 rfl rfl ?_
    refine hl_iconst d171_50 kim1 ?_
    refine hl_icmp_ne (tg := 58) d171_51 rfl (fun hc => ?_) (fun hc => ?_)
    · have h := hl_neg hc h
      refine hl_iconst d171_58 kim1 ?_
      have h := Option.some.inj h
      subst h
      exact hl_iret d171_59 rfl
    · have h := hl_pos hc h
      refine hl_iload_n (i := 2) d171_54 rfl rfl ?_
      refine hl_goto (tg := 59) d171_55 rfl ?_
      have h := Option.some.inj h
      subst h
      exact hl_iret d171_59 rfl
  · subst e_x4
    refine hl_bipush d171_32 kb100 ?_
    refine hl_iload_n (i := 3) d171_34 rfl rfl ?_
    refine hl_imul d171_35 ?_
    refine hl_iload d171_36 rfl ?_
    refine hl_iadd d171_38 ?_
    have h := Option.some.inj h
    subst h
    exact hl_iret d171_39 rfl
def f_X_between_L32 (v2 : Int32) (s : Int32 × Int32 × hl_M) : Option ((Int32 × Int32 × hl_M) ⊕ (Int32 × hl_M)) :=
  if v2 ≤ s.2.1 then
  some (.inr (((s.1, s.2.2)))) else
  (f_Vw_look s.2.1 ((-1)) s.2.2).bind fun x1 =>
  (f_Vw_wordRead x1).bind fun x2 =>
  if x2 = ((-1)) then
  some (.inl ((s.1, s.2.1 + 1, x1))) else
  some (.inl ((s.1 + 1, s.2.1 + 1, x1)))
def f_X_between (v1 : Int32) (v2 : Int32) (σ : hl_M) : Option (Int32 × hl_M) :=
  if (f_X_within v1 100) = 0 then
  some (((-1), σ)) else
  if (f_X_within v2 100) = 0 then
  some (((-1), σ)) else
  if v1 ≤ v2 then
  (hl_lp (f_X_between_L32 v2) hl_big ((0, v1 + 1, σ))).bind fun x3 =>
  some ((x3.1, x3.2)) else
  some (((-1), σ))
set_option maxRecDepth 20000 in
theorem p_X_between_L32 {X : hl_X} (D : Nat) (v2 : Int32) (s : Int32 × Int32 × hl_M) {o : (Int32 × Int32 × hl_M) ⊕ (Int32 × hl_M)} {v : Option Value} {τ : hl_M} (h : f_X_between_L32 v2 s = some o) (k1 : ∀ (c0 : Int32) (c1 : Int32) (c2 : hl_M), o = .inl ((c0, c1, c2)) → hl_R X (D + 3) y172 32 [(0, .ref 0), (2, .int v2), (3, .int c0), (4, .int c1)] [] c2 v τ) (k2 : ∀ (a0 : Int32) (a1 : hl_M), o = .inr ((a0, a1)) → hl_R X (D + 3) y172 68 [(3, .int a0)] [] a1 v τ) : hl_R X (D + 3) y172 32 [(0, .ref 0), (2, .int v2), (3, .int s.1), (4, .int s.2.1)] [] s.2.2 v τ := by
  unfold f_X_between_L32 at h
  refine hl_iload d172_32 rfl ?_
  refine hl_iload_n (i := 2) d172_34 rfl rfl ?_
  refine hl_icmp_ge (tg := 68) d172_35 rfl (fun hc => ?_) (fun hc => ?_)
  · have h := hl_pos hc h
    have h := Option.some.inj h
    subst h
    exact hl_loc (k2 s.1 s.2.2 rfl) ⟨rfl, trivial⟩
  · have h := hl_neg hc h
    refine hl_aload_n (i := 0) d172_38 rfl rfl (by decide) ?_
    refine hl_gr d172_39 gX_58_0 ?_
    refine hl_iload d172_42 rfl ?_
    refine hl_iconst d172_44 kim1 ?_
    obtain ⟨x1, hx1, h⟩ := hl_bind h
    refine hl_cVv (D := (D + 2)) (z := y103) (n := 2) (av := [.int s.2.1, .int ((-1))]) (st := []) d172_45 mlX_219 rfl (Nat.le_of_ble_eq_true rfl) (Nat.le_of_ble_eq_true rfl) rc37 ((p_Vw_look D s.2.1 ((-1)) s.2.2 hx1).dle (by omega)) ?_
    refine hl_aload_n (i := 0) d172_48 rfl rfl (by decide) ?_
    refine hl_gr d172_49 gX_58_0 ?_
    obtain ⟨x2, hx2, h⟩ := hl_bind h
    refine hl_cVi (D := (D + 2)) (z := y158) (n := 0) (av := []) (st := []) d172_52 mlX_235 rfl (Nat.le_of_ble_eq_true rfl) (Nat.le_of_ble_eq_true rfl) rc37 ((p_Vw_wordRead D x1 hx2).dle (by omega)) ?_
    refine hl_iconst d172_55 kim1 ?_
    refine hl_icmp_eq (tg := 62) d172_56 rfl (fun hc => ?_) (fun hc => ?_)
    · have h := hl_pos hc h
      refine hl_iinc (ls2 := [(4, .int (s.2.1 + 1)), (0, .ref 0), (2, .int v2), (3, .int s.1)]) d172_62 rfl kx1 (by decide) rfl ?_
      refine hl_goto (tg := 32) d172_65 rfl ?_
      have h := Option.some.inj h
      subst h
      exact hl_loc (k1 s.1 (s.2.1 + 1) x1 rfl) ⟨rfl, rfl, rfl, rfl, trivial⟩
    · have h := hl_neg hc h
      refine hl_iinc (ls2 := [(3, .int (s.1 + 1)), (0, .ref 0), (2, .int v2), (4, .int s.2.1)]) d172_59 rfl kx1 (by decide) rfl ?_
      refine hl_iinc (ls2 := [(4, .int (s.2.1 + 1)), (3, .int (s.1 + 1)), (0, .ref 0), (2, .int v2)]) d172_62 rfl kx1 (by decide) rfl ?_
      refine hl_goto (tg := 32) d172_65 rfl ?_
      have h := Option.some.inj h
      subst h
      exact hl_loc (k1 (s.1 + 1) (s.2.1 + 1) x1 rfl) ⟨rfl, rfl, rfl, rfl, trivial⟩
set_option maxRecDepth 20000 in
theorem p_X_between {X : hl_X} (D : Nat) (v1 : Int32) (v2 : Int32) (σ : hl_M) {r : Int32} {τ : hl_M} (h : f_X_between v1 v2 σ = some (r, τ)) : hl_R X (D + 3) y172 0 [(0, .ref 0), (1, .int v1), (2, .int v2)] [] σ (some (.int r)) τ := by
  unfold f_X_between at h
  refine hl_iload_n (i := 1) d172_0 rfl rfl ?_
  refine hl_bipush d172_1 kb100 ?_
  refine hl_cSi (D := (D + 2)) (z := y2) (n := 2) (av := [.int v1, .int 100]) (st := []) d172_3 mlX_154 rfl (Nat.le_of_ble_eq_true rfl) (Nat.le_of_ble_eq_true rfl) ((p_X_within D v1 100 σ rfl).dle (by omega)) ?_
  refine hl_if_eq (tg := 23) d172_6 rfl (fun hc => ?_) (fun hc => ?_)
  · have h := hl_pos hc h
    refine hl_iconst d172_23 kim1 ?_
    obtain ⟨e1, e2⟩ := hl_some2 h
    subst e1; subst e2
    exact hl_iret d172_24 rfl
  · have h := hl_neg hc h
    refine hl_iload_n (i := 2) d172_9 rfl rfl ?_
    refine hl_bipush d172_10 kb100 ?_
    refine hl_cSi (D := (D + 2)) (z := y2) (n := 2) (av := [.int v2, .int 100]) (st := []) d172_12 mlX_154 rfl (Nat.le_of_ble_eq_true rfl) (Nat.le_of_ble_eq_true rfl) ((p_X_within D v2 100 σ rfl).dle (by omega)) ?_
    refine hl_if_eq (tg := 23) d172_15 rfl (fun hc => ?_) (fun hc => ?_)
    · have h := hl_pos hc h
      refine hl_iconst d172_23 kim1 ?_
      obtain ⟨e1, e2⟩ := hl_some2 h
      subst e1; subst e2
      exact hl_iret d172_24 rfl
    · have h := hl_neg hc h
      refine hl_iload_n (i := 2) d172_18 rfl rfl ?_
      refine hl_iload_n (i := 1) d172_19 rfl rfl ?_
      refine hl_icmp_ge (tg := 25) d172_20 rfl (fun hc => ?_) (fun hc => ?_)
      · have h := hl_pos hc h
        refine hl_iconst d172_25 ki0 ?_
        refine hl_istore_n (i := 3) (ls2 := [(3, .int 0), (0, .ref 0), (1, .int v1), (2, .int v2)]) d172_26 rfl (by decide) rfl ?_
        refine hl_iload_n (i := 1) d172_27 rfl rfl ?_
        refine hl_iconst d172_28 ki1 ?_
        refine hl_iadd d172_29 ?_
        refine hl_istore (ls2 := [(4, .int (v1 + 1)), (3, .int 0), (0, .ref 0), (1, .int v1), (2, .int v2)]) d172_30 (by decide) rfl ?_
        obtain ⟨x3, hx3, h⟩ := hl_bind h
        refine hl_R.loc (ls' := [(0, .ref 0), (2, .int v2), (3, .int 0), (4, .int (v1 + 1))]) ⟨rfl, rfl, rfl, rfl, trivial⟩ ?_
        refine hl_lp_run3 (P := fun (c0 : Int32) (c1 : Int32) (c2 : hl_M) => hl_R X (D + 3) y172 32 [(0, .ref 0), (2, .int v2), (3, .int c0), (4, .int c1)] [] c2 (some (.int r)) τ) (fun x : Int32 × hl_M => hl_R X (D + 3) y172 68 [(3, .int x.1)] [] x.2 (some (.int r)) τ) (fun c0 c1 c2 o ho h1 h2 => p_X_between_L32 D v2 (c0, c1, c2) ho h1 (fun a0 a1 e => h2 ((a0, a1)) e)) hl_big 0 (v1 + 1) σ x3 hx3 ?_
        refine hl_iload_n (i := 3) d172_68 rfl rfl ?_
        obtain ⟨e1, e2⟩ := hl_some2 h
        subst e1; subst e2
        exact hl_iret d172_69 rfl
      · have h := hl_neg hc h
        refine hl_iconst d172_23 kim1 ?_
        obtain ⟨e1, e2⟩ := hl_some2 h
        subst e1; subst e2
        exact hl_iret d172_24 rfl
def f_M_between_L28 (v2 : Int32) (σ : hl_M) (s : Int32 × Int32) : Option ((Int32 × Int32) ⊕ (Int32)) :=
  if v2 ≤ s.2 then
  some (.inr s.1) else
  (f_M_readIn s.2 0 σ).bind fun x1 =>
  if x1 = ((-1)) then
  some (.inl ((s.1, s.2 + 1))) else
  some (.inl ((s.1 + 1, s.2 + 1)))
def f_M_between (v1 : Int32) (v2 : Int32) (σ : hl_M) : Option (Int32) :=
  if (f_M_isBeat v1) = 0 then
  some ((-1)) else
  if (f_M_isBeat v2) = 0 then
  some ((-1)) else
  if v1 ≤ v2 then
  (hl_lp (f_M_between_L28 v2 σ) hl_big ((0, v1 + 1))).bind fun x2 =>
  some x2 else
  some ((-1))
set_option maxRecDepth 20000 in
theorem p_M_between_L28 {X : hl_X} (D : Nat) (v2 : Int32) (σ : hl_M) (s : Int32 × Int32) {o : (Int32 × Int32) ⊕ (Int32)} {v : Option Value} (h : f_M_between_L28 v2 σ s = some o) (k1 : ∀ (c0 : Int32) (c1 : Int32), o = .inl ((c0, c1)) → hl_R X (D + 4) y173 28 [(0, .ref 64), (2, .int v2), (3, .int c0), (4, .int c1)] [] σ v σ) (k2 : ∀ (a0 : Int32), o = .inr a0 → hl_R X (D + 4) y173 54 [(3, .int a0)] [] σ v σ) : hl_R X (D + 4) y173 28 [(0, .ref 64), (2, .int v2), (3, .int s.1), (4, .int s.2)] [] σ v σ := by
  unfold f_M_between_L28 at h
  refine hl_iload d173_28 rfl ?_
  refine hl_iload_n (i := 2) d173_30 rfl rfl ?_
  refine hl_icmp_ge (tg := 54) d173_31 rfl (fun hc => ?_) (fun hc => ?_)
  · have h := hl_pos hc h
    have h := Option.some.inj h
    subst h
    exact hl_loc (k2 s.1 rfl) ⟨rfl, trivial⟩
  · have h := hl_neg hc h
    refine hl_aload_n (i := 0) d173_34 rfl rfl (by decide) ?_
    refine hl_iload d173_35 rfl ?_
    refine hl_iconst d173_37 ki0 ?_
    obtain ⟨x1, hx1, h⟩ := hl_bind h
    refine hl_cVi (D := (D + 3)) (z := y160) (n := 2) (av := [.int s.2, .int 0]) (st := []) d173_38 mlM_417 rfl (Nat.le_of_ble_eq_true rfl) (Nat.le_of_ble_eq_true rfl) rc64 ((p_M_readIn D s.2 0 σ hx1).dle (by omega)) ?_
    refine hl_iconst d173_41 kim1 ?_
    refine hl_icmp_eq (tg := 48) d173_42 rfl (fun hc => ?_) (fun hc => ?_)
    · have h := hl_pos hc h
      refine hl_iinc (ls2 := [(4, .int (s.2 + 1)), (0, .ref 64), (2, .int v2), (3, .int s.1)]) d173_48 rfl kx1 (by decide) rfl ?_
      refine hl_goto (tg := 28) d173_51 rfl ?_
      have h := Option.some.inj h
      subst h
      exact hl_loc (k1 s.1 (s.2 + 1) rfl) ⟨rfl, rfl, rfl, rfl, trivial⟩
    · have h := hl_neg hc h
      refine hl_iinc (ls2 := [(3, .int (s.1 + 1)), (0, .ref 64), (2, .int v2), (4, .int s.2)]) d173_45 rfl kx1 (by decide) rfl ?_
      refine hl_iinc (ls2 := [(4, .int (s.2 + 1)), (3, .int (s.1 + 1)), (0, .ref 64), (2, .int v2)]) d173_48 rfl kx1 (by decide) rfl ?_
      refine hl_goto (tg := 28) d173_51 rfl ?_
      have h := Option.some.inj h
      subst h
      exact hl_loc (k1 (s.1 + 1) (s.2 + 1) rfl) ⟨rfl, rfl, rfl, rfl, trivial⟩
set_option maxRecDepth 20000 in
theorem p_M_between {X : hl_X} (D : Nat) (v1 : Int32) (v2 : Int32) (σ : hl_M) {r : Int32} (h : f_M_between v1 v2 σ = some r) : hl_R X (D + 4) y173 0 [(0, .ref 64), (1, .int v1), (2, .int v2)] [] σ (some (.int r)) σ := by
  unfold f_M_between at h
  refine hl_iload_n (i := 1) d173_0 rfl rfl ?_
  refine hl_cSi (D := (D + 3)) (z := y139) (n := 1) (av := [.int v1]) (st := []) d173_1 mlM_409 rfl (Nat.le_of_ble_eq_true rfl) (Nat.le_of_ble_eq_true rfl) ((p_M_isBeat D v1 σ rfl).dle (by omega)) ?_
  refine hl_if_eq (tg := 19) d173_4 rfl (fun hc => ?_) (fun hc => ?_)
  · have h := hl_pos hc h
    refine hl_iconst d173_19 kim1 ?_
    have h := Option.some.inj h
    subst h
    exact hl_iret d173_20 rfl
  · have h := hl_neg hc h
    refine hl_iload_n (i := 2) d173_7 rfl rfl ?_
    refine hl_cSi (D := (D + 3)) (z := y139) (n := 1) (av := [.int v2]) (st := []) d173_8 mlM_409 rfl (Nat.le_of_ble_eq_true rfl) (Nat.le_of_ble_eq_true rfl) ((p_M_isBeat D v2 σ rfl).dle (by omega)) ?_
    refine hl_if_eq (tg := 19) d173_11 rfl (fun hc => ?_) (fun hc => ?_)
    · have h := hl_pos hc h
      refine hl_iconst d173_19 kim1 ?_
      have h := Option.some.inj h
      subst h
      exact hl_iret d173_20 rfl
    · have h := hl_neg hc h
      refine hl_iload_n (i := 2) d173_14 rfl rfl ?_
      refine hl_iload_n (i := 1) d173_15 rfl rfl ?_
      refine hl_icmp_ge (tg := 21) d173_16 rfl (fun hc => ?_) (fun hc => ?_)
      · have h := hl_pos hc h
        refine hl_iconst d173_21 ki0 ?_
        refine hl_istore_n (i := 3) (ls2 := [(3, .int 0), (0, .ref 64), (1, .int v1), (2, .int v2)]) d173_22 rfl (by decide) rfl ?_
        refine hl_iload_n (i := 1) d173_23 rfl rfl ?_
        refine hl_iconst d173_24 ki1 ?_
        refine hl_iadd d173_25 ?_
        refine hl_istore (ls2 := [(4, .int (v1 + 1)), (3, .int 0), (0, .ref 64), (1, .int v1), (2, .int v2)]) d173_26 (by decide) rfl ?_
        obtain ⟨x2, hx2, h⟩ := hl_bind h
        refine hl_R.loc (ls' := [(0, .ref 64), (2, .int v2), (3, .int 0), (4, .int (v1 + 1))]) ⟨rfl, rfl, rfl, rfl, trivial⟩ ?_
        refine hl_lp_run2 (P := fun (c0 : Int32) (c1 : Int32) => hl_R X (D + 4) y173 28 [(0, .ref 64), (2, .int v2), (3, .int c0), (4, .int c1)] [] σ (some (.int r)) σ) (fun x : Int32 => hl_R X (D + 4) y173 54 [(3, .int x)] [] σ (some (.int r)) σ) (fun c0 c1 o ho h1 h2 => p_M_between_L28 D v2 σ (c0, c1) ho h1 (fun a0 e => h2 a0 e)) hl_big 0 (v1 + 1) x2 hx2 ?_
        refine hl_iload_n (i := 3) d173_54 rfl rfl ?_
        have h := Option.some.inj h
        subst h
        exact hl_iret d173_55 rfl
      · have h := hl_neg hc h
        refine hl_iconst d173_19 kim1 ?_
        have h := Option.some.inj h
        subst h
        exact hl_iret d173_20 rfl
def f_X_danger_j103 (v1 : Int32) (v2 : Int32) (v3 : Int32) (v4 : Int32) (v5 : Int32) (s0 : Int32) (σ : hl_M) : Option ((Int32 × Int32 × Int32 × hl_M) ⊕ (Int32 × hl_M)) :=
  if v3 = ((-1)) then
  some (.inl ((v5, s0, v5 + 1, σ))) else
  if v4 ≤ s0 then
  some (.inl ((v3, v4, v5 + 1, σ))) else
  some (.inl ((v5, s0, v5 + 1, σ)))
def f_X_danger_L46 (v1 : Int32) (v2 : Int32) (s : Int32 × Int32 × Int32 × hl_M) : Option ((Int32 × Int32 × Int32 × hl_M) ⊕ (Int32 × hl_M)) :=
  if (s.2.2.2.1 4 3) ≤ s.2.2.1 then
  some (.inr (((s.1, s.2.2.2)))) else
  if hl_b s.2.2.1 10 then
  if (s.2.2.2.1 7 s.2.2.1.toNatClampNeg) = 0 then
  some (.inl ((s.1, s.2.1, s.2.2.1 + 1, s.2.2.2))) else
  (f_Vw_look v1 s.2.2.1 s.2.2.2).bind fun x3 =>
  (f_Vw_nearestWord x3).bind fun x4 =>
  if x4 = v2 then
  (f_Vw_doubtNow x3).bind fun x5 =>
  f_X_danger_j103 v1 v2 s.1 s.2.1 s.2.2.1 x5 x3 else
  f_X_danger_j103 v1 v2 s.1 s.2.1 s.2.2.1 ((-1)) x3 else none
def f_X_danger (v1 : Int32) (σ : hl_M) : Option (Int32 × hl_M) :=
  if (f_X_within v1 100) = 0 then
  some (((-1), σ)) else
  if (σ.1 4 8) = 0 then
  some (((-1), σ)) else
  (f_Vw_look v1 ((-1)) σ).bind fun x1 =>
  (f_Vw_nearestWord x1).bind fun x2 =>
  (hl_lp (f_X_danger_L46 v1 x2) hl_big (((-1), 0, 0, x1))).bind fun x6 =>
  some ((x6.1, x6.2))
set_option maxRecDepth 20000 in
theorem p_X_danger_j103 {X : hl_X} (D : Nat) (v1 : Int32) (v2 : Int32) (v3 : Int32) (v4 : Int32) (v5 : Int32) (s0 : Int32) (σ : hl_M) {o : (Int32 × Int32 × Int32 × hl_M) ⊕ (Int32 × hl_M)} {v : Option Value} {τ : hl_M} (h : f_X_danger_j103 v1 v2 v3 v4 v5 s0 σ = some o) (k1 : ∀ (c0 : Int32) (c1 : Int32) (c2 : Int32) (c3 : hl_M), o = .inl ((c0, c1, c2, c3)) → hl_R X (D + 4) y174 46 [(0, .ref 0), (1, .int v1), (2, .int v2), (3, .int c0), (4, .int c1), (5, .int c2)] [] c3 v τ) (k2 : ∀ (a0 : Int32) (a1 : hl_M), o = .inr ((a0, a1)) → hl_R X (D + 4) y174 130 [(3, .int a0)] [] a1 v τ) : hl_R X (D + 4) y174 103 [(0, .ref 0), (1, .int v1), (2, .int v2), (3, .int v3), (4, .int v4), (5, .int v5)] [.int s0] σ v τ := by
  unfold f_X_danger_j103 at h
  refine hl_istore (ls2 := [(6, .int s0), (0, .ref 0), (1, .int v1), (2, .int v2), (3, .int v3), (4, .int v4), (5, .int v5)]) d174_103 (by decide) rfl ?_
  refine hl_iload_n (i := 3) d174_105 rfl rfl ?_
  refine hl_iconst d174_106 kim1 ?_
  refine hl_icmp_eq (tg := 117) d174_107 rfl (fun hc => ?_) (fun hc => ?_)
  · have h := hl_pos hc h
    refine hl_iload d174_117 rfl ?_
    refine hl_istore_n (i := 3) (ls2 := [(3, .int v5), (6, .int s0), (0, .ref 0), (1, .int v1), (2, .int v2), (4, .int v4), (5, .int v5)]) d174_119 rfl (by decide) rfl ?_
    refine hl_iload d174_120 rfl ?_
    refine hl_istore (ls2 := [(4, .int s0), (3, .int v5), (6, .int s0), (0, .ref 0), (1, .int v1), (2, .int v2), (5, .int v5)]) d174_122 (by decide) rfl ?_
    refine hl_iinc (ls2 := [(5, .int (v5 + 1)), (4, .int s0), (3, .int v5), (6, .int s0), (0, .ref 0), (1, .int v1), (2, .int v2)]) d174_124 rfl kx1 (by decide) rfl ?_
    refine hl_goto (tg := 46) d174_127 rfl ?_
    have h := Option.some.inj h
    subst h
    exact hl_loc (k1 v5 s0 (v5 + 1) σ rfl) ⟨rfl, rfl, rfl, rfl, rfl, rfl, trivial⟩
  · have h := hl_neg hc h
    refine hl_iload d174_110 rfl ?_
    refine hl_iload d174_112 rfl ?_
    refine hl_icmp_ge (tg := 124) d174_114 rfl (fun hc => ?_) (fun hc => ?_)
    · have h := hl_pos hc h
      refine hl_iinc (ls2 := [(5, .int (v5 + 1)), (6, .int s0), (0, .ref 0), (1, .int v1), (2, .int v2), (3, .int v3), (4, .int v4)]) d174_124 rfl kx1 (by decide) rfl ?_
      refine hl_goto (tg := 46) d174_127 rfl ?_
      have h := Option.some.inj h
      subst h
      exact hl_loc (k1 v3 v4 (v5 + 1) σ rfl) ⟨rfl, rfl, rfl, rfl, rfl, rfl, trivial⟩
    · have h := hl_neg hc h
      refine hl_iload d174_117 rfl ?_
      refine hl_istore_n (i := 3) (ls2 := [(3, .int v5), (6, .int s0), (0, .ref 0), (1, .int v1), (2, .int v2), (4, .int v4), (5, .int v5)]) d174_119 rfl (by decide) rfl ?_
      refine hl_iload d174_120 rfl ?_
      refine hl_istore (ls2 := [(4, .int s0), (3, .int v5), (6, .int s0), (0, .ref 0), (1, .int v1), (2, .int v2), (5, .int v5)]) d174_122 (by decide) rfl ?_
      refine hl_iinc (ls2 := [(5, .int (v5 + 1)), (4, .int s0), (3, .int v5), (6, .int s0), (0, .ref 0), (1, .int v1), (2, .int v2)]) d174_124 rfl kx1 (by decide) rfl ?_
      refine hl_goto (tg := 46) d174_127 rfl ?_
      have h := Option.some.inj h
      subst h
      exact hl_loc (k1 v5 s0 (v5 + 1) σ rfl) ⟨rfl, rfl, rfl, rfl, rfl, rfl, trivial⟩
set_option maxRecDepth 20000 in
theorem p_X_danger_L46 {X : hl_X} (D : Nat) (v1 : Int32) (v2 : Int32) (s : Int32 × Int32 × Int32 × hl_M) {o : (Int32 × Int32 × Int32 × hl_M) ⊕ (Int32 × hl_M)} {v : Option Value} {τ : hl_M} (h : f_X_danger_L46 v1 v2 s = some o) (k1 : ∀ (c0 : Int32) (c1 : Int32) (c2 : Int32) (c3 : hl_M), o = .inl ((c0, c1, c2, c3)) → hl_R X (D + 4) y174 46 [(0, .ref 0), (1, .int v1), (2, .int v2), (3, .int c0), (4, .int c1), (5, .int c2)] [] c3 v τ) (k2 : ∀ (a0 : Int32) (a1 : hl_M), o = .inr ((a0, a1)) → hl_R X (D + 4) y174 130 [(3, .int a0)] [] a1 v τ) : hl_R X (D + 4) y174 46 [(0, .ref 0), (1, .int v1), (2, .int v2), (3, .int s.1), (4, .int s.2.1), (5, .int s.2.2.1)] [] s.2.2.2 v τ := by
  unfold f_X_danger_L46 at h
  refine hl_iload d174_46 rfl ?_
  refine hl_aload_n (i := 0) d174_48 rfl rfl (by decide) ?_
  refine hl_gr d174_49 gX_28_0 ?_
  refine hl_gi d174_52 gX_139_4 ?_
  refine hl_icmp_ge (tg := 130) d174_55 rfl (fun hc => ?_) (fun hc => ?_)
  · have h := hl_pos hc h
    have h := Option.some.inj h
    subst h
    exact hl_loc (k2 s.1 s.2.2.2 rfl) ⟨rfl, trivial⟩
  · have h := hl_neg hc h
    refine hl_aload_n (i := 0) d174_58 rfl rfl (by decide) ?_
    refine hl_gr d174_59 gX_28_0 ?_
    refine hl_gr d174_62 gX_176_4 ?_
    refine hl_iload d174_65 rfl ?_
    obtain ⟨hb, h⟩ := hl_gd h
    refine hl_iald d174_67 sh7 (hl_b_in hb) ?_
    refine hl_if_eq (tg := 124) d174_68 rfl (fun hc => ?_) (fun hc => ?_)
    · have h := hl_pos hc h
      refine hl_iinc (ls2 := [(5, .int (s.2.2.1 + 1)), (0, .ref 0), (1, .int v1), (2, .int v2), (3, .int s.1), (4, .int s.2.1)]) d174_124 rfl kx1 (by decide) rfl ?_
      refine hl_goto (tg := 46) d174_127 rfl ?_
      have h := Option.some.inj h
      subst h
      exact hl_loc (k1 s.1 s.2.1 (s.2.2.1 + 1) s.2.2.2 rfl) ⟨rfl, rfl, rfl, rfl, rfl, rfl, trivial⟩
    · have h := hl_neg hc h
      refine hl_aload_n (i := 0) d174_71 rfl rfl (by decide) ?_
      refine hl_gr d174_72 gX_58_0 ?_
      refine hl_iload_n (i := 1) d174_75 rfl rfl ?_
      refine hl_iload d174_76 rfl ?_
      obtain ⟨x3, hx3, h⟩ := hl_bind h
      refine hl_cVv (D := (D + 3)) (z := y103) (n := 2) (av := [.int v1, .int s.2.2.1]) (st := []) d174_78 mlX_219 rfl (Nat.le_of_ble_eq_true rfl) (Nat.le_of_ble_eq_true rfl) rc37 ((p_Vw_look D v1 s.2.2.1 s.2.2.2 hx3).dle (by omega)) ?_
      refine hl_aload_n (i := 0) d174_81 rfl rfl (by decide) ?_
      refine hl_gr d174_82 gX_58_0 ?_
      obtain ⟨x4, hx4, h⟩ := hl_bind h
      refine hl_cVi (D := (D + 3)) (z := y164) (n := 0) (av := []) (st := []) d174_85 mlX_244 rfl (Nat.le_of_ble_eq_true rfl) (Nat.le_of_ble_eq_true rfl) rc37 ((p_Vw_nearestWord D x3 hx4).dle (by omega)) ?_
      refine hl_iload_n (i := 2) d174_88 rfl rfl ?_
      refine hl_icmp_ne (tg := 102) d174_89 rfl (fun hc => ?_) (fun hc => ?_)
      · have h := hl_neg hc h
        refine hl_iconst d174_102 kim1 ?_
        exact hl_loc (p_X_danger_j103 D v1 v2 s.1 s.2.1 s.2.2.1 ((-1)) x3 h k1 k2) ⟨rfl, rfl, rfl, rfl, rfl, rfl, trivial⟩
      · have h := hl_pos hc h
        refine hl_aload_n (i := 0) d174_92 rfl rfl (by decide) ?_
        refine hl_gr d174_93 gX_58_0 ?_
        obtain ⟨x5, hx5, h⟩ := hl_bind h
        refine hl_cVi (D := (D + 3)) (z := y165) (n := 0) (av := []) (st := []) d174_96 mlX_247 rfl (Nat.le_of_ble_eq_true rfl) (Nat.le_of_ble_eq_true rfl) rc37 ((p_Vw_doubtNow D x3 hx5).dle (by omega)) ?_
        refine hl_goto (tg := 103) d174_99 rfl ?_
        exact hl_loc (p_X_danger_j103 D v1 v2 s.1 s.2.1 s.2.2.1 x5 x3 h k1 k2) ⟨rfl, rfl, rfl, rfl, rfl, rfl, trivial⟩
set_option maxRecDepth 20000 in
theorem p_X_danger {X : hl_X} (D : Nat) (v1 : Int32) (σ : hl_M) {r : Int32} {τ : hl_M} (h : f_X_danger v1 σ = some (r, τ)) : hl_R X (D + 4) y174 0 [(0, .ref 0), (1, .int v1)] [] σ (some (.int r)) τ := by
  unfold f_X_danger at h
  refine hl_iload_n (i := 1) d174_0 rfl rfl ?_
  refine hl_bipush d174_1 kb100 ?_
  refine hl_cSi (D := (D + 3)) (z := y2) (n := 2) (av := [.int v1, .int 100]) (st := []) d174_3 mlX_154 rfl (Nat.le_of_ble_eq_true rfl) (Nat.le_of_ble_eq_true rfl) ((p_X_within D v1 100 σ rfl).dle (by omega)) ?_
  refine hl_if_eq (tg := 19) d174_6 rfl (fun hc => ?_) (fun hc => ?_)
  · have h := hl_pos hc h
    refine hl_iconst d174_19 kim1 ?_
    obtain ⟨e1, e2⟩ := hl_some2 h
    subst e1; subst e2
    exact hl_iret d174_20 rfl
  · have h := hl_neg hc h
    refine hl_aload_n (i := 0) d174_9 rfl rfl (by decide) ?_
    refine hl_gr d174_10 gX_28_0 ?_
    refine hl_gi d174_13 gX_145_4 ?_
    refine hl_if_ne (tg := 21) d174_16 rfl (fun hc => ?_) (fun hc => ?_)
    · have h := hl_neg hc h
      refine hl_aload_n (i := 0) d174_21 rfl rfl (by decide) ?_
      refine hl_gr d174_22 gX_58_0 ?_
      refine hl_iload_n (i := 1) d174_25 rfl rfl ?_
      refine hl_iconst d174_26 kim1 ?_
      obtain ⟨x1, hx1, h⟩ := hl_bind h
      refine hl_cVv (D := (D + 3)) (z := y103) (n := 2) (av := [.int v1, .int ((-1))]) (st := []) d174_27 mlX_219 rfl (Nat.le_of_ble_eq_true rfl) (Nat.le_of_ble_eq_true rfl) rc37 ((p_Vw_look D v1 ((-1)) σ hx1).dle (by omega)) ?_
      refine hl_aload_n (i := 0) d174_30 rfl rfl (by decide) ?_
      refine hl_gr d174_31 gX_58_0 ?_
      obtain ⟨x2, hx2, h⟩ := hl_bind h
      refine hl_cVi (D := (D + 3)) (z := y164) (n := 0) (av := []) (st := []) d174_34 mlX_244 rfl (Nat.le_of_ble_eq_true rfl) (Nat.le_of_ble_eq_true rfl) rc37 ((p_Vw_nearestWord D x1 hx2).dle (by omega)) ?_
      refine hl_istore_n (i := 2) (ls2 := [(2, .int x2), (0, .ref 0), (1, .int v1)]) d174_37 rfl (by decide) rfl ?_
      refine hl_iconst d174_38 kim1 ?_
      refine hl_istore_n (i := 3) (ls2 := [(3, .int ((-1))), (2, .int x2), (0, .ref 0), (1, .int v1)]) d174_39 rfl (by decide) rfl ?_
      refine hl_iconst d174_40 ki0 ?_
      refine hl_istore (ls2 := [(4, .int 0), (3, .int ((-1))), (2, .int x2), (0, .ref 0), (1, .int v1)]) d174_41 (by decide) rfl ?_
      refine hl_iconst d174_43 ki0 ?_
      refine hl_istore (ls2 := [(5, .int 0), (4, .int 0), (3, .int ((-1))), (2, .int x2), (0, .ref 0), (1, .int v1)]) d174_44 (by decide) rfl ?_
      obtain ⟨x6, hx6, h⟩ := hl_bind h
      refine hl_R.loc (ls' := [(0, .ref 0), (1, .int v1), (2, .int x2), (3, .int ((-1))), (4, .int 0), (5, .int 0)]) ⟨rfl, rfl, rfl, rfl, rfl, rfl, trivial⟩ ?_
      refine hl_lp_run4 (P := fun (c0 : Int32) (c1 : Int32) (c2 : Int32) (c3 : hl_M) => hl_R X (D + 4) y174 46 [(0, .ref 0), (1, .int v1), (2, .int x2), (3, .int c0), (4, .int c1), (5, .int c2)] [] c3 (some (.int r)) τ) (fun x : Int32 × hl_M => hl_R X (D + 4) y174 130 [(3, .int x.1)] [] x.2 (some (.int r)) τ) (fun c0 c1 c2 c3 o ho h1 h2 => p_X_danger_L46 D v1 x2 (c0, c1, c2, c3) ho h1 (fun a0 a1 e => h2 ((a0, a1)) e)) hl_big ((-1)) 0 0 x1 x6 hx6 ?_
      refine hl_iload_n (i := 3) d174_130 rfl rfl ?_
      obtain ⟨e1, e2⟩ := hl_some2 h
      subst e1; subst e2
      exact hl_iret d174_131 rfl
    · have h := hl_pos hc h
      refine hl_iconst d174_19 kim1 ?_
      obtain ⟨e1, e2⟩ := hl_some2 h
      subst e1; subst e2
      exact hl_iret d174_20 rfl
def f_M_danger_j74 (v1 : Int32) (v2 : Int32) (v3 : Int32) (v4 : Int32) (v5 : Int32) (s0 : Int32) (σ : hl_M) : Option ((Int32 × Int32 × Int32 × hl_M) ⊕ (Int32 × hl_M)) :=
  if v3 = ((-1)) then
  some (.inl ((v5, s0, v5 + 1, hl_si σ 64 35 ((-1))))) else
  if s0 < v4 then
  some (.inl ((v5, s0, v5 + 1, hl_si σ 64 35 ((-1))))) else
  some (.inl ((v3, v4, v5 + 1, hl_si σ 64 35 ((-1)))))
def f_M_danger_L30 (v1 : Int32) (v2 : Int32) (s : Int32 × Int32 × Int32 × hl_M) : Option ((Int32 × Int32 × Int32 × hl_M) ⊕ (Int32 × hl_M)) :=
  (f_M_personMany s.2.2.2).bind fun x3 =>
  if x3 ≤ s.2.2.1 then
  some (.inr (((s.1, s.2.2.2)))) else
  (f_M_lampOf s.2.2.1 s.2.2.2).bind fun x4 =>
  if x4 = 0 then
  some (.inl ((s.1, s.2.1, s.2.2.1 + 1, s.2.2.2))) else
  (f_M_nearestIn v1 (hl_si s.2.2.2 64 35 s.2.2.1)).bind fun x5 =>
  if x5.1 = v2 then
  f_M_danger_j74 v1 v2 s.1 s.2.1 s.2.2.1 (x5.2.1 64 39) x5.2 else
  f_M_danger_j74 v1 v2 s.1 s.2.1 s.2.2.1 ((-1)) x5.2
def f_M_danger (v1 : Int32) (σ : hl_M) : Option (Int32 × hl_M) :=
  if (f_M_isBeat v1) = 0 then
  some (((-1), σ)) else
  (f_M_wordMany σ).bind fun x1 =>
  if x1 = 0 then
  some (((-1), σ)) else
  (f_M_nearestIn v1 σ).bind fun x2 =>
  (hl_lp (f_M_danger_L30 v1 x2.1) hl_big (((-1), 0, 0, x2.2))).bind fun x6 =>
  some ((x6.1, x6.2))
set_option maxRecDepth 20000 in
theorem p_M_danger_j74 {X : hl_X} (D : Nat) (v1 : Int32) (v2 : Int32) (v3 : Int32) (v4 : Int32) (v5 : Int32) (s0 : Int32) (σ : hl_M) {o : (Int32 × Int32 × Int32 × hl_M) ⊕ (Int32 × hl_M)} {v : Option Value} {τ : hl_M} (h : f_M_danger_j74 v1 v2 v3 v4 v5 s0 σ = some o) (k1 : ∀ (c0 : Int32) (c1 : Int32) (c2 : Int32) (c3 : hl_M), o = .inl ((c0, c1, c2, c3)) → hl_R X (D + 4) y175 30 [(0, .ref 64), (1, .int v1), (2, .int v2), (3, .int c0), (4, .int c1), (5, .int c2)] [] c3 v τ) (k2 : ∀ (a0 : Int32) (a1 : hl_M), o = .inr ((a0, a1)) → hl_R X (D + 4) y175 109 [(3, .int a0)] [] a1 v τ) : hl_R X (D + 4) y175 74 [(0, .ref 64), (1, .int v1), (2, .int v2), (3, .int v3), (4, .int v4), (5, .int v5)] [.int s0] σ v τ := by
  unfold f_M_danger_j74 at h
  refine hl_istore (ls2 := [(6, .int s0), (0, .ref 64), (1, .int v1), (2, .int v2), (3, .int v3), (4, .int v4), (5, .int v5)]) d175_74 (by decide) rfl ?_
  refine hl_aload_n (i := 0) d175_76 rfl rfl (by decide) ?_
  refine hl_iconst d175_77 kim1 ?_
  refine hl_pi d175_78 qM_74_64 ?_
  refine hl_iload_n (i := 3) d175_81 rfl rfl ?_
  refine hl_iconst d175_82 kim1 ?_
  refine hl_icmp_eq (tg := 96) d175_83 rfl (fun hc => ?_) (fun hc => ?_)
  · have h := hl_pos hc h
    refine hl_iload d175_96 rfl ?_
    refine hl_istore_n (i := 3) (ls2 := [(3, .int v5), (6, .int s0), (0, .ref 64), (1, .int v1), (2, .int v2), (4, .int v4), (5, .int v5)]) d175_98 rfl (by decide) rfl ?_
    refine hl_iload d175_99 rfl ?_
    refine hl_istore (ls2 := [(4, .int s0), (3, .int v5), (6, .int s0), (0, .ref 64), (1, .int v1), (2, .int v2), (5, .int v5)]) d175_101 (by decide) rfl ?_
    refine hl_iinc (ls2 := [(5, .int (v5 + 1)), (4, .int s0), (3, .int v5), (6, .int s0), (0, .ref 64), (1, .int v1), (2, .int v2)]) d175_103 rfl kx1 (by decide) rfl ?_
    refine hl_goto (tg := 30) d175_106 rfl ?_
    have h := Option.some.inj h
    subst h
    exact hl_loc (k1 v5 s0 (v5 + 1) (hl_si σ 64 35 ((-1))) rfl) ⟨rfl, rfl, rfl, rfl, rfl, rfl, trivial⟩
  · have h := hl_neg hc h
    refine hl_iload d175_86 rfl ?_
    refine hl_iload d175_88 rfl ?_
    refine hl_icmp_lt (tg := 96) d175_90 rfl (fun hc => ?_) (fun hc => ?_)
    · have h := hl_pos hc h
      refine hl_iload d175_96 rfl ?_
      refine hl_istore_n (i := 3) (ls2 := [(3, .int v5), (6, .int s0), (0, .ref 64), (1, .int v1), (2, .int v2), (4, .int v4), (5, .int v5)]) d175_98 rfl (by decide) rfl ?_
      refine hl_iload d175_99 rfl ?_
      refine hl_istore (ls2 := [(4, .int s0), (3, .int v5), (6, .int s0), (0, .ref 64), (1, .int v1), (2, .int v2), (5, .int v5)]) d175_101 (by decide) rfl ?_
      refine hl_iinc (ls2 := [(5, .int (v5 + 1)), (4, .int s0), (3, .int v5), (6, .int s0), (0, .ref 64), (1, .int v1), (2, .int v2)]) d175_103 rfl kx1 (by decide) rfl ?_
      refine hl_goto (tg := 30) d175_106 rfl ?_
      have h := Option.some.inj h
      subst h
      exact hl_loc (k1 v5 s0 (v5 + 1) (hl_si σ 64 35 ((-1))) rfl) ⟨rfl, rfl, rfl, rfl, rfl, rfl, trivial⟩
    · have h := hl_neg hc h
      refine hl_goto (tg := 103) d175_93 rfl ?_
      refine hl_iinc (ls2 := [(5, .int (v5 + 1)), (6, .int s0), (0, .ref 64), (1, .int v1), (2, .int v2), (3, .int v3), (4, .int v4)]) d175_103 rfl kx1 (by decide) rfl ?_
      refine hl_goto (tg := 30) d175_106 rfl ?_
      have h := Option.some.inj h
      subst h
      exact hl_loc (k1 v3 v4 (v5 + 1) (hl_si σ 64 35 ((-1))) rfl) ⟨rfl, rfl, rfl, rfl, rfl, rfl, trivial⟩
set_option maxRecDepth 20000 in
theorem p_M_danger_L30 {X : hl_X} (D : Nat) (v1 : Int32) (v2 : Int32) (s : Int32 × Int32 × Int32 × hl_M) {o : (Int32 × Int32 × Int32 × hl_M) ⊕ (Int32 × hl_M)} {v : Option Value} {τ : hl_M} (h : f_M_danger_L30 v1 v2 s = some o) (k1 : ∀ (c0 : Int32) (c1 : Int32) (c2 : Int32) (c3 : hl_M), o = .inl ((c0, c1, c2, c3)) → hl_R X (D + 4) y175 30 [(0, .ref 64), (1, .int v1), (2, .int v2), (3, .int c0), (4, .int c1), (5, .int c2)] [] c3 v τ) (k2 : ∀ (a0 : Int32) (a1 : hl_M), o = .inr ((a0, a1)) → hl_R X (D + 4) y175 109 [(3, .int a0)] [] a1 v τ) : hl_R X (D + 4) y175 30 [(0, .ref 64), (1, .int v1), (2, .int v2), (3, .int s.1), (4, .int s.2.1), (5, .int s.2.2.1)] [] s.2.2.2 v τ := by
  unfold f_M_danger_L30 at h
  refine hl_iload d175_30 rfl ?_
  refine hl_aload_n (i := 0) d175_32 rfl rfl (by decide) ?_
  obtain ⟨x3, hx3, h⟩ := hl_bind h
  refine hl_cVi (D := (D + 3)) (z := y93) (n := 0) (av := []) (st := [.int s.2.2.1]) d175_33 mlM_335 rfl (Nat.le_of_ble_eq_true rfl) (Nat.le_of_ble_eq_true rfl) rc64 ((p_M_personMany D s.2.2.2 hx3).dle (by omega)) ?_
  refine hl_icmp_ge (tg := 109) d175_36 rfl (fun hc => ?_) (fun hc => ?_)
  · have h := hl_pos hc h
    have h := Option.some.inj h
    subst h
    exact hl_loc (k2 s.1 s.2.2.2 rfl) ⟨rfl, trivial⟩
  · have h := hl_neg hc h
    refine hl_aload_n (i := 0) d175_39 rfl rfl (by decide) ?_
    refine hl_iload d175_40 rfl ?_
    obtain ⟨x4, hx4, h⟩ := hl_bind h
    refine hl_cVi (D := (D + 3)) (z := y110) (n := 1) (av := [.int s.2.2.1]) (st := []) d175_42 mlM_358 rfl (Nat.le_of_ble_eq_true rfl) (Nat.le_of_ble_eq_true rfl) rc64 ((p_M_lampOf D s.2.2.1 s.2.2.2 hx4).dle (by omega)) ?_
    refine hl_if_ne (tg := 51) d175_45 rfl (fun hc => ?_) (fun hc => ?_)
    · have h := hl_neg hc h
      refine hl_aload_n (i := 0) d175_51 rfl rfl (by decide) ?_
      refine hl_iload d175_52 rfl ?_
      refine hl_pi d175_54 qM_74_64 ?_
      refine hl_aload_n (i := 0) d175_57 rfl rfl (by decide) ?_
      refine hl_iload_n (i := 1) d175_58 rfl rfl ?_
      obtain ⟨x5, hx5, h⟩ := hl_bind h
      refine hl_cVi (D := (D + 3)) (z := y168) (n := 1) (av := [.int v1]) (st := []) d175_59 mlM_426 rfl (Nat.le_of_ble_eq_true rfl) (Nat.le_of_ble_eq_true rfl) rc64 ((p_M_nearestIn D v1 (hl_si s.2.2.2 64 35 s.2.2.1) hx5).dle (by omega)) ?_
      refine hl_iload_n (i := 2) d175_62 rfl rfl ?_
      refine hl_icmp_eq (tg := 70) d175_63 rfl (fun hc => ?_) (fun hc => ?_)
      · have h := hl_pos hc h
        refine hl_aload_n (i := 0) d175_70 rfl rfl (by decide) ?_
        refine hl_gi d175_71 gM_368_64 ?_
        exact hl_loc (p_M_danger_j74 D v1 v2 s.1 s.2.1 s.2.2.1 (x5.2.1 64 39) x5.2 h k1 k2) ⟨rfl, rfl, rfl, rfl, rfl, rfl, trivial⟩
      · have h := hl_neg hc h
        refine hl_iconst d175_66 kim1 ?_
        refine hl_goto (tg := 74) d175_67 rfl ?_
        exact hl_loc (p_M_danger_j74 D v1 v2 s.1 s.2.1 s.2.2.1 ((-1)) x5.2 h k1 k2) ⟨rfl, rfl, rfl, rfl, rfl, rfl, trivial⟩
    · have h := hl_pos hc h
      refine hl_goto (tg := 103) d175_48 rfl ?_
      refine hl_iinc (ls2 := [(5, .int (s.2.2.1 + 1)), (0, .ref 64), (1, .int v1), (2, .int v2), (3, .int s.1), (4, .int s.2.1)]) d175_103 rfl kx1 (by decide) rfl ?_
      refine hl_goto (tg := 30) d175_106 rfl ?_
      have h := Option.some.inj h
      subst h
      exact hl_loc (k1 s.1 s.2.1 (s.2.2.1 + 1) s.2.2.2 rfl) ⟨rfl, rfl, rfl, rfl, rfl, rfl, trivial⟩
set_option maxRecDepth 20000 in
theorem p_M_danger {X : hl_X} (D : Nat) (v1 : Int32) (σ : hl_M) {r : Int32} {τ : hl_M} (h : f_M_danger v1 σ = some (r, τ)) : hl_R X (D + 4) y175 0 [(0, .ref 64), (1, .int v1)] [] σ (some (.int r)) τ := by
  unfold f_M_danger at h
  refine hl_iload_n (i := 1) d175_0 rfl rfl ?_
  refine hl_cSi (D := (D + 3)) (z := y139) (n := 1) (av := [.int v1]) (st := []) d175_1 mlM_409 rfl (Nat.le_of_ble_eq_true rfl) (Nat.le_of_ble_eq_true rfl) ((p_M_isBeat D v1 σ rfl).dle (by omega)) ?_
  refine hl_if_eq (tg := 14) d175_4 rfl (fun hc => ?_) (fun hc => ?_)
  · have h := hl_pos hc h
    refine hl_iconst d175_14 kim1 ?_
    obtain ⟨e1, e2⟩ := hl_some2 h
    subst e1; subst e2
    exact hl_iret d175_15 rfl
  · have h := hl_neg hc h
    refine hl_aload_n (i := 0) d175_7 rfl rfl (by decide) ?_
    obtain ⟨x1, hx1, h⟩ := hl_bind h
    refine hl_cVi (D := (D + 3)) (z := y111) (n := 0) (av := []) (st := []) d175_8 mlM_338 rfl (Nat.le_of_ble_eq_true rfl) (Nat.le_of_ble_eq_true rfl) rc64 ((p_M_wordMany D σ hx1).dle (by omega)) ?_
    refine hl_if_ne (tg := 16) d175_11 rfl (fun hc => ?_) (fun hc => ?_)
    · have h := hl_neg hc h
      refine hl_aload_n (i := 0) d175_16 rfl rfl (by decide) ?_
      refine hl_iload_n (i := 1) d175_17 rfl rfl ?_
      obtain ⟨x2, hx2, h⟩ := hl_bind h
      refine hl_cVi (D := (D + 3)) (z := y168) (n := 1) (av := [.int v1]) (st := []) d175_18 mlM_426 rfl (Nat.le_of_ble_eq_true rfl) (Nat.le_of_ble_eq_true rfl) rc64 ((p_M_nearestIn D v1 σ hx2).dle (by omega)) ?_
      refine hl_istore_n (i := 2) (ls2 := [(2, .int x2.1), (0, .ref 64), (1, .int v1)]) d175_21 rfl (by decide) rfl ?_
      refine hl_iconst d175_22 kim1 ?_
      refine hl_istore_n (i := 3) (ls2 := [(3, .int ((-1))), (2, .int x2.1), (0, .ref 64), (1, .int v1)]) d175_23 rfl (by decide) rfl ?_
      refine hl_iconst d175_24 ki0 ?_
      refine hl_istore (ls2 := [(4, .int 0), (3, .int ((-1))), (2, .int x2.1), (0, .ref 64), (1, .int v1)]) d175_25 (by decide) rfl ?_
      refine hl_iconst d175_27 ki0 ?_
      refine hl_istore (ls2 := [(5, .int 0), (4, .int 0), (3, .int ((-1))), (2, .int x2.1), (0, .ref 64), (1, .int v1)]) d175_28 (by decide) rfl ?_
      obtain ⟨x6, hx6, h⟩ := hl_bind h
      refine hl_R.loc (ls' := [(0, .ref 64), (1, .int v1), (2, .int x2.1), (3, .int ((-1))), (4, .int 0), (5, .int 0)]) ⟨rfl, rfl, rfl, rfl, rfl, rfl, trivial⟩ ?_
      refine hl_lp_run4 (P := fun (c0 : Int32) (c1 : Int32) (c2 : Int32) (c3 : hl_M) => hl_R X (D + 4) y175 30 [(0, .ref 64), (1, .int v1), (2, .int x2.1), (3, .int c0), (4, .int c1), (5, .int c2)] [] c3 (some (.int r)) τ) (fun x : Int32 × hl_M => hl_R X (D + 4) y175 109 [(3, .int x.1)] [] x.2 (some (.int r)) τ) (fun c0 c1 c2 c3 o ho h1 h2 => p_M_danger_L30 D v1 x2.1 (c0, c1, c2, c3) ho h1 (fun a0 a1 e => h2 ((a0, a1)) e)) hl_big ((-1)) 0 0 x2.2 x6 hx6 ?_
      refine hl_iload_n (i := 3) d175_109 rfl rfl ?_
      obtain ⟨e1, e2⟩ := hl_some2 h
      subst e1; subst e2
      exact hl_iret d175_110 rfl
    · have h := hl_pos hc h
      refine hl_iconst d175_14 kim1 ?_
      obtain ⟨e1, e2⟩ := hl_some2 h
      subst e1; subst e2
      exact hl_iret d175_15 rfl
def f_Pt_gather_L59 (v2 : Int64) (s : Int32 × Int32 × hl_M) : Option ((Int32 × Int32 × hl_M) ⊕ (hl_M)) :=
  if (s.2.2.1 4 3) ≤ s.2.1 then
  some (.inr s.2.2) else
  if (s.2.2.1 38 4) ≤ s.1 then
  some (.inr s.2.2) else
  if hl_b s.2.1 10 then
  if (s.2.2.1 7 s.2.1.toNatClampNeg) = 0 then
  some (.inl ((s.1, s.2.1 + 1, s.2.2))) else
  if hl_b s.1 8 then
  some (.inl ((s.1 + 1, s.2.1 + 1, hl_si s.2.2 41 s.1.toNatClampNeg s.2.1))) else none else none
def f_Pt_gather_L117 (v2 : Int64) (s : Int32 × Int32 × hl_M) : Option ((Int32 × Int32 × hl_M) ⊕ (hl_M)) :=
  if 54 ≤ s.2.1 then
  some (.inr s.2.2) else
  if (s.2.2.1 38 4) ≤ s.1 then
  some (.inr s.2.2) else
  if (v2 &&& ((1 : Int64) <<< (s.2.1.toInt64 &&& 63))) = 0 then
  some (.inl ((s.1, s.2.1 + 1, s.2.2))) else
  if hl_b s.1 8 then
  some (.inl ((s.1 + 1, s.2.1 + 1, hl_si s.2.2 42 s.1.toNatClampNeg s.2.1))) else none
def f_Pt_gather (v1 : Int32) (σ : hl_M) : Option (Int32 × hl_M) :=
  if hl_b v1 8 then
  if hl_b v1 8 then
  (f_Gr_bearers (hl_si σ 38 4 (f_Long_bitCount ((σ.2 10 v1.toNatClampNeg) ||| (σ.2 11 v1.toNatClampNeg))))).bind fun x1 =>
  if ((hl_si σ 38 4 (f_Long_bitCount ((σ.2 10 v1.toNatClampNeg) ||| (σ.2 11 v1.toNatClampNeg)))).1 38 4) = x1 then
  if ((hl_si σ 38 4 (f_Long_bitCount ((σ.2 10 v1.toNatClampNeg) ||| (σ.2 11 v1.toNatClampNeg)))).1 38 4) ≤ 8 then
  (hl_lp (f_Pt_gather_L59 ((σ.2 10 v1.toNatClampNeg) ||| (σ.2 11 v1.toNatClampNeg))) hl_big ((0, 0, hl_si σ 38 4 (f_Long_bitCount ((σ.2 10 v1.toNatClampNeg) ||| (σ.2 11 v1.toNatClampNeg)))))).bind fun x2 =>
  (hl_lp (f_Pt_gather_L117 ((σ.2 10 v1.toNatClampNeg) ||| (σ.2 11 v1.toNatClampNeg))) hl_big ((0, 0, x2))).bind fun x3 =>
  some ((1, x3)) else
  some ((0, hl_si σ 38 4 (f_Long_bitCount ((σ.2 10 v1.toNatClampNeg) ||| (σ.2 11 v1.toNatClampNeg))))) else
  some ((0, hl_si σ 38 4 (f_Long_bitCount ((σ.2 10 v1.toNatClampNeg) ||| (σ.2 11 v1.toNatClampNeg))))) else none else none
set_option maxRecDepth 20000 in
theorem p_Pt_gather_L59 {X : hl_X} (D : Nat) (v2 : Int64) (s : Int32 × Int32 × hl_M) {o : (Int32 × Int32 × hl_M) ⊕ (hl_M)} {v : Option Value} {τ : hl_M} (h : f_Pt_gather_L59 v2 s = some o) (k1 : ∀ (c0 : Int32) (c1 : Int32) (c2 : hl_M), o = .inl ((c0, c1, c2)) → hl_R X (D + 1) y178 59 [(0, .ref 38), (2, .long v2), (4, .int c0), (5, .int c1)] [] c2 v τ) (k2 : ∀ (a0 : hl_M), o = .inr a0 → hl_R X (D + 1) y178 111 [(0, .ref 38), (2, .long v2)] [] a0 v τ) : hl_R X (D + 1) y178 59 [(0, .ref 38), (2, .long v2), (4, .int s.1), (5, .int s.2.1)] [] s.2.2 v τ := by
  unfold f_Pt_gather_L59 at h
  refine hl_iload d178_59 rfl ?_
  refine hl_aload_n (i := 0) d178_61 rfl rfl (by decide) ?_
  refine hl_gr d178_62 gPt_38_38 ?_
  refine hl_gi d178_65 gPt_109_4 ?_
  refine hl_icmp_ge (tg := 111) d178_68 rfl (fun hc => ?_) (fun hc => ?_)
  · have h := hl_pos hc h
    have h := Option.some.inj h
    subst h
    exact hl_loc (k2 s.2.2 rfl) ⟨rfl, rfl, trivial⟩
  · have h := hl_neg hc h
    refine hl_iload d178_71 rfl ?_
    refine hl_aload_n (i := 0) d178_73 rfl rfl (by decide) ?_
    refine hl_gi d178_74 gPt_71_38 ?_
    refine hl_icmp_ge (tg := 111) d178_77 rfl (fun hc => ?_) (fun hc => ?_)
    · have h := hl_pos hc h
      have h := Option.some.inj h
      subst h
      exact hl_loc (k2 s.2.2 rfl) ⟨rfl, rfl, trivial⟩
    · have h := hl_neg hc h
      refine hl_aload_n (i := 0) d178_80 rfl rfl (by decide) ?_
      refine hl_gr d178_81 gPt_38_38 ?_
      refine hl_gr d178_84 gPt_90_4 ?_
      refine hl_iload d178_87 rfl ?_
      obtain ⟨hb, h⟩ := hl_gd h
      refine hl_iald d178_89 sh7 (hl_b_in hb) ?_
      refine hl_if_eq (tg := 105) d178_90 rfl (fun hc => ?_) (fun hc => ?_)
      · have h := hl_pos hc h
        refine hl_iinc (ls2 := [(5, .int (s.2.1 + 1)), (0, .ref 38), (2, .long v2), (4, .int s.1)]) d178_105 rfl kx1 (by decide) rfl ?_
        refine hl_goto (tg := 59) d178_108 rfl ?_
        have h := Option.some.inj h
        subst h
        exact hl_loc (k1 s.1 (s.2.1 + 1) s.2.2 rfl) ⟨rfl, rfl, rfl, rfl, trivial⟩
      · have h := hl_neg hc h
        refine hl_aload_n (i := 0) d178_93 rfl rfl (by decide) ?_
        refine hl_gr d178_94 gPt_18_38 ?_
        refine hl_iload d178_97 rfl ?_
        refine hl_iload d178_99 rfl ?_
        obtain ⟨hb, h⟩ := hl_gd h
        refine hl_iast (q := 41) d178_101 sh41 (hl_b_in hb) ?_
        refine hl_iinc (ls2 := [(4, .int (s.1 + 1)), (0, .ref 38), (2, .long v2), (5, .int s.2.1)]) d178_102 rfl kx1 (by decide) rfl ?_
        refine hl_iinc (ls2 := [(5, .int (s.2.1 + 1)), (4, .int (s.1 + 1)), (0, .ref 38), (2, .long v2)]) d178_105 rfl kx1 (by decide) rfl ?_
        refine hl_goto (tg := 59) d178_108 rfl ?_
        have h := Option.some.inj h
        subst h
        exact hl_loc (k1 (s.1 + 1) (s.2.1 + 1) (hl_si s.2.2 41 s.1.toNatClampNeg s.2.1) rfl) ⟨rfl, rfl, rfl, rfl, trivial⟩
set_option maxRecDepth 20000 in
theorem p_Pt_gather_L117 {X : hl_X} (D : Nat) (v2 : Int64) (s : Int32 × Int32 × hl_M) {o : (Int32 × Int32 × hl_M) ⊕ (hl_M)} {v : Option Value} {τ : hl_M} (h : f_Pt_gather_L117 v2 s = some o) (k1 : ∀ (c0 : Int32) (c1 : Int32) (c2 : hl_M), o = .inl ((c0, c1, c2)) → hl_R X (D + 1) y178 117 [(0, .ref 38), (2, .long v2), (4, .int c0), (5, .int c1)] [] c2 v τ) (k2 : ∀ (a0 : hl_M), o = .inr a0 → hl_R X (D + 1) y178 162 [] [] a0 v τ) : hl_R X (D + 1) y178 117 [(0, .ref 38), (2, .long v2), (4, .int s.1), (5, .int s.2.1)] [] s.2.2 v τ := by
  unfold f_Pt_gather_L117 at h
  refine hl_iload d178_117 rfl ?_
  refine hl_bipush d178_119 kb54 ?_
  refine hl_icmp_ge (tg := 162) d178_121 rfl (fun hc => ?_) (fun hc => ?_)
  · have h := hl_pos hc h
    have h := Option.some.inj h
    subst h
    exact hl_loc (k2 s.2.2 rfl) trivial
  · have h := hl_neg hc h
    refine hl_iload d178_124 rfl ?_
    refine hl_aload_n (i := 0) d178_126 rfl rfl (by decide) ?_
    refine hl_gi d178_127 gPt_71_38 ?_
    refine hl_icmp_ge (tg := 162) d178_130 rfl (fun hc => ?_) (fun hc => ?_)
    · have h := hl_pos hc h
      have h := Option.some.inj h
      subst h
      exact hl_loc (k2 s.2.2 rfl) trivial
    · have h := hl_neg hc h
      refine hl_lload_n (i := 2) d178_133 rfl rfl ?_
      refine hl_lconst (x := 1) d178_134 (by decide) ?_
      refine hl_iload d178_135 rfl ?_
      refine hl_lshl d178_137 ?_
      refine hl_land d178_138 ?_
      refine hl_lconst (x := 0) d178_139 (by decide) ?_
      refine hl_lc_eq (tg := 156) d178_140 d178_141 rfl (fun hc => ?_) (fun hc => ?_)
      · have h := hl_pos hc h
        refine hl_iinc (ls2 := [(5, .int (s.2.1 + 1)), (0, .ref 38), (2, .long v2), (4, .int s.1)]) d178_156 rfl kx1 (by decide) rfl ?_
        refine hl_goto (tg := 117) d178_159 rfl ?_
        have h := Option.some.inj h
        subst h
        exact hl_loc (k1 s.1 (s.2.1 + 1) s.2.2 rfl) ⟨rfl, rfl, rfl, rfl, trivial⟩
      · have h := hl_neg hc h
        refine hl_aload_n (i := 0) d178_144 rfl rfl (by decide) ?_
        refine hl_gr d178_145 gPt_21_38 ?_
        refine hl_iload d178_148 rfl ?_
        refine hl_iload d178_150 rfl ?_
        obtain ⟨hb, h⟩ := hl_gd h
        refine hl_iast (q := 42) d178_152 sh42 (hl_b_in hb) ?_
        refine hl_iinc (ls2 := [(4, .int (s.1 + 1)), (0, .ref 38), (2, .long v2), (5, .int s.2.1)]) d178_153 rfl kx1 (by decide) rfl ?_
        refine hl_iinc (ls2 := [(5, .int (s.2.1 + 1)), (4, .int (s.1 + 1)), (0, .ref 38), (2, .long v2)]) d178_156 rfl kx1 (by decide) rfl ?_
        refine hl_goto (tg := 117) d178_159 rfl ?_
        have h := Option.some.inj h
        subst h
        exact hl_loc (k1 (s.1 + 1) (s.2.1 + 1) (hl_si s.2.2 42 s.1.toNatClampNeg s.2.1) rfl) ⟨rfl, rfl, rfl, rfl, trivial⟩
set_option maxRecDepth 20000 in
theorem p_Pt_gather {X : hl_X} (D : Nat) (v1 : Int32) (σ : hl_M) {r : Int32} {τ : hl_M} (h : f_Pt_gather v1 σ = some (r, τ)) : hl_R X (D + 1) y178 0 [(0, .ref 38), (1, .int v1)] [] σ (some (.int r)) τ := by
  unfold f_Pt_gather at h
  refine hl_aload_n (i := 0) d178_0 rfl rfl (by decide) ?_
  refine hl_gr d178_1 gPt_38_38 ?_
  refine hl_gr d178_4 gPt_79_4 ?_
  refine hl_iload_n (i := 1) d178_7 rfl rfl ?_
  obtain ⟨hb, h⟩ := hl_gd h
  refine hl_lald d178_8 sh10 (hl_b_in hb) ?_
  refine hl_aload_n (i := 0) d178_9 rfl rfl (by decide) ?_
  refine hl_gr d178_10 gPt_38_38 ?_
  refine hl_gr d178_13 gPt_83_4 ?_
  refine hl_iload_n (i := 1) d178_16 rfl rfl ?_
  obtain ⟨hb, h⟩ := hl_gd h
  refine hl_lald d178_17 sh11 (hl_b_in hb) ?_
  refine hl_lor d178_18 ?_
  refine hl_lstore_n (i := 2) (ls2 := [(2, .long ((σ.2 10 v1.toNatClampNeg) ||| (σ.2 11 v1.toNatClampNeg))), (0, .ref 38), (1, .int v1)]) d178_19 rfl (by decide) rfl ?_
  refine hl_aload_n (i := 0) d178_20 rfl rfl (by decide) ?_
  refine hl_lload_n (i := 2) d178_21 rfl rfl ?_
  refine hl_cSi (D := D) (z := y99) (n := 1) (av := [.long ((σ.2 10 v1.toNatClampNeg) ||| (σ.2 11 v1.toNatClampNeg))]) (st := [.ref 38]) d178_22 mlPt_99 rfl (Nat.le_of_ble_eq_true rfl) (Nat.le_of_ble_eq_true rfl) ((p_Long_bitCount D ((σ.2 10 v1.toNatClampNeg) ||| (σ.2 11 v1.toNatClampNeg)) σ rfl).dle (by omega)) ?_
  refine hl_pi d178_25 qPt_71_38 ?_
  refine hl_aload_n (i := 0) d178_28 rfl rfl (by decide) ?_
  refine hl_gi d178_29 gPt_71_38 ?_
  refine hl_aload_n (i := 0) d178_32 rfl rfl (by decide) ?_
  refine hl_gr d178_33 gPt_38_38 ?_
  obtain ⟨x1, hx1, h⟩ := hl_bind h
  refine hl_cVi (D := D) (z := y100) (n := 0) (av := []) (st := [.int ((hl_si σ 38 4 (f_Long_bitCount ((σ.2 10 v1.toNatClampNeg) ||| (σ.2 11 v1.toNatClampNeg)))).1 38 4)]) d178_36 mlPt_105 rfl (Nat.le_of_ble_eq_true rfl) (Nat.le_of_ble_eq_true rfl) rc4 ((p_Gr_bearers D (hl_si σ 38 4 (f_Long_bitCount ((σ.2 10 v1.toNatClampNeg) ||| (σ.2 11 v1.toNatClampNeg)))) hx1).dle (by omega)) ?_
  refine hl_icmp_ne (tg := 51) d178_39 rfl (fun hc => ?_) (fun hc => ?_)
  · have h := hl_neg hc h
    refine hl_iconst d178_51 ki0 ?_
    obtain ⟨e1, e2⟩ := hl_some2 h
    subst e1; subst e2
    exact hl_zret d178_52 rfl (by decide)
  · have h := hl_pos hc h
    refine hl_aload_n (i := 0) d178_42 rfl rfl (by decide) ?_
    refine hl_gi d178_43 gPt_71_38 ?_
    refine hl_bipush d178_46 kb8 ?_
    refine hl_icmp_le (tg := 53) d178_48 rfl (fun hc => ?_) (fun hc => ?_)
    · have h := hl_pos hc h
      refine hl_iconst d178_53 ki0 ?_
      refine hl_istore (ls2 := [(4, .int 0), (2, .long ((σ.2 10 v1.toNatClampNeg) ||| (σ.2 11 v1.toNatClampNeg))), (0, .ref 38), (1, .int v1)]) d178_54 (by decide) rfl ?_
      refine hl_iconst d178_56 ki0 ?_
      refine hl_istore (ls2 := [(5, .int 0), (4, .int 0), (2, .long ((σ.2 10 v1.toNatClampNeg) ||| (σ.2 11 v1.toNatClampNeg))), (0, .ref 38), (1, .int v1)]) d178_57 (by decide) rfl ?_
      obtain ⟨x2, hx2, h⟩ := hl_bind h
      refine hl_R.loc (ls' := [(0, .ref 38), (2, .long ((σ.2 10 v1.toNatClampNeg) ||| (σ.2 11 v1.toNatClampNeg))), (4, .int 0), (5, .int 0)]) ⟨rfl, rfl, rfl, rfl, trivial⟩ ?_
      refine hl_lp_run3 (P := fun (c0 : Int32) (c1 : Int32) (c2 : hl_M) => hl_R X (D + 1) y178 59 [(0, .ref 38), (2, .long ((σ.2 10 v1.toNatClampNeg) ||| (σ.2 11 v1.toNatClampNeg))), (4, .int c0), (5, .int c1)] [] c2 (some (.int r)) τ) (fun x : hl_M => hl_R X (D + 1) y178 111 [(0, .ref 38), (2, .long ((σ.2 10 v1.toNatClampNeg) ||| (σ.2 11 v1.toNatClampNeg)))] [] x (some (.int r)) τ) (fun c0 c1 c2 o ho h1 h2 => p_Pt_gather_L59 D ((σ.2 10 v1.toNatClampNeg) ||| (σ.2 11 v1.toNatClampNeg)) (c0, c1, c2) ho h1 (fun a0 e => h2 a0 e)) hl_big 0 0 (hl_si σ 38 4 (f_Long_bitCount ((σ.2 10 v1.toNatClampNeg) ||| (σ.2 11 v1.toNatClampNeg)))) x2 hx2 ?_
      refine hl_iconst d178_111 ki0 ?_
      refine hl_istore (ls2 := [(4, .int 0), (0, .ref 38), (2, .long ((σ.2 10 v1.toNatClampNeg) ||| (σ.2 11 v1.toNatClampNeg)))]) d178_112 (by decide) rfl ?_
      refine hl_iconst d178_114 ki0 ?_
      refine hl_istore (ls2 := [(5, .int 0), (4, .int 0), (0, .ref 38), (2, .long ((σ.2 10 v1.toNatClampNeg) ||| (σ.2 11 v1.toNatClampNeg)))]) d178_115 (by decide) rfl ?_
      obtain ⟨x3, hx3, h⟩ := hl_bind h
      refine hl_R.loc (ls' := [(0, .ref 38), (2, .long ((σ.2 10 v1.toNatClampNeg) ||| (σ.2 11 v1.toNatClampNeg))), (4, .int 0), (5, .int 0)]) ⟨rfl, rfl, rfl, rfl, trivial⟩ ?_
      refine hl_lp_run3 (P := fun (c0 : Int32) (c1 : Int32) (c2 : hl_M) => hl_R X (D + 1) y178 117 [(0, .ref 38), (2, .long ((σ.2 10 v1.toNatClampNeg) ||| (σ.2 11 v1.toNatClampNeg))), (4, .int c0), (5, .int c1)] [] c2 (some (.int r)) τ) (fun x : hl_M => hl_R X (D + 1) y178 162 [] [] x (some (.int r)) τ) (fun c0 c1 c2 o ho h1 h2 => p_Pt_gather_L117 D ((σ.2 10 v1.toNatClampNeg) ||| (σ.2 11 v1.toNatClampNeg)) (c0, c1, c2) ho h1 (fun a0 e => h2 a0 e)) hl_big 0 0 x2 x3 hx3 ?_
      refine hl_iconst d178_162 ki1 ?_
      obtain ⟨e1, e2⟩ := hl_some2 h
      subst e1; subst e2
      exact hl_zret d178_163 rfl (by decide)
    · have h := hl_neg hc h
      refine hl_iconst d178_51 ki0 ?_
      obtain ⟨e1, e2⟩ := hl_some2 h
      subst e1; subst e2
      exact hl_zret d178_52 rfl (by decide)
def f_Pt_spread_L2 (v1 : Int32) (s : Int32 × hl_M) : Option ((Int32 × hl_M) ⊕ (hl_M)) :=
  if 54 ≤ s.1 then
  some (.inr s.2) else
  if hl_b s.1 54 then
  some (.inl ((s.1 + 1, hl_si s.2 39 s.1.toNatClampNeg 10000))) else none
def f_Pt_spread_L67 (v3 : Int32) (s : Int32 × Int32 × hl_M) : Option ((Int32 × Int32 × hl_M) ⊕ (Int32 × hl_M)) :=
  if 4 ≤ s.2.1 then
  some (.inr (((s.1, s.2.2)))) else
  if hl_b v3 54 then
  (f_Gr_nextCell (s.2.2.1 40 v3.toNatClampNeg) s.2.1 s.2.2).bind fun x2 =>
  if (f_X_within x2 54) = 0 then
  some (.inl ((s.1, s.2.1 + 1, s.2.2))) else
  if hl_b x2 54 then
  if (s.2.2.1 39 x2.toNatClampNeg) = 10000 then
  if 54 ≤ s.1 then
  some (.inl ((s.1, s.2.1 + 1, s.2.2))) else
  if hl_b v3 54 then
  if hl_b (s.2.2.1 40 v3.toNatClampNeg) 54 then
  if hl_b x2 54 then
  if hl_b s.1 54 then
  some (.inl ((s.1 + 1, s.2.1 + 1, hl_si (hl_si s.2.2 39 x2.toNatClampNeg ((s.2.2.1 39 (s.2.2.1 40 v3.toNatClampNeg).toNatClampNeg) + 1)) 40 s.1.toNatClampNeg x2))) else none else none else none else none else
  some (.inl ((s.1, s.2.1 + 1, s.2.2))) else none else none
def f_Pt_spread_L53 (s : Int32 × Int32 × hl_M) : Option ((Int32 × Int32 × hl_M) ⊕ (hl_M)) :=
  if s.1 ≤ s.2.1 then
  some (.inr s.2.2) else
  if 54 ≤ s.2.1 then
  some (.inr s.2.2) else
  (hl_lp (f_Pt_spread_L67 s.2.1) hl_big ((s.1, 0, s.2.2))).bind fun x3 =>
  some (.inl ((x3.1, s.2.1 + 1, x3.2)))
def f_Pt_spread (v1 : Int32) (σ : hl_M) : Option (hl_M) :=
  (hl_lp (f_Pt_spread_L2 v1) hl_big ((0, σ))).bind fun x1 =>
  if (f_Gr_isOpen v1 x1) = 0 then
  some x1 else
  if hl_b v1 54 then
  if hl_b (0 : Int32) 54 then
  (hl_lp (f_Pt_spread_L53) hl_big ((1, 0, hl_si (hl_si x1 39 v1.toNatClampNeg 0) 40 (0 : Int32).toNatClampNeg v1))).bind fun x4 =>
  some x4 else none else none
set_option maxRecDepth 20000 in
theorem p_Pt_spread_L2 {X : hl_X} (D : Nat) (v1 : Int32) (s : Int32 × hl_M) {o : (Int32 × hl_M) ⊕ (hl_M)} {v : Option Value} {τ : hl_M} (h : f_Pt_spread_L2 v1 s = some o) (k1 : ∀ (c0 : Int32) (c1 : hl_M), o = .inl ((c0, c1)) → hl_R X (D + 3) y179 2 [(0, .ref 38), (1, .int v1), (2, .int c0)] [] c1 v τ) (k2 : ∀ (a0 : hl_M), o = .inr a0 → hl_R X (D + 3) y179 23 [(0, .ref 38), (1, .int v1)] [] a0 v τ) : hl_R X (D + 3) y179 2 [(0, .ref 38), (1, .int v1), (2, .int s.1)] [] s.2 v τ := by
  unfold f_Pt_spread_L2 at h
  refine hl_iload_n (i := 2) d179_2 rfl rfl ?_
  refine hl_bipush d179_3 kb54 ?_
  refine hl_icmp_ge (tg := 23) d179_5 rfl (fun hc => ?_) (fun hc => ?_)
  · have h := hl_pos hc h
    have h := Option.some.inj h
    subst h
    exact hl_loc (k2 s.2 rfl) ⟨rfl, rfl, trivial⟩
  · have h := hl_neg hc h
    refine hl_aload_n (i := 0) d179_8 rfl rfl (by decide) ?_
    refine hl_gr d179_9 gPt_9_38 ?_
    refine hl_iload_n (i := 2) d179_12 rfl rfl ?_
    refine hl_sipush d179_13 ks10000 ?_
    obtain ⟨hb, h⟩ := hl_gd h
    refine hl_iast (q := 39) d179_16 sh39 (hl_b_in hb) ?_
    refine hl_iinc (ls2 := [(2, .int (s.1 + 1)), (0, .ref 38), (1, .int v1)]) d179_17 rfl kx1 (by decide) rfl ?_
    refine hl_goto (tg := 2) d179_20 rfl ?_
    have h := Option.some.inj h
    subst h
    exact hl_loc (k1 (s.1 + 1) (hl_si s.2 39 s.1.toNatClampNeg 10000) rfl) ⟨rfl, rfl, rfl, trivial⟩
set_option maxRecDepth 20000 in
theorem p_Pt_spread_L67 {X : hl_X} (D : Nat) (v3 : Int32) (s : Int32 × Int32 × hl_M) {o : (Int32 × Int32 × hl_M) ⊕ (Int32 × hl_M)} {v : Option Value} {τ : hl_M} (h : f_Pt_spread_L67 v3 s = some o) (k1 : ∀ (c0 : Int32) (c1 : Int32) (c2 : hl_M), o = .inl ((c0, c1, c2)) → hl_R X (D + 3) y179 67 [(0, .ref 38), (2, .int c0), (3, .int v3), (4, .int c1)] [] c2 v τ) (k2 : ∀ (a0 : Int32) (a1 : hl_M), o = .inr ((a0, a1)) → hl_R X (D + 3) y179 156 [(0, .ref 38), (2, .int a0), (3, .int v3)] [] a1 v τ) : hl_R X (D + 3) y179 67 [(0, .ref 38), (2, .int s.1), (3, .int v3), (4, .int s.2.1)] [] s.2.2 v τ := by
  unfold f_Pt_spread_L67 at h
  refine hl_iload d179_67 rfl ?_
  refine hl_iconst d179_69 ki4 ?_
  refine hl_icmp_ge (tg := 156) d179_70 rfl (fun hc => ?_) (fun hc => ?_)
  · have h := hl_pos hc h
    have h := Option.some.inj h
    subst h
    exact hl_loc (k2 s.1 s.2.2 rfl) ⟨rfl, rfl, rfl, trivial⟩
  · have h := hl_neg hc h
    refine hl_aload_n (i := 0) d179_73 rfl rfl (by decide) ?_
    refine hl_gr d179_74 gPt_38_38 ?_
    refine hl_aload_n (i := 0) d179_77 rfl rfl (by decide) ?_
    refine hl_gr d179_78 gPt_15_38 ?_
    refine hl_iload_n (i := 3) d179_81 rfl rfl ?_
    obtain ⟨hb, h⟩ := hl_gd h
    refine hl_iald d179_82 sh40 (hl_b_in hb) ?_
    refine hl_iload d179_83 rfl ?_
    obtain ⟨x2, hx2, h⟩ := hl_bind h
    refine hl_cVi (D := (D + 2)) (z := y60) (n := 2) (av := [.int (s.2.2.1 40 v3.toNatClampNeg), .int s.2.1]) (st := []) d179_85 mlPt_60 rfl (Nat.le_of_ble_eq_true rfl) (Nat.le_of_ble_eq_true rfl) rc4 ((p_Gr_nextCell D (s.2.2.1 40 v3.toNatClampNeg) s.2.1 s.2.2 hx2).dle (by omega)) ?_
    refine hl_istore (ls2 := [(5, .int x2), (0, .ref 38), (2, .int s.1), (3, .int v3), (4, .int s.2.1)]) d179_88 (by decide) rfl ?_
    refine hl_iload d179_90 rfl ?_
    refine hl_bipush d179_92 kb54 ?_
    refine hl_cNi (D := (D + 2)) (z := y2) (n := 2) (av := [.int x2, .int 54]) (st := []) d179_94 mlPt_50 rfl (Nat.le_of_ble_eq_true rfl) (Nat.le_of_ble_eq_true rfl) ((p_X_within D x2 54 s.2.2 rfl).dle (by omega)) ?_
    refine hl_if_eq (tg := 150) d179_97 rfl (fun hc => ?_) (fun hc => ?_)
    · have h := hl_pos hc h
      refine hl_iinc (ls2 := [(4, .int (s.2.1 + 1)), (5, .int x2), (0, .ref 38), (2, .int s.1), (3, .int v3)]) d179_150 rfl kx1 (by decide) rfl ?_
      refine hl_goto (tg := 67) d179_153 rfl ?_
      have h := Option.some.inj h
      subst h
      exact hl_loc (k1 s.1 (s.2.1 + 1) s.2.2 rfl) ⟨rfl, rfl, rfl, rfl, trivial⟩
    · have h := hl_neg hc h
      refine hl_aload_n (i := 0) d179_100 rfl rfl (by decide) ?_
      refine hl_gr d179_101 gPt_9_38 ?_
      refine hl_iload d179_104 rfl ?_
      obtain ⟨hb, h⟩ := hl_gd h
      refine hl_iald d179_106 sh39 (hl_b_in hb) ?_
      refine hl_sipush d179_107 ks10000 ?_
      refine hl_icmp_ne (tg := 150) d179_110 rfl (fun hc => ?_) (fun hc => ?_)
      · have h := hl_neg hc h
        refine hl_iinc (ls2 := [(4, .int (s.2.1 + 1)), (5, .int x2), (0, .ref 38), (2, .int s.1), (3, .int v3)]) d179_150 rfl kx1 (by decide) rfl ?_
        refine hl_goto (tg := 67) d179_153 rfl ?_
        have h := Option.some.inj h
        subst h
        exact hl_loc (k1 s.1 (s.2.1 + 1) s.2.2 rfl) ⟨rfl, rfl, rfl, rfl, trivial⟩
      · have h := hl_pos hc h
        refine hl_iload_n (i := 2) d179_113 rfl rfl ?_
        refine hl_bipush d179_114 kb54 ?_
        refine hl_icmp_ge (tg := 150) d179_116 rfl (fun hc => ?_) (fun hc => ?_)
        · have h := hl_pos hc h
          refine hl_iinc (ls2 := [(4, .int (s.2.1 + 1)), (5, .int x2), (0, .ref 38), (2, .int s.1), (3, .int v3)]) d179_150 rfl kx1 (by decide) rfl ?_
          refine hl_goto (tg := 67) d179_153 rfl ?_
          have h := Option.some.inj h
          subst h
          exact hl_loc (k1 s.1 (s.2.1 + 1) s.2.2 rfl) ⟨rfl, rfl, rfl, rfl, trivial⟩
        · have h := hl_neg hc h
          refine hl_aload_n (i := 0) d179_119 rfl rfl (by decide) ?_
          refine hl_gr d179_120 gPt_9_38 ?_
          refine hl_iload d179_123 rfl ?_
          refine hl_aload_n (i := 0) d179_125 rfl rfl (by decide) ?_
          refine hl_gr d179_126 gPt_9_38 ?_
          refine hl_aload_n (i := 0) d179_129 rfl rfl (by decide) ?_
          refine hl_gr d179_130 gPt_15_38 ?_
          refine hl_iload_n (i := 3) d179_133 rfl rfl ?_
          obtain ⟨hb, h⟩ := hl_gd h
          refine hl_iald d179_134 sh40 (hl_b_in hb) ?_
          obtain ⟨hb, h⟩ := hl_gd h
          refine hl_iald d179_135 sh39 (hl_b_in hb) ?_
          refine hl_iconst d179_136 ki1 ?_
          refine hl_iadd d179_137 ?_
          obtain ⟨hb, h⟩ := hl_gd h
          refine hl_iast (q := 39) d179_138 sh39 (hl_b_in hb) ?_
          refine hl_aload_n (i := 0) d179_139 rfl rfl (by decide) ?_
          refine hl_gr d179_140 gPt_15_38 ?_
          refine hl_iload_n (i := 2) d179_143 rfl rfl ?_
          refine hl_iload d179_144 rfl ?_
          obtain ⟨hb, h⟩ := hl_gd h
          refine hl_iast (q := 40) d179_146 sh40 (hl_b_in hb) ?_
          refine hl_iinc (ls2 := [(2, .int (s.1 + 1)), (5, .int x2), (0, .ref 38), (3, .int v3), (4, .int s.2.1)]) d179_147 rfl kx1 (by decide) rfl ?_
          refine hl_iinc (ls2 := [(4, .int (s.2.1 + 1)), (2, .int (s.1 + 1)), (5, .int x2), (0, .ref 38), (3, .int v3)]) d179_150 rfl kx1 (by decide) rfl ?_
          refine hl_goto (tg := 67) d179_153 rfl ?_
          have h := Option.some.inj h
          subst h
          exact hl_loc (k1 (s.1 + 1) (s.2.1 + 1) (hl_si (hl_si s.2.2 39 x2.toNatClampNeg ((s.2.2.1 39 (s.2.2.1 40 v3.toNatClampNeg).toNatClampNeg) + 1)) 40 s.1.toNatClampNeg x2) rfl) ⟨rfl, rfl, rfl, rfl, trivial⟩
set_option maxRecDepth 20000 in
theorem p_Pt_spread_L53 {X : hl_X} (D : Nat) (s : Int32 × Int32 × hl_M) {o : (Int32 × Int32 × hl_M) ⊕ (hl_M)} {v : Option Value} {τ : hl_M} (h : f_Pt_spread_L53 s = some o) (k1 : ∀ (c0 : Int32) (c1 : Int32) (c2 : hl_M), o = .inl ((c0, c1, c2)) → hl_R X (D + 3) y179 53 [(0, .ref 38), (2, .int c0), (3, .int c1)] [] c2 v τ) (k2 : ∀ (a0 : hl_M), o = .inr a0 → hl_R X (D + 3) y179 162 [] [] a0 v τ) : hl_R X (D + 3) y179 53 [(0, .ref 38), (2, .int s.1), (3, .int s.2.1)] [] s.2.2 v τ := by
  unfold f_Pt_spread_L53 at h
  refine hl_iload_n (i := 3) d179_53 rfl rfl ?_
  refine hl_iload_n (i := 2) d179_54 rfl rfl ?_
  refine hl_icmp_ge (tg := 162) d179_55 rfl (fun hc => ?_) (fun hc => ?_)
  · have h := hl_pos hc h
    have h := Option.some.inj h
    subst h
    exact hl_loc (k2 s.2.2 rfl) trivial
  · have h := hl_neg hc h
    refine hl_iload_n (i := 3) d179_58 rfl rfl ?_
    refine hl_bipush d179_59 kb54 ?_
    refine hl_icmp_ge (tg := 162) d179_61 rfl (fun hc => ?_) (fun hc => ?_)
    · have h := hl_pos hc h
      have h := Option.some.inj h
      subst h
      exact hl_loc (k2 s.2.2 rfl) trivial
    · have h := hl_neg hc h
      refine hl_iconst d179_64 ki0 ?_
      refine hl_istore (ls2 := [(4, .int 0), (0, .ref 38), (2, .int s.1), (3, .int s.2.1)]) d179_65 (by decide) rfl ?_
      obtain ⟨x3, hx3, h⟩ := hl_bind h
      refine hl_R.loc (ls' := [(0, .ref 38), (2, .int s.1), (3, .int s.2.1), (4, .int 0)]) ⟨rfl, rfl, rfl, rfl, trivial⟩ ?_
      refine hl_lp_run3 (P := fun (c0 : Int32) (c1 : Int32) (c2 : hl_M) => hl_R X (D + 3) y179 67 [(0, .ref 38), (2, .int c0), (3, .int s.2.1), (4, .int c1)] [] c2 v τ) (fun x : Int32 × hl_M => hl_R X (D + 3) y179 156 [(0, .ref 38), (2, .int x.1), (3, .int s.2.1)] [] x.2 v τ) (fun c0 c1 c2 o ho h1 h2 => p_Pt_spread_L67 D s.2.1 (c0, c1, c2) ho h1 (fun a0 a1 e => h2 ((a0, a1)) e)) hl_big s.1 0 s.2.2 x3 hx3 ?_
      refine hl_iinc (ls2 := [(3, .int (s.2.1 + 1)), (0, .ref 38), (2, .int x3.1)]) d179_156 rfl kx1 (by decide) rfl ?_
      refine hl_goto (tg := 53) d179_159 rfl ?_
      have h := Option.some.inj h
      subst h
      exact hl_loc (k1 x3.1 (s.2.1 + 1) x3.2 rfl) ⟨rfl, rfl, rfl, trivial⟩
set_option maxRecDepth 20000 in
theorem p_Pt_spread {X : hl_X} (D : Nat) (v1 : Int32) (σ : hl_M) {τ : hl_M} (h : f_Pt_spread v1 σ = some τ) : hl_R X (D + 3) y179 0 [(0, .ref 38), (1, .int v1)] [] σ none τ := by
  unfold f_Pt_spread at h
  refine hl_iconst d179_0 ki0 ?_
  refine hl_istore_n (i := 2) (ls2 := [(2, .int 0), (0, .ref 38), (1, .int v1)]) d179_1 rfl (by decide) rfl ?_
  obtain ⟨x1, hx1, h⟩ := hl_bind h
  refine hl_R.loc (ls' := [(0, .ref 38), (1, .int v1), (2, .int 0)]) ⟨rfl, rfl, rfl, trivial⟩ ?_
  refine hl_lp_run2 (P := fun (c0 : Int32) (c1 : hl_M) => hl_R X (D + 3) y179 2 [(0, .ref 38), (1, .int v1), (2, .int c0)] [] c1 none τ) (fun x : hl_M => hl_R X (D + 3) y179 23 [(0, .ref 38), (1, .int v1)] [] x none τ) (fun c0 c1 o ho h1 h2 => p_Pt_spread_L2 D v1 (c0, c1) ho h1 (fun a0 e => h2 a0 e)) hl_big 0 σ x1 hx1 ?_
  refine hl_aload_n (i := 0) d179_23 rfl rfl (by decide) ?_
  refine hl_gr d179_24 gPt_38_38 ?_
  refine hl_iload_n (i := 1) d179_27 rfl rfl ?_
  refine hl_cVi (D := (D + 2)) (z := y49) (n := 1) (av := [.int v1]) (st := []) d179_28 mlPt_54 rfl (Nat.le_of_ble_eq_true rfl) (Nat.le_of_ble_eq_true rfl) rc4 ((p_Gr_isOpen D v1 x1 rfl).dle (by omega)) ?_
  refine hl_if_ne (tg := 35) d179_31 rfl (fun hc => ?_) (fun hc => ?_)
  · have h := hl_neg hc h
    refine hl_aload_n (i := 0) d179_35 rfl rfl (by decide) ?_
    refine hl_gr d179_36 gPt_9_38 ?_
    refine hl_iload_n (i := 1) d179_39 rfl rfl ?_
    refine hl_iconst d179_40 ki0 ?_
    obtain ⟨hb, h⟩ := hl_gd h
    refine hl_iast (q := 39) d179_41 sh39 (hl_b_in hb) ?_
    refine hl_aload_n (i := 0) d179_42 rfl rfl (by decide) ?_
    refine hl_gr d179_43 gPt_15_38 ?_
    refine hl_iconst d179_46 ki0 ?_
    refine hl_iload_n (i := 1) d179_47 rfl rfl ?_
    obtain ⟨hb, h⟩ := hl_gd h
    refine hl_iast (q := 40) d179_48 sh40 (hl_b_in hb) ?_
    refine hl_iconst d179_49 ki1 ?_
    refine hl_istore_n (i := 2) (ls2 := [(2, .int 1), (0, .ref 38), (1, .int v1)]) d179_50 rfl (by decide) rfl ?_
    refine hl_iconst d179_51 ki0 ?_
    refine hl_istore_n (i := 3) (ls2 := [(3, .int 0), (2, .int 1), (0, .ref 38), (1, .int v1)]) d179_52 rfl (by decide) rfl ?_
    obtain ⟨x4, hx4, h⟩ := hl_bind h
    refine hl_R.loc (ls' := [(0, .ref 38), (2, .int 1), (3, .int 0)]) ⟨rfl, rfl, rfl, trivial⟩ ?_
    refine hl_lp_run3 (P := fun (c0 : Int32) (c1 : Int32) (c2 : hl_M) => hl_R X (D + 3) y179 53 [(0, .ref 38), (2, .int c0), (3, .int c1)] [] c2 none τ) (fun x : hl_M => hl_R X (D + 3) y179 162 [] [] x none τ) (fun c0 c1 c2 o ho h1 h2 => p_Pt_spread_L53 D (c0, c1, c2) ho h1 (fun a0 e => h2 a0 e)) hl_big 1 0 (hl_si (hl_si x1 39 v1.toNatClampNeg 0) 40 (0 : Int32).toNatClampNeg v1) x4 hx4 ?_
    have h := Option.some.inj h
    subst h
    exact hl_vret d179_162 rfl
  · have h := hl_pos hc h
    have h := Option.some.inj h
    subst h
    exact hl_vret d179_34 rfl
def f_Int_bitCount (v0 : Int32) : Int32 :=
  hl_let (v0 - (((v0.toUInt32 >>> ((1 : Int32).toUInt32 &&& Int32.toUInt32 31)).toInt32) &&& 1431655765)) (fun w1 =>
  hl_let ((w1 &&& 858993459) + (((w1.toUInt32 >>> ((2 : Int32).toUInt32 &&& Int32.toUInt32 31)).toInt32) &&& 858993459)) (fun w2 =>
  hl_let ((w2 + ((w2.toUInt32 >>> ((4 : Int32).toUInt32 &&& Int32.toUInt32 31)).toInt32)) &&& 252645135) (fun w3 =>
  hl_let ((w3 + ((w3.toUInt32 >>> ((8 : Int32).toUInt32 &&& Int32.toUInt32 31)).toInt32)) + (((w3 + ((w3.toUInt32 >>> ((8 : Int32).toUInt32 &&& Int32.toUInt32 31)).toInt32)).toUInt32 >>> ((16 : Int32).toUInt32 &&& Int32.toUInt32 31)).toInt32)) (fun w4 =>
  w4 &&& 63))))
set_option maxRecDepth 20000 in
theorem p_Int_bitCount {X : hl_X} (D : Nat) (v0 : Int32) (σ : hl_M) {r : Int32} (h : f_Int_bitCount v0 = r) : hl_R X D y181 0 [(0, .int v0)] [] σ (some (.int r)) σ := by
  unfold f_Int_bitCount at h
  refine hl_iload_n (i := 0) d181_0 rfl rfl ?_
  refine hl_iload_n (i := 0) d181_1 rfl rfl ?_
  refine hl_iconst d181_2 ki1 ?_
  refine hl_iushr d181_3 ?_
  refine hl_ldcw d181_4 wcInt_265 ?_
  refine hl_iand d181_7 ?_
  refine hl_isub d181_8 ?_
  refine hl_nmi h (fun w1 h => ?_)
  refine hl_istore_n (i := 0) (ls2 := [(0, .int w1)]) d181_9 rfl (by decide) rfl ?_
  refine hl_iload_n (i := 0) d181_10 rfl rfl ?_
  refine hl_ldcw d181_11 wcInt_266 ?_
  refine hl_iand d181_14 ?_
  refine hl_iload_n (i := 0) d181_15 rfl rfl ?_
  refine hl_iconst d181_16 ki2 ?_
  refine hl_iushr d181_17 ?_
  refine hl_ldcw d181_18 wcInt_266 ?_
  refine hl_iand d181_21 ?_
  refine hl_iadd d181_22 ?_
  refine hl_nmi h (fun w2 h => ?_)
  refine hl_istore_n (i := 0) (ls2 := [(0, .int w2)]) d181_23 rfl (by decide) rfl ?_
  refine hl_iload_n (i := 0) d181_24 rfl rfl ?_
  refine hl_iload_n (i := 0) d181_25 rfl rfl ?_
  refine hl_iconst d181_26 ki4 ?_
  refine hl_iushr d181_27 ?_
  refine hl_iadd d181_28 ?_
  refine hl_ldcw d181_29 wcInt_267 ?_
  refine hl_iand d181_32 ?_
  refine hl_nmi h (fun w3 h => ?_)
  refine hl_istore_n (i := 0) (ls2 := [(0, .int w3)]) d181_33 rfl (by decide) rfl ?_
  refine hl_iload_n (i := 0) d181_34 rfl rfl ?_
  refine hl_iload_n (i := 0) d181_35 rfl rfl ?_
  refine hl_bipush d181_36 kb8 ?_
  refine hl_iushr d181_38 ?_
  refine hl_iadd d181_39 ?_
  refine hl_istore_n (i := 0) (ls2 := [(0, .int (w3 + ((w3.toUInt32 >>> ((8 : Int32).toUInt32 &&& Int32.toUInt32 31)).toInt32)))]) d181_40 rfl (by decide) rfl ?_
  refine hl_iload_n (i := 0) d181_41 rfl rfl ?_
  refine hl_iload_n (i := 0) d181_42 rfl rfl ?_
  refine hl_bipush d181_43 kb16 ?_
  refine hl_iushr d181_45 ?_
  refine hl_iadd d181_46 ?_
  refine hl_nmi h (fun w4 h => ?_)
  refine hl_istore_n (i := 0) (ls2 := [(0, .int w4)]) d181_47 rfl (by decide) rfl ?_
  refine hl_iload_n (i := 0) d181_48 rfl rfl ?_
  refine hl_bipush d181_49 kb63 ?_
  refine hl_iand d181_51 ?_
  subst h
  exact hl_iret d181_52 rfl
def f_Pt_weigh_L49 (v2 : Int32) (v3 : Int32) (σ : hl_M) (s : Int32 × Int32 × Int32) : Option ((Int32 × Int32 × Int32) ⊕ (Int32 × Int32)) :=
  if (σ.1 38 4) ≤ s.2.2 then
  some (.inr (((s.1, s.2.1)))) else
  if (v2 ||| ((1 : Int32) <<< (s.2.2 &&& 31))) = v2 then
  some (.inl ((s.1, s.2.1, s.2.2 + 1))) else
  if hl_b v3 8 then
  if (hl_shp (43 + 1 + v3.toNatClampNeg)).1 = 100 ∧ hl_b s.2.2 (hl_shp (43 + 1 + v3.toNatClampNeg)).2 then
  if hl_b (v2 ||| ((1 : Int32) <<< (s.2.2 &&& 31))) 256 then
  if hl_b v3 8 then
  if (hl_shp (43 + 1 + v3.toNatClampNeg)).1 = 100 ∧ hl_b s.2.2 (hl_shp (43 + 1 + v3.toNatClampNeg)).2 then
  if hl_b (v2 ||| ((1 : Int32) <<< (s.2.2 &&& 31))) 256 then
  some (.inl ((f_Math_min_III s.1 ((σ.1 (43 + 1 + v3.toNatClampNeg) s.2.2.toNatClampNeg) + (σ.1 52 (v2 ||| ((1 : Int32) <<< (s.2.2 &&& 31))).toNatClampNeg)), f_Math_min_III s.2.1 (f_Math_max_III (σ.1 (43 + 1 + v3.toNatClampNeg) s.2.2.toNatClampNeg) (σ.1 53 (v2 ||| ((1 : Int32) <<< (s.2.2 &&& 31))).toNatClampNeg)), s.2.2 + 1))) else none else none else none else none else none else none
def f_Pt_weigh_L27 (s : Int32 × hl_M) : Option ((Int32 × hl_M) ⊕ (hl_M)) :=
  if s.1 < 0 then
  some (.inr s.2) else
  (hl_lp (f_Pt_weigh_L49 s.1 (f_Int_bitCount s.1) s.2) hl_big ((10000, 10000, 0))).bind fun x1 =>
  if hl_b s.1 256 then
  if hl_b s.1 256 then
  some (.inl ((s.1 + (-1), hl_si (hl_si s.2 52 s.1.toNatClampNeg x1.1) 53 s.1.toNatClampNeg x1.2))) else none else none
def f_Pt_weigh (σ : hl_M) : Option (hl_M) :=
  if hl_b (((1 : Int32) <<< ((σ.1 38 4) &&& 31)) - 1) 256 then
  if hl_b (((1 : Int32) <<< ((σ.1 38 4) &&& 31)) - 1) 256 then
  (hl_lp (f_Pt_weigh_L27) hl_big (((((1 : Int32) <<< ((σ.1 38 4) &&& 31)) - 1) - 1, hl_si (hl_si σ 52 (((1 : Int32) <<< ((σ.1 38 4) &&& 31)) - 1).toNatClampNeg 0) 53 (((1 : Int32) <<< ((σ.1 38 4) &&& 31)) - 1).toNatClampNeg 0))).bind fun x2 =>
  some x2 else none else none
set_option maxRecDepth 20000 in
theorem p_Pt_weigh_L49 {X : hl_X} (D : Nat) (v2 : Int32) (v3 : Int32) (σ : hl_M) (s : Int32 × Int32 × Int32) {o : (Int32 × Int32 × Int32) ⊕ (Int32 × Int32)} {v : Option Value} {τ : hl_M} (h : f_Pt_weigh_L49 v2 v3 σ s = some o) (k1 : ∀ (c0 : Int32) (c1 : Int32) (c2 : Int32), o = .inl ((c0, c1, c2)) → hl_R X (D + 1) y180 49 [(0, .ref 38), (2, .int v2), (3, .int v3), (4, .int c0), (5, .int c1), (6, .int c2)] [] σ v τ) (k2 : ∀ (a0 : Int32) (a1 : Int32), o = .inr ((a0, a1)) → hl_R X (D + 1) y180 128 [(0, .ref 38), (2, .int v2), (4, .int a0), (5, .int a1)] [] σ v τ) : hl_R X (D + 1) y180 49 [(0, .ref 38), (2, .int v2), (3, .int v3), (4, .int s.1), (5, .int s.2.1), (6, .int s.2.2)] [] σ v τ := by
  unfold f_Pt_weigh_L49 at h
  refine hl_iload d180_49 rfl ?_
  refine hl_aload_n (i := 0) d180_51 rfl rfl (by decide) ?_
  refine hl_gi d180_52 gPt_71_38 ?_
  refine hl_icmp_ge (tg := 128) d180_55 rfl (fun hc => ?_) (fun hc => ?_)
  · have h := hl_pos hc h
    have h := Option.some.inj h
    subst h
    exact hl_loc (k2 s.1 s.2.1 rfl) ⟨rfl, rfl, rfl, rfl, trivial⟩
  · have h := hl_neg hc h
    refine hl_iload_n (i := 2) d180_58 rfl rfl ?_
    refine hl_iconst d180_59 ki1 ?_
    refine hl_iload d180_60 rfl ?_
    refine hl_ishl d180_62 ?_
    refine hl_ior d180_63 ?_
    refine hl_istore (ls2 := [(7, .int (v2 ||| ((1 : Int32) <<< (s.2.2 &&& 31)))), (0, .ref 38), (2, .int v2), (3, .int v3), (4, .int s.1), (5, .int s.2.1), (6, .int s.2.2)]) d180_64 (by decide) rfl ?_
    refine hl_iload d180_66 rfl ?_
    refine hl_iload_n (i := 2) d180_68 rfl rfl ?_
    refine hl_icmp_eq (tg := 122) d180_69 rfl (fun hc => ?_) (fun hc => ?_)
    · have h := hl_pos hc h
      refine hl_iinc (ls2 := [(6, .int (s.2.2 + 1)), (7, .int (v2 ||| ((1 : Int32) <<< (s.2.2 &&& 31)))), (0, .ref 38), (2, .int v2), (3, .int v3), (4, .int s.1), (5, .int s.2.1)]) d180_122 rfl kx1 (by decide) rfl ?_
      refine hl_goto (tg := 49) d180_125 rfl ?_
      have h := Option.some.inj h
      subst h
      exact hl_loc (k1 s.1 s.2.1 (s.2.2 + 1) rfl) ⟨rfl, rfl, rfl, rfl, rfl, rfl, trivial⟩
    · have h := hl_neg hc h
      refine hl_iload d180_72 rfl ?_
      refine hl_aload_n (i := 0) d180_74 rfl rfl (by decide) ?_
      refine hl_gr d180_75 gPt_26_38 ?_
      refine hl_iload_n (i := 3) d180_78 rfl rfl ?_
      obtain ⟨hb, h⟩ := hl_gd h
      refine hl_aald d180_79 sh43 (hl_b_in hb) (by decide) ?_
      have hq79 := hl_row9 (q := 43) hb (by decide)
      refine hl_iload d180_80 rfl ?_
      obtain ⟨hb, h⟩ := hl_gd h
      refine hl_iald (q := (43 + 1 + v3.toNatClampNeg)) d180_82 (hl_shx hb.1) (hl_b_in hb.2) ?_
      refine hl_aload_n (i := 0) d180_83 rfl rfl (by decide) ?_
      refine hl_gr d180_84 gPt_29_38 ?_
      refine hl_iload d180_87 rfl ?_
      obtain ⟨hb, h⟩ := hl_gd h
      refine hl_iald d180_89 sh52 (hl_b_in hb) ?_
      refine hl_iadd d180_90 ?_
      refine hl_cSi (D := D) (z := y46) (n := 2) (av := [.int s.1, .int ((σ.1 (43 + 1 + v3.toNatClampNeg) s.2.2.toNatClampNeg) + (σ.1 52 (v2 ||| ((1 : Int32) <<< (s.2.2 &&& 31))).toNatClampNeg))]) (st := []) d180_91 mlPt_117 rfl (Nat.le_of_ble_eq_true rfl) (Nat.le_of_ble_eq_true rfl) ((p_Math_min_III D s.1 ((σ.1 (43 + 1 + v3.toNatClampNeg) s.2.2.toNatClampNeg) + (σ.1 52 (v2 ||| ((1 : Int32) <<< (s.2.2 &&& 31))).toNatClampNeg)) σ rfl).dle (by omega)) ?_
      refine hl_istore (ls2 := [(4, .int (f_Math_min_III s.1 ((σ.1 (43 + 1 + v3.toNatClampNeg) s.2.2.toNatClampNeg) + (σ.1 52 (v2 ||| ((1 : Int32) <<< (s.2.2 &&& 31))).toNatClampNeg)))), (7, .int (v2 ||| ((1 : Int32) <<< (s.2.2 &&& 31)))), (0, .ref 38), (2, .int v2), (3, .int v3), (5, .int s.2.1), (6, .int s.2.2)]) d180_94 (by decide) rfl ?_
      refine hl_iload d180_96 rfl ?_
      refine hl_aload_n (i := 0) d180_98 rfl rfl (by decide) ?_
      refine hl_gr d180_99 gPt_26_38 ?_
      refine hl_iload_n (i := 3) d180_102 rfl rfl ?_
      obtain ⟨hb, h⟩ := hl_gd h
      refine hl_aald d180_103 sh43 (hl_b_in hb) (by decide) ?_
      have hq103 := hl_row9 (q := 43) hb (by decide)
      refine hl_iload d180_104 rfl ?_
      obtain ⟨hb, h⟩ := hl_gd h
      refine hl_iald (q := (43 + 1 + v3.toNatClampNeg)) d180_106 (hl_shx hb.1) (hl_b_in hb.2) ?_
      refine hl_aload_n (i := 0) d180_107 rfl rfl (by decide) ?_
      refine hl_gr d180_108 gPt_32_38 ?_
      refine hl_iload d180_111 rfl ?_
      obtain ⟨hb, h⟩ := hl_gd h
      refine hl_iald d180_113 sh53 (hl_b_in hb) ?_
      refine hl_cSi (D := D) (z := y45) (n := 2) (av := [.int (σ.1 (43 + 1 + v3.toNatClampNeg) s.2.2.toNatClampNeg), .int (σ.1 53 (v2 ||| ((1 : Int32) <<< (s.2.2 &&& 31))).toNatClampNeg)]) (st := [.int s.2.1]) d180_114 mlPt_122 rfl (Nat.le_of_ble_eq_true rfl) (Nat.le_of_ble_eq_true rfl) ((p_Math_max_III D (σ.1 (43 + 1 + v3.toNatClampNeg) s.2.2.toNatClampNeg) (σ.1 53 (v2 ||| ((1 : Int32) <<< (s.2.2 &&& 31))).toNatClampNeg) σ rfl).dle (by omega)) ?_
      refine hl_cSi (D := D) (z := y46) (n := 2) (av := [.int s.2.1, .int (f_Math_max_III (σ.1 (43 + 1 + v3.toNatClampNeg) s.2.2.toNatClampNeg) (σ.1 53 (v2 ||| ((1 : Int32) <<< (s.2.2 &&& 31))).toNatClampNeg))]) (st := []) d180_117 mlPt_117 rfl (Nat.le_of_ble_eq_true rfl) (Nat.le_of_ble_eq_true rfl) ((p_Math_min_III D s.2.1 (f_Math_max_III (σ.1 (43 + 1 + v3.toNatClampNeg) s.2.2.toNatClampNeg) (σ.1 53 (v2 ||| ((1 : Int32) <<< (s.2.2 &&& 31))).toNatClampNeg)) σ rfl).dle (by omega)) ?_
      refine hl_istore (ls2 := [(5, .int (f_Math_min_III s.2.1 (f_Math_max_III (σ.1 (43 + 1 + v3.toNatClampNeg) s.2.2.toNatClampNeg) (σ.1 53 (v2 ||| ((1 : Int32) <<< (s.2.2 &&& 31))).toNatClampNeg)))), (4, .int (f_Math_min_III s.1 ((σ.1 (43 + 1 + v3.toNatClampNeg) s.2.2.toNatClampNeg) + (σ.1 52 (v2 ||| ((1 : Int32) <<< (s.2.2 &&& 31))).toNatClampNeg)))), (7, .int (v2 ||| ((1 : Int32) <<< (s.2.2 &&& 31)))), (0, .ref 38), (2, .int v2), (3, .int v3), (6, .int s.2.2)]) d180_120 (by decide) rfl ?_
      refine hl_iinc (ls2 := [(6, .int (s.2.2 + 1)), (5, .int (f_Math_min_III s.2.1 (f_Math_max_III (σ.1 (43 + 1 + v3.toNatClampNeg) s.2.2.toNatClampNeg) (σ.1 53 (v2 ||| ((1 : Int32) <<< (s.2.2 &&& 31))).toNatClampNeg)))), (4, .int (f_Math_min_III s.1 ((σ.1 (43 + 1 + v3.toNatClampNeg) s.2.2.toNatClampNeg) + (σ.1 52 (v2 ||| ((1 : Int32) <<< (s.2.2 &&& 31))).toNatClampNeg)))), (7, .int (v2 ||| ((1 : Int32) <<< (s.2.2 &&& 31)))), (0, .ref 38), (2, .int v2), (3, .int v3)]) d180_122 rfl kx1 (by decide) rfl ?_
      refine hl_goto (tg := 49) d180_125 rfl ?_
      have h := Option.some.inj h
      subst h
      exact hl_loc (k1 (f_Math_min_III s.1 ((σ.1 (43 + 1 + v3.toNatClampNeg) s.2.2.toNatClampNeg) + (σ.1 52 (v2 ||| ((1 : Int32) <<< (s.2.2 &&& 31))).toNatClampNeg))) (f_Math_min_III s.2.1 (f_Math_max_III (σ.1 (43 + 1 + v3.toNatClampNeg) s.2.2.toNatClampNeg) (σ.1 53 (v2 ||| ((1 : Int32) <<< (s.2.2 &&& 31))).toNatClampNeg))) (s.2.2 + 1) rfl) ⟨rfl, rfl, rfl, rfl, rfl, rfl, trivial⟩
set_option maxRecDepth 20000 in
theorem p_Pt_weigh_L27 {X : hl_X} (D : Nat) (s : Int32 × hl_M) {o : (Int32 × hl_M) ⊕ (hl_M)} {v : Option Value} {τ : hl_M} (h : f_Pt_weigh_L27 s = some o) (k1 : ∀ (c0 : Int32) (c1 : hl_M), o = .inl ((c0, c1)) → hl_R X (D + 1) y180 27 [(0, .ref 38), (2, .int c0)] [] c1 v τ) (k2 : ∀ (a0 : hl_M), o = .inr a0 → hl_R X (D + 1) y180 150 [] [] a0 v τ) : hl_R X (D + 1) y180 27 [(0, .ref 38), (2, .int s.1)] [] s.2 v τ := by
  unfold f_Pt_weigh_L27 at h
  refine hl_iload_n (i := 2) d180_27 rfl rfl ?_
  refine hl_if_lt (tg := 150) d180_28 rfl (fun hc => ?_) (fun hc => ?_)
  · have h := hl_pos hc h
    have h := Option.some.inj h
    subst h
    exact hl_loc (k2 s.2 rfl) trivial
  · have h := hl_neg hc h
    refine hl_iload_n (i := 2) d180_31 rfl rfl ?_
    refine hl_cSi (D := D) (z := y181) (n := 1) (av := [.int s.1]) (st := []) d180_32 mlPt_112 rfl (Nat.le_of_ble_eq_true rfl) (Nat.le_of_ble_eq_true rfl) ((p_Int_bitCount D s.1 s.2 rfl).dle (by omega)) ?_
    refine hl_istore_n (i := 3) (ls2 := [(3, .int (f_Int_bitCount s.1)), (0, .ref 38), (2, .int s.1)]) d180_35 rfl (by decide) rfl ?_
    refine hl_sipush d180_36 ks10000 ?_
    refine hl_istore (ls2 := [(4, .int 10000), (3, .int (f_Int_bitCount s.1)), (0, .ref 38), (2, .int s.1)]) d180_39 (by decide) rfl ?_
    refine hl_sipush d180_41 ks10000 ?_
    refine hl_istore (ls2 := [(5, .int 10000), (4, .int 10000), (3, .int (f_Int_bitCount s.1)), (0, .ref 38), (2, .int s.1)]) d180_44 (by decide) rfl ?_
    refine hl_iconst d180_46 ki0 ?_
    refine hl_istore (ls2 := [(6, .int 0), (5, .int 10000), (4, .int 10000), (3, .int (f_Int_bitCount s.1)), (0, .ref 38), (2, .int s.1)]) d180_47 (by decide) rfl ?_
    obtain ⟨x1, hx1, h⟩ := hl_bind h
    refine hl_R.loc (ls' := [(0, .ref 38), (2, .int s.1), (3, .int (f_Int_bitCount s.1)), (4, .int 10000), (5, .int 10000), (6, .int 0)]) ⟨rfl, rfl, rfl, rfl, rfl, rfl, trivial⟩ ?_
    refine hl_lp_run3 (P := fun (c0 : Int32) (c1 : Int32) (c2 : Int32) => hl_R X (D + 1) y180 49 [(0, .ref 38), (2, .int s.1), (3, .int (f_Int_bitCount s.1)), (4, .int c0), (5, .int c1), (6, .int c2)] [] s.2 v τ) (fun x : Int32 × Int32 => hl_R X (D + 1) y180 128 [(0, .ref 38), (2, .int s.1), (4, .int x.1), (5, .int x.2)] [] s.2 v τ) (fun c0 c1 c2 o ho h1 h2 => p_Pt_weigh_L49 D s.1 (f_Int_bitCount s.1) s.2 (c0, c1, c2) ho h1 (fun a0 a1 e => h2 ((a0, a1)) e)) hl_big 10000 10000 0 x1 hx1 ?_
    refine hl_aload_n (i := 0) d180_128 rfl rfl (by decide) ?_
    refine hl_gr d180_129 gPt_29_38 ?_
    refine hl_iload_n (i := 2) d180_132 rfl rfl ?_
    refine hl_iload d180_133 rfl ?_
    obtain ⟨hb, h⟩ := hl_gd h
    refine hl_iast (q := 52) d180_135 sh52 (hl_b_in hb) ?_
    refine hl_aload_n (i := 0) d180_136 rfl rfl (by decide) ?_
    refine hl_gr d180_137 gPt_32_38 ?_
    refine hl_iload_n (i := 2) d180_140 rfl rfl ?_
    refine hl_iload d180_141 rfl ?_
    obtain ⟨hb, h⟩ := hl_gd h
    refine hl_iast (q := 53) d180_143 sh53 (hl_b_in hb) ?_
    refine hl_iinc (ls2 := [(2, .int (s.1 + (-1))), (0, .ref 38), (4, .int x1.1), (5, .int x1.2)]) d180_144 rfl kxm1 (by decide) rfl ?_
    refine hl_goto (tg := 27) d180_147 rfl ?_
    have h := Option.some.inj h
    subst h
    exact hl_loc (k1 (s.1 + (-1)) (hl_si (hl_si s.2 52 s.1.toNatClampNeg x1.1) 53 s.1.toNatClampNeg x1.2) rfl) ⟨rfl, rfl, trivial⟩
set_option maxRecDepth 20000 in
theorem p_Pt_weigh {X : hl_X} (D : Nat) (σ : hl_M) {τ : hl_M} (h : f_Pt_weigh σ = some τ) : hl_R X (D + 1) y180 0 [(0, .ref 38)] [] σ none τ := by
  unfold f_Pt_weigh at h
  refine hl_iconst d180_0 ki1 ?_
  refine hl_aload_n (i := 0) d180_1 rfl rfl (by decide) ?_
  refine hl_gi d180_2 gPt_71_38 ?_
  refine hl_ishl d180_5 ?_
  refine hl_iconst d180_6 ki1 ?_
  refine hl_isub d180_7 ?_
  refine hl_istore_n (i := 1) (ls2 := [(1, .int (((1 : Int32) <<< ((σ.1 38 4) &&& 31)) - 1)), (0, .ref 38)]) d180_8 rfl (by decide) rfl ?_
  refine hl_aload_n (i := 0) d180_9 rfl rfl (by decide) ?_
  refine hl_gr d180_10 gPt_29_38 ?_
  refine hl_iload_n (i := 1) d180_13 rfl rfl ?_
  refine hl_iconst d180_14 ki0 ?_
  obtain ⟨hb, h⟩ := hl_gd h
  refine hl_iast (q := 52) d180_15 sh52 (hl_b_in hb) ?_
  refine hl_aload_n (i := 0) d180_16 rfl rfl (by decide) ?_
  refine hl_gr d180_17 gPt_32_38 ?_
  refine hl_iload_n (i := 1) d180_20 rfl rfl ?_
  refine hl_iconst d180_21 ki0 ?_
  obtain ⟨hb, h⟩ := hl_gd h
  refine hl_iast (q := 53) d180_22 sh53 (hl_b_in hb) ?_
  refine hl_iload_n (i := 1) d180_23 rfl rfl ?_
  refine hl_iconst d180_24 ki1 ?_
  refine hl_isub d180_25 ?_
  refine hl_istore_n (i := 2) (ls2 := [(2, .int ((((1 : Int32) <<< ((σ.1 38 4) &&& 31)) - 1) - 1)), (1, .int (((1 : Int32) <<< ((σ.1 38 4) &&& 31)) - 1)), (0, .ref 38)]) d180_26 rfl (by decide) rfl ?_
  obtain ⟨x2, hx2, h⟩ := hl_bind h
  refine hl_R.loc (ls' := [(0, .ref 38), (2, .int ((((1 : Int32) <<< ((σ.1 38 4) &&& 31)) - 1) - 1))]) ⟨rfl, rfl, trivial⟩ ?_
  refine hl_lp_run2 (P := fun (c0 : Int32) (c1 : hl_M) => hl_R X (D + 1) y180 27 [(0, .ref 38), (2, .int c0)] [] c1 none τ) (fun x : hl_M => hl_R X (D + 1) y180 150 [] [] x none τ) (fun c0 c1 o ho h1 h2 => p_Pt_weigh_L27 D (c0, c1) ho h1 (fun a0 e => h2 a0 e)) hl_big ((((1 : Int32) <<< ((σ.1 38 4) &&& 31)) - 1) - 1) (hl_si (hl_si σ 52 (((1 : Int32) <<< ((σ.1 38 4) &&& 31)) - 1).toNatClampNeg 0) 53 (((1 : Int32) <<< ((σ.1 38 4) &&& 31)) - 1).toNatClampNeg 0) x2 hx2 ?_
  have h := Option.some.inj h
  subst h
  exact hl_vret d180_150 rfl
