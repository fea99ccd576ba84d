def f_M_isOwnHere_j60 (s0 : Int32) (σ : hl_M) : Option (Int32 × hl_M) :=
  if s0 = 0 then
  (f_M_isHere 71 σ).bind fun x2 =>
  if x2.1 = 0 then
  (f_M_isHere 72 x2.2).bind fun x3 =>
  if x3.1 = 0 then
  (f_M_isHere 73 x3.2).bind fun x4 =>
  if x4.1 = 0 then
  (f_M_isHere 74 x4.2).bind fun x5 =>
  if x5.1 = 0 then
  some ((0, x5.2)) else
  some ((1, x5.2)) else
  some ((1, x4.2)) else
  some ((1, x3.2)) else
  some ((1, x2.2)) else
  some ((1, σ))
def f_M_isOwnHere (σ : hl_M) : Option (Int32 × hl_M) :=
  (f_M_isHere 66 σ).bind fun x1 =>
  if x1.1 = 0 then
  (f_M_isHere 67 x1.2).bind fun x6 =>
  if x6.1 = 0 then
  (f_M_isHere 68 x6.2).bind fun x7 =>
  if x7.1 = 0 then
  (f_M_isHere 69 x7.2).bind fun x8 =>
  if x8.1 = 0 then
  (f_M_isHere 70 x8.2).bind fun x9 =>
  if x9.1 = 0 then
  f_M_isOwnHere_j60 0 x9.2 else
  f_M_isOwnHere_j60 1 x9.2 else
  f_M_isOwnHere_j60 1 x8.2 else
  f_M_isOwnHere_j60 1 x7.2 else
  f_M_isOwnHere_j60 1 x6.2 else
  f_M_isOwnHere_j60 1 x1.2
set_option maxRecDepth 20000 in
theorem p_M_isOwnHere_j60 {X : hl_X} (D : Nat) (s0 : Int32) (σ : hl_M) {r : Int32} {τ : hl_M} (h : f_M_isOwnHere_j60 s0 σ = some (r, τ)) : hl_R X (D + 2) y77 60 [(0, .ref 64)] [.int s0] σ (some (.int r)) τ := by
  unfold f_M_isOwnHere_j60 at h
  refine hl_istore_n (i := 1) (ls2 := [(1, .int s0), (0, .ref 64)]) d77_60 rfl (by decide) rfl ?_
  refine hl_iload_n (i := 1) d77_61 rfl rfl ?_
  refine hl_if_ne (tg := 109) d77_62 rfl (fun hc => ?_) (fun hc => ?_)
  · have h := hl_neg hc h
    refine hl_iconst d77_109 ki1 ?_
    refine hl_goto (tg := 114) d77_110 rfl ?_
    refine hl_istore_n (i := 1) (ls2 := [(1, .int 1), (0, .ref 64)]) d77_114 rfl (by decide) rfl ?_
    refine hl_iload_n (i := 1) d77_115 rfl rfl ?_
    obtain ⟨e1, e2⟩ := hl_some2 h
    subst e1; subst e2
    exact hl_zret d77_116 rfl (by decide)
  · have h := hl_pos hc h
    refine hl_aload_n (i := 0) d77_65 rfl rfl (by decide) ?_
    refine hl_aload_n (i := 0) d77_66 rfl rfl (by decide) ?_
    refine hl_gr d77_67 gM_33_64 ?_
    obtain ⟨x2, hx2, h⟩ := hl_bind h
    refine hl_cVi (D := (D + 1)) (z := y64) (n := 1) (av := [.ref 71]) (st := []) d77_70 mlM_196 rfl (Nat.le_of_ble_eq_true rfl) (Nat.le_of_ble_eq_true rfl) rc64 ((p_M_isHere D 71 (by decide) σ hx2).dle (by omega)) ?_
    refine hl_if_ne (tg := 109) d77_73 rfl (fun hc => ?_) (fun hc => ?_)
    · have h := hl_neg hc h
      refine hl_iconst d77_109 ki1 ?_
      refine hl_goto (tg := 114) d77_110 rfl ?_
      refine hl_istore_n (i := 1) (ls2 := [(1, .int 1), (0, .ref 64)]) d77_114 rfl (by decide) rfl ?_
      refine hl_iload_n (i := 1) d77_115 rfl rfl ?_
      obtain ⟨e1, e2⟩ := hl_some2 h
      subst e1; subst e2
      exact hl_zret d77_116 rfl (by decide)
    · have h := hl_pos hc h
      refine hl_aload_n (i := 0) d77_76 rfl rfl (by decide) ?_
      refine hl_aload_n (i := 0) d77_77 rfl rfl (by decide) ?_
      refine hl_gr d77_78 gM_36_64 ?_
      obtain ⟨x3, hx3, h⟩ := hl_bind h
      refine hl_cVi (D := (D + 1)) (z := y64) (n := 1) (av := [.ref 72]) (st := []) d77_81 mlM_196 rfl (Nat.le_of_ble_eq_true rfl) (Nat.le_of_ble_eq_true rfl) rc64 ((p_M_isHere D 72 (by decide) x2.2 hx3).dle (by omega)) ?_
      refine hl_if_ne (tg := 109) d77_84 rfl (fun hc => ?_) (fun hc => ?_)
      · have h := hl_neg hc h
        refine hl_iconst d77_109 ki1 ?_
        refine hl_goto (tg := 114) d77_110 rfl ?_
        refine hl_istore_n (i := 1) (ls2 := [(1, .int 1), (0, .ref 64)]) d77_114 rfl (by decide) rfl ?_
        refine hl_iload_n (i := 1) d77_115 rfl rfl ?_
        obtain ⟨e1, e2⟩ := hl_some2 h
        subst e1; subst e2
        exact hl_zret d77_116 rfl (by decide)
      · have h := hl_pos hc h
        refine hl_aload_n (i := 0) d77_87 rfl rfl (by decide) ?_
        refine hl_aload_n (i := 0) d77_88 rfl rfl (by decide) ?_
        refine hl_gr d77_89 gM_39_64 ?_
        obtain ⟨x4, hx4, h⟩ := hl_bind h
        refine hl_cVi (D := (D + 1)) (z := y64) (n := 1) (av := [.ref 73]) (st := []) d77_92 mlM_196 rfl (Nat.le_of_ble_eq_true rfl) (Nat.le_of_ble_eq_true rfl) rc64 ((p_M_isHere D 73 (by decide) x3.2 hx4).dle (by omega)) ?_
        refine hl_if_ne (tg := 109) d77_95 rfl (fun hc => ?_) (fun hc => ?_)
        · have h := hl_neg hc h
          refine hl_iconst d77_109 ki1 ?_
          refine hl_goto (tg := 114) d77_110 rfl ?_
          refine hl_istore_n (i := 1) (ls2 := [(1, .int 1), (0, .ref 64)]) d77_114 rfl (by decide) rfl ?_
          refine hl_iload_n (i := 1) d77_115 rfl rfl ?_
          obtain ⟨e1, e2⟩ := hl_some2 h
          subst e1; subst e2
          exact hl_zret d77_116 rfl (by decide)
        · have h := hl_pos hc h
          refine hl_aload_n (i := 0) d77_98 rfl rfl (by decide) ?_
          refine hl_aload_n (i := 0) d77_99 rfl rfl (by decide) ?_
          refine hl_gr d77_100 gM_42_64 ?_
          obtain ⟨x5, hx5, h⟩ := hl_bind h
          refine hl_cVi (D := (D + 1)) (z := y64) (n := 1) (av := [.ref 74]) (st := []) d77_103 mlM_196 rfl (Nat.le_of_ble_eq_true rfl) (Nat.le_of_ble_eq_true rfl) rc64 ((p_M_isHere D 74 (by decide) x4.2 hx5).dle (by omega)) ?_
          refine hl_if_eq (tg := 113) d77_106 rfl (fun hc => ?_) (fun hc => ?_)
          · have h := hl_pos hc h
            refine hl_iconst d77_113 ki0 ?_
            refine hl_istore_n (i := 1) (ls2 := [(1, .int 0), (0, .ref 64)]) d77_114 rfl (by decide) rfl ?_
            refine hl_iload_n (i := 1) d77_115 rfl rfl ?_
            obtain ⟨e1, e2⟩ := hl_some2 h
            subst e1; subst e2
            exact hl_zret d77_116 rfl (by decide)
          · have h := hl_neg hc h
            refine hl_iconst d77_109 ki1 ?_
            refine hl_goto (tg := 114) d77_110 rfl ?_
            refine hl_istore_n (i := 1) (ls2 := [(1, .int 1), (0, .ref 64)]) d77_114 rfl (by decide) rfl ?_
            refine hl_iload_n (i := 1) d77_115 rfl rfl ?_
            obtain ⟨e1, e2⟩ := hl_some2 h
            subst e1; subst e2
            exact hl_zret d77_116 rfl (by decide)
set_option maxRecDepth 20000 in
theorem p_M_isOwnHere {X : hl_X} (D : Nat) (σ : hl_M) {r : Int32} {τ : hl_M} (h : f_M_isOwnHere σ = some (r, τ)) : hl_R X (D + 2) y77 0 [(0, .ref 64)] [] σ (some (.int r)) τ := by
  unfold f_M_isOwnHere at h
  refine hl_aload_n (i := 0) d77_0 rfl rfl (by decide) ?_
  refine hl_aload_n (i := 0) d77_1 rfl rfl (by decide) ?_
  refine hl_gr d77_2 gM_17_64 ?_
  obtain ⟨x1, hx1, h⟩ := hl_bind h
  refine hl_cVi (D := (D + 1)) (z := y64) (n := 1) (av := [.ref 66]) (st := []) d77_5 mlM_196 rfl (Nat.le_of_ble_eq_true rfl) (Nat.le_of_ble_eq_true rfl) rc64 ((p_M_isHere D 66 (by decide) σ hx1).dle (by omega)) ?_
  refine hl_if_ne (tg := 55) d77_8 rfl (fun hc => ?_) (fun hc => ?_)
  · have h := hl_neg hc h
    refine hl_iconst d77_55 ki1 ?_
    refine hl_goto (tg := 60) d77_56 rfl ?_
    exact hl_loc (p_M_isOwnHere_j60 D 1 x1.2 h) ⟨rfl, trivial⟩
  · have h := hl_pos hc h
    refine hl_aload_n (i := 0) d77_11 rfl rfl (by decide) ?_
    refine hl_aload_n (i := 0) d77_12 rfl rfl (by decide) ?_
    refine hl_gr d77_13 gM_21_64 ?_
    obtain ⟨x6, hx6, h⟩ := hl_bind h
    refine hl_cVi (D := (D + 1)) (z := y64) (n := 1) (av := [.ref 67]) (st := []) d77_16 mlM_196 rfl (Nat.le_of_ble_eq_true rfl) (Nat.le_of_ble_eq_true rfl) rc64 ((p_M_isHere D 67 (by decide) x1.2 hx6).dle (by omega)) ?_
    refine hl_if_ne (tg := 55) d77_19 rfl (fun hc => ?_) (fun hc => ?_)
    · have h := hl_neg hc h
      refine hl_iconst d77_55 ki1 ?_
      refine hl_goto (tg := 60) d77_56 rfl ?_
      exact hl_loc (p_M_isOwnHere_j60 D 1 x6.2 h) ⟨rfl, trivial⟩
    · have h := hl_pos hc h
      refine hl_aload_n (i := 0) d77_22 rfl rfl (by decide) ?_
      refine hl_aload_n (i := 0) d77_23 rfl rfl (by decide) ?_
      refine hl_gr d77_24 gM_24_64 ?_
      obtain ⟨x7, hx7, h⟩ := hl_bind h
      refine hl_cVi (D := (D + 1)) (z := y64) (n := 1) (av := [.ref 68]) (st := []) d77_27 mlM_196 rfl (Nat.le_of_ble_eq_true rfl) (Nat.le_of_ble_eq_true rfl) rc64 ((p_M_isHere D 68 (by decide) x6.2 hx7).dle (by omega)) ?_
      refine hl_if_ne (tg := 55) d77_30 rfl (fun hc => ?_) (fun hc => ?_)
      · have h := hl_neg hc h
        refine hl_iconst d77_55 ki1 ?_
        refine hl_goto (tg := 60) d77_56 rfl ?_
        exact hl_loc (p_M_isOwnHere_j60 D 1 x7.2 h) ⟨rfl, trivial⟩
      · have h := hl_pos hc h
        refine hl_aload_n (i := 0) d77_33 rfl rfl (by decide) ?_
        refine hl_aload_n (i := 0) d77_34 rfl rfl (by decide) ?_
        refine hl_gr d77_35 gM_27_64 ?_
        obtain ⟨x8, hx8, h⟩ := hl_bind h
        refine hl_cVi (D := (D + 1)) (z := y64) (n := 1) (av := [.ref 69]) (st := []) d77_38 mlM_196 rfl (Nat.le_of_ble_eq_true rfl) (Nat.le_of_ble_eq_true rfl) rc64 ((p_M_isHere D 69 (by decide) x7.2 hx8).dle (by omega)) ?_
        refine hl_if_ne (tg := 55) d77_41 rfl (fun hc => ?_) (fun hc => ?_)
        · have h := hl_neg hc h
          refine hl_iconst d77_55 ki1 ?_
          refine hl_goto (tg := 60) d77_56 rfl ?_
          exact hl_loc (p_M_isOwnHere_j60 D 1 x8.2 h) ⟨rfl, trivial⟩
        · have h := hl_pos hc h
          refine hl_aload_n (i := 0) d77_44 rfl rfl (by decide) ?_
          refine hl_aload_n (i := 0) d77_45 rfl rfl (by decide) ?_
          refine hl_gr d77_46 gM_30_64 ?_
          obtain ⟨x9, hx9, h⟩ := hl_bind h
          refine hl_cVi (D := (D + 1)) (z := y64) (n := 1) (av := [.ref 70]) (st := []) d77_49 mlM_196 rfl (Nat.le_of_ble_eq_true rfl) (Nat.le_of_ble_eq_true rfl) rc64 ((p_M_isHere D 70 (by decide) x8.2 hx9).dle (by omega)) ?_
          refine hl_if_eq (tg := 59) d77_52 rfl (fun hc => ?_) (fun hc => ?_)
          · have h := hl_pos hc h
            refine hl_iconst d77_59 ki0 ?_
            exact hl_loc (p_M_isOwnHere_j60 D 0 x9.2 h) ⟨rfl, trivial⟩
          · have h := hl_neg hc h
            refine hl_iconst d77_55 ki1 ?_
            refine hl_goto (tg := 60) d77_56 rfl ?_
            exact hl_loc (p_M_isOwnHere_j60 D 1 x9.2 h) ⟨rfl, trivial⟩
def f_M_name_j37 (σ : hl_M) : Option (Int64 × hl_M) :=
  some ((0, f_M_fail 1 (σ.1 64 2) σ))
def f_M_name_L58 (s : Int64 × hl_M) : Option ((Int64 × hl_M) ⊕ ((Int64 × hl_M) ⊕ (hl_M))) :=
  if (s.2.1 64 3) ≤ (s.2.1 64 2) then
  some (.inr (.inl ((s.1, s.2)))) else
  if hl_b (s.2.1 64 2) 1600 then
  if (f_M_isLetter (s.2.1 65 (s.2.1 64 2).toNatClampNeg)) = 0 then
  some (.inr (.inl ((s.1, s.2)))) else
  if ((s.2.1 64 2) - (s.2.1 64 19)) = 6 then
  some (.inr (.inr (s.2))) else
  if hl_b (s.2.1 64 2) 1600 then
  some (.inl (((((27 * s.1) + ((s.2.1 65 (s.2.1 64 2).toNatClampNeg).toInt64)) - 97) + 1, hl_si s.2 64 2 ((s.2.1 64 2) + 1)))) else none else none
def f_M_name (σ : hl_M) : Option (Int64 × hl_M) :=
  if (σ.1 64 5) = 0 then
  (f_M_look σ).bind fun x1 =>
  if (f_M_isLetter x1.1) = 0 then
  f_M_name_j37 x1.2 else
  if (x1.2.1 64 2) = (x1.2.1 64 4) then
  f_M_name_j37 x1.2 else
  (f_M_isOwnHere x1.2).bind fun x2 =>
  if x2.1 = 0 then
  (hl_lp (f_M_name_L58) hl_big ((0, hl_si x2.2 64 19 (x2.2.1 64 2)))).bind fun x3 =>
  Sum.elim (fun x4 =>
  some ((x4.1, hl_si x4.2 64 4 (x4.2.1 64 2)))) (fun x5 =>
  some ((0, f_M_fail 1 (x5.1 64 2) x5))) x3 else
  f_M_name_j37 x2.2 else
  some ((0, σ))
set_option maxRecDepth 20000 in
theorem p_M_name_j37 {X : hl_X} (D : Nat) (σ : hl_M) {r : Int64} {τ : hl_M} (h : f_M_name_j37 σ = some (r, τ)) : hl_R X (D + 3) y76 37 [(0, .ref 64)] [] σ (some (.long r)) τ := by
  unfold f_M_name_j37 at h
  refine hl_aload_n (i := 0) d76_37 rfl rfl (by decide) ?_
  refine hl_iconst d76_38 ki1 ?_
  refine hl_aload_n (i := 0) d76_39 rfl rfl (by decide) ?_
  refine hl_gi d76_40 gM_179_64 ?_
  refine hl_cVv (D := (D + 2)) (z := y67) (n := 2) (av := [.int 1, .int (σ.1 64 2)]) (st := []) d76_43 mlM_203 rfl (Nat.le_of_ble_eq_true rfl) (Nat.le_of_ble_eq_true rfl) rc64 ((p_M_fail D 1 (σ.1 64 2) σ rfl).dle (by omega)) ?_
  refine hl_lconst (x := 0) d76_46 (by decide) ?_
  obtain ⟨e1, e2⟩ := hl_some2 h
  subst e1; subst e2
  exact hl_lret d76_47 rfl
set_option maxRecDepth 20000 in
theorem p_M_name_L58 {X : hl_X} (D : Nat) (s : Int64 × hl_M) {o : (Int64 × hl_M) ⊕ ((Int64 × hl_M) ⊕ (hl_M))} {v : Option Value} {τ : hl_M} (h : f_M_name_L58 s = some o) (k1 : ∀ (c0 : Int64) (c1 : hl_M), o = .inl ((c0, c1)) → hl_R X (D + 3) y76 58 [(0, .ref 64), (1, .long c0)] [] c1 v τ) (k2 : ∀ (a0 : Int64) (a1 : hl_M), o = .inr (.inl (a0, a1)) → hl_R X (D + 3) y76 145 [(0, .ref 64), (1, .long a0)] [] a1 v τ) (k3 : ∀ (a0 : hl_M), o = .inr (.inr (a0)) → hl_R X (D + 3) y76 98 [(0, .ref 64)] [] a0 v τ) : hl_R X (D + 3) y76 58 [(0, .ref 64), (1, .long s.1)] [] s.2 v τ := by
  unfold f_M_name_L58 at h
  refine hl_aload_n (i := 0) d76_58 rfl rfl (by decide) ?_
  refine hl_gi d76_59 gM_179_64 ?_
  refine hl_aload_n (i := 0) d76_62 rfl rfl (by decide) ?_
  refine hl_gi d76_63 gM_182_64 ?_
  refine hl_icmp_ge (tg := 145) d76_66 rfl (fun hc => ?_) (fun hc => ?_)
  · have h := hl_pos hc h
    have h := Option.some.inj h
    subst h
    exact hl_loc (k2 s.1 s.2 rfl) ⟨rfl, rfl, trivial⟩
  · have h := hl_neg hc h
    refine hl_aload_n (i := 0) d76_69 rfl rfl (by decide) ?_
    refine hl_gr d76_70 gM_7_64 ?_
    refine hl_aload_n (i := 0) d76_73 rfl rfl (by decide) ?_
    refine hl_gi d76_74 gM_179_64 ?_
    obtain ⟨hb, h⟩ := hl_gd h
    refine hl_iald d76_77 sh65 (hl_b_in hb) ?_
    refine hl_cSi (D := (D + 2)) (z := y66) (n := 1) (av := [.int (s.2.1 65 (s.2.1 64 2).toNatClampNeg)]) (st := []) d76_78 mlM_189 rfl (Nat.le_of_ble_eq_true rfl) (Nat.le_of_ble_eq_true rfl) ((p_M_isLetter D (s.2.1 65 (s.2.1 64 2).toNatClampNeg) s.2 rfl).dle (by omega)) ?_
    refine hl_if_eq (tg := 145) d76_81 rfl (fun hc => ?_) (fun hc => ?_)
    · have h := hl_pos hc h
      have h := Option.some.inj h
      subst h
      exact hl_loc (k2 s.1 s.2 rfl) ⟨rfl, rfl, trivial⟩
    · have h := hl_neg hc h
      refine hl_aload_n (i := 0) d76_84 rfl rfl (by decide) ?_
      refine hl_gi d76_85 gM_179_64 ?_
      refine hl_aload_n (i := 0) d76_88 rfl rfl (by decide) ?_
      refine hl_gi d76_89 gM_224_64 ?_
      refine hl_isub d76_92 ?_
      refine hl_bipush d76_93 kb6 ?_
      refine hl_icmp_ne (tg := 109) d76_95 rfl (fun hc => ?_) (fun hc => ?_)
      · have h := hl_neg hc h
        refine hl_ldc2 d76_109 wlM_227 ?_
        refine hl_lload_n (i := 1) d76_112 rfl rfl ?_
        refine hl_lmul d76_113 ?_
        refine hl_aload_n (i := 0) d76_114 rfl rfl (by decide) ?_
        refine hl_gr d76_115 gM_7_64 ?_
        refine hl_aload_n (i := 0) d76_118 rfl rfl (by decide) ?_
        refine hl_gi d76_119 gM_179_64 ?_
        obtain ⟨hb, h⟩ := hl_gd h
        refine hl_iald d76_122 sh65 (hl_b_in hb) ?_
        refine hl_i2l d76_123 ?_
        refine hl_ladd d76_124 ?_
        refine hl_ldc2 d76_125 wlM_229 ?_
        refine hl_lsub d76_128 ?_
        refine hl_lconst (x := 1) d76_129 (by decide) ?_
        refine hl_ladd d76_130 ?_
        refine hl_lstore_n (i := 1) (ls2 := [(1, .long ((((27 * s.1) + ((s.2.1 65 (s.2.1 64 2).toNatClampNeg).toInt64)) - 97) + 1)), (0, .ref 64)]) d76_131 rfl (by decide) rfl ?_
        refine hl_aload_n (i := 0) d76_132 rfl rfl (by decide) ?_
        refine hl_dup d76_133 rfl ?_
        refine hl_gi d76_134 gM_179_64 ?_
        refine hl_iconst d76_137 ki1 ?_
        refine hl_iadd d76_138 ?_
        refine hl_pi d76_139 qM_179_64 ?_
        refine hl_goto (tg := 58) d76_142 rfl ?_
        have h := Option.some.inj h
        subst h
        exact hl_loc (k1 ((((27 * s.1) + ((s.2.1 65 (s.2.1 64 2).toNatClampNeg).toInt64)) - 97) + 1) (hl_si s.2 64 2 ((s.2.1 64 2) + 1)) rfl) ⟨rfl, rfl, trivial⟩
      · have h := hl_pos hc h
        have h := Option.some.inj h
        subst h
        exact hl_loc (k3 s.2 rfl) ⟨rfl, trivial⟩
set_option maxRecDepth 20000 in
theorem p_M_name {X : hl_X} (D : Nat) (σ : hl_M) {r : Int64} {τ : hl_M} (h : f_M_name σ = some (r, τ)) : hl_R X (D + 3) y76 0 [(0, .ref 64)] [] σ (some (.long r)) τ := by
  unfold f_M_name at h
  refine hl_aload_n (i := 0) d76_0 rfl rfl (by decide) ?_
  refine hl_gi d76_1 gM_173_64 ?_
  refine hl_if_eq (tg := 9) d76_4 rfl (fun hc => ?_) (fun hc => ?_)
  · have h := hl_pos hc h
    refine hl_aload_n (i := 0) d76_9 rfl rfl (by decide) ?_
    obtain ⟨x1, hx1, h⟩ := hl_bind h
    refine hl_cVi (D := (D + 2)) (z := y65) (n := 0) (av := []) (st := []) d76_10 mlM_185 rfl (Nat.le_of_ble_eq_true rfl) (Nat.le_of_ble_eq_true rfl) rc64 ((p_M_look D σ hx1).dle (by omega)) ?_
    refine hl_cSi (D := (D + 2)) (z := y66) (n := 1) (av := [.int x1.1]) (st := []) d76_13 mlM_189 rfl (Nat.le_of_ble_eq_true rfl) (Nat.le_of_ble_eq_true rfl) ((p_M_isLetter D x1.1 x1.2 rfl).dle (by omega)) ?_
    refine hl_if_eq (tg := 37) d76_16 rfl (fun hc => ?_) (fun hc => ?_)
    · have h := hl_pos hc h
      exact hl_loc (p_M_name_j37 D x1.2 h) ⟨rfl, trivial⟩
    · have h := hl_neg hc h
      refine hl_aload_n (i := 0) d76_19 rfl rfl (by decide) ?_
      refine hl_gi d76_20 gM_179_64 ?_
      refine hl_aload_n (i := 0) d76_23 rfl rfl (by decide) ?_
      refine hl_gi d76_24 gM_193_64 ?_
      refine hl_icmp_eq (tg := 37) d76_27 rfl (fun hc => ?_) (fun hc => ?_)
      · have h := hl_pos hc h
        exact hl_loc (p_M_name_j37 D x1.2 h) ⟨rfl, trivial⟩
      · have h := hl_neg hc h
        refine hl_aload_n (i := 0) d76_30 rfl rfl (by decide) ?_
        obtain ⟨x2, hx2, h⟩ := hl_bind h
        refine hl_cVi (D := (D + 2)) (z := y77) (n := 0) (av := []) (st := []) d76_31 mlM_220 rfl (Nat.le_of_ble_eq_true rfl) (Nat.le_of_ble_eq_true rfl) rc64 ((p_M_isOwnHere D x1.2 hx2).dle (by omega)) ?_
        refine hl_if_eq (tg := 48) d76_34 rfl (fun hc => ?_) (fun hc => ?_)
        · have h := hl_pos hc h
          refine hl_aload_n (i := 0) d76_48 rfl rfl (by decide) ?_
          refine hl_aload_n (i := 0) d76_49 rfl rfl (by decide) ?_
          refine hl_gi d76_50 gM_179_64 ?_
          refine hl_pi d76_53 qM_224_64 ?_
          refine hl_lconst (x := 0) d76_56 (by decide) ?_
          refine hl_lstore_n (i := 1) (ls2 := [(1, .long 0), (0, .ref 64)]) d76_57 rfl (by decide) rfl ?_
          obtain ⟨x3, hx3, h⟩ := hl_bind h
          refine hl_R.loc (ls' := [(0, .ref 64), (1, .long 0)]) ⟨rfl, rfl, trivial⟩ ?_
          refine hl_lp_run2 (P := fun (c0 : Int64) (c1 : hl_M) => hl_R X (D + 3) y76 58 [(0, .ref 64), (1, .long c0)] [] c1 (some (.long r)) τ) (Sum.elim (fun x : Int64 × hl_M => hl_R X (D + 3) y76 145 [(0, .ref 64), (1, .long x.1)] [] x.2 (some (.long r)) τ) (fun x : hl_M => hl_R X (D + 3) y76 98 [(0, .ref 64)] [] x (some (.long r)) τ)) (fun c0 c1 o ho h1 h2 => p_M_name_L58 D (c0, c1) ho h1 (fun a0 a1 e => h2 (.inl (a0, a1)) e) (fun a0 e => h2 (.inr (a0)) e)) hl_big 0 (hl_si x2.2 64 19 (x2.2.1 64 2)) x3 hx3 ?_
          rcases hl_sum h with ⟨x4, e_x4, h⟩ | ⟨x5, e_x5, h⟩
          · subst e_x4
            refine hl_aload_n (i := 0) d76_145 rfl rfl (by decide) ?_
            refine hl_aload_n (i := 0) d76_146 rfl rfl (by decide) ?_
            refine hl_gi d76_147 gM_179_64 ?_
            refine hl_pi d76_150 qM_193_64 ?_
            refine hl_lload_n (i := 1) d76_153 rfl rfl ?_
            obtain ⟨e1, e2⟩ := hl_some2 h
            subst e1; subst e2
            exact hl_lret d76_154 rfl
          · subst e_x5
            refine hl_aload_n (i := 0) d76_98 rfl rfl (by decide) ?_
            refine hl_iconst d76_99 ki1 ?_
            refine hl_aload_n (i := 0) d76_100 rfl rfl (by decide) ?_
            refine hl_gi d76_101 gM_179_64 ?_
            refine hl_cVv (D := (D + 2)) (z := y67) (n := 2) (av := [.int 1, .int (x5.1 64 2)]) (st := []) d76_104 mlM_203 rfl (Nat.le_of_ble_eq_true rfl) (Nat.le_of_ble_eq_true rfl) rc64 ((p_M_fail D 1 (x5.1 64 2) x5 rfl).dle (by omega)) ?_
            refine hl_lconst (x := 0) d76_107 (by decide) ?_
            obtain ⟨e1, e2⟩ := hl_some2 h
            subst e1; subst e2
            exact hl_lret d76_108 rfl
        · have h := hl_neg hc h
          exact hl_loc (p_M_name_j37 D x2.2 h) ⟨rfl, trivial⟩
  · have h := hl_neg hc h
    refine hl_lconst (x := 0) d76_7 (by decide) ?_
    obtain ⟨e1, e2⟩ := hl_some2 h
    subst e1; subst e2
    exact hl_lret d76_8 rfl
def f_M_nameOf_L3 (v1 : Int32) (v2 : Int64) (σ : hl_M) (s : Int32) : Option ((Int32) ⊕ ((Unit) ⊕ (Int32))) :=
  if hl_b v1 6 then
  if (σ.1 75 v1.toNatClampNeg) ≤ s then
  some (.inr (.inl (()))) else
  if hl_b ((10 * v1) + s) 40 then
  if (σ.2 77 ((10 * v1) + s).toNatClampNeg) = v2 then
  some (.inr (.inr (s))) else
  some (.inl (s + 1)) else none else none
def f_M_nameOf (v1 : Int32) (v2 : Int64) (σ : hl_M) : Option (Int32) :=
  (hl_lp (f_M_nameOf_L3 v1 v2 σ) hl_big 0).bind fun x1 =>
  Sum.elim (fun x2 =>
  some ((-1))) (fun x3 =>
  some x3) x1
set_option maxRecDepth 20000 in
theorem p_M_nameOf_L3 {X : hl_X} (D : Nat) (v1 : Int32) (v2 : Int64) (σ : hl_M) (s : Int32) {o : (Int32) ⊕ ((Unit) ⊕ (Int32))} {v : Option Value} (h : f_M_nameOf_L3 v1 v2 σ s = some o) (k1 : ∀ (c0 : Int32), o = .inl c0 → hl_R X D y78 3 [(0, .ref 64), (1, .int v1), (2, .long v2), (4, .int c0)] [] σ v σ) (k2 : o = .inr (.inl ()) → hl_R X D y78 40 [] [] σ v σ) (kr : ∀ (a : Int32), o = .inr (.inr (a)) → v = some (.int a)) : hl_R X D y78 3 [(0, .ref 64), (1, .int v1), (2, .long v2), (4, .int s)] [] σ v σ := by
  unfold f_M_nameOf_L3 at h
  refine hl_iload d78_3 rfl ?_
  refine hl_aload_n (i := 0) d78_5 rfl rfl (by decide) ?_
  refine hl_gr d78_6 gM_45_64 ?_
  refine hl_iload_n (i := 1) d78_9 rfl rfl ?_
  obtain ⟨hb, h⟩ := hl_gd h
  refine hl_iald d78_10 sh75 (hl_b_in hb) ?_
  refine hl_icmp_ge (tg := 40) d78_11 rfl (fun hc => ?_) (fun hc => ?_)
  · have h := hl_pos hc h
    have h := Option.some.inj h
    subst h
    exact hl_loc (k2 rfl) trivial
  · have h := hl_neg hc h
    refine hl_aload_n (i := 0) d78_14 rfl rfl (by decide) ?_
    refine hl_gr d78_15 gM_52_64 ?_
    refine hl_bipush d78_18 kb10 ?_
    refine hl_iload_n (i := 1) d78_20 rfl rfl ?_
    refine hl_imul d78_21 ?_
    refine hl_iload d78_22 rfl ?_
    refine hl_iadd d78_24 ?_
    obtain ⟨hb, h⟩ := hl_gd h
    refine hl_lald d78_25 sh77 (hl_b_in hb) ?_
    refine hl_lload_n (i := 2) d78_26 rfl rfl ?_
    refine hl_lc_ne (tg := 34) d78_27 d78_28 rfl (fun hc => ?_) (fun hc => ?_)
    · have h := hl_neg hc h
      refine hl_iinc (ls2 := [(4, .int (s + 1)), (0, .ref 64), (1, .int v1), (2, .long v2)]) d78_34 rfl kx1 (by decide) rfl ?_
      refine hl_goto (tg := 3) d78_37 rfl ?_
      have h := Option.some.inj h
      subst h
      exact hl_loc (k1 (s + 1) rfl) ⟨rfl, rfl, rfl, rfl, trivial⟩
    · have h := hl_pos hc h
      refine hl_iload d78_31 rfl ?_
      have h := Option.some.inj h
      subst h
      have e1 := kr s rfl
      subst e1
      exact hl_iret d78_33 rfl
set_option maxRecDepth 20000 in
theorem p_M_nameOf {X : hl_X} (D : Nat) (v1 : Int32) (v2 : Int64) (σ : hl_M) {r : Int32} (h : f_M_nameOf v1 v2 σ = some r) : hl_R X D y78 0 [(0, .ref 64), (1, .int v1), (2, .long v2)] [] σ (some (.int r)) σ := by
  unfold f_M_nameOf at h
  refine hl_iconst d78_0 ki0 ?_
  refine hl_istore (ls2 := [(4, .int 0), (0, .ref 64), (1, .int v1), (2, .long v2)]) d78_1 (by decide) rfl ?_
  obtain ⟨x1, hx1, h⟩ := hl_bind h
  refine hl_R.loc (ls' := [(0, .ref 64), (1, .int v1), (2, .long v2), (4, .int 0)]) ⟨rfl, rfl, rfl, rfl, trivial⟩ ?_
  refine hl_lp_run1 (P := fun (c0 : Int32) => hl_R X D y78 3 [(0, .ref 64), (1, .int v1), (2, .long v2), (4, .int c0)] [] σ (some (.int r)) σ) (Sum.elim (fun x : Unit => hl_R X D y78 40 [] [] σ (some (.int r)) σ) (fun a : Int32 => ((some (.int r)) : Option Value) = some (.int a))) (fun c0 o ho h1 h2 => p_M_nameOf_L3 D v1 v2 σ c0 ho h1 (fun e => h2 (.inl ()) e) (fun a e => h2 (.inr (a)) e)) hl_big 0 x1 hx1 ?_
  rcases hl_sum h with ⟨x2, e_x2, h⟩ | ⟨x3, e_x3, h⟩
  · subst e_x2
    refine hl_iconst d78_40 kim1 ?_
    have h := Option.some.inj h
    subst h
    exact hl_iret d78_41 rfl
  · subst e_x3
    cases h
    rfl
def f_M_hymnTold_j47 (v4 : Int32) (σ : hl_M) : Option (hl_M) :=
  (f_M_asks 74 σ).bind fun x4 =>
  (f_M_number 0 99 x4).bind fun x5 =>
  if (x5.2.1 64 5) = 0 then
  if hl_b (2 : Int32) 6 then
  if hl_b (2 * (x5.2.1 75 (2 : Int32).toNatClampNeg)) 40 then
  if hl_b (2 : Int32) 6 then
  if hl_b ((2 * ((hl_si x5.2 80 (2 * (x5.2.1 75 (2 : Int32).toNatClampNeg)).toNatClampNeg v4).1 75 (2 : Int32).toNatClampNeg)) + 1) 40 then
  if hl_b (2 : Int32) 6 then
  if hl_b (2 : Int32) 6 then
  some (hl_si (hl_si (hl_si x5.2 80 (2 * (x5.2.1 75 (2 : Int32).toNatClampNeg)).toNatClampNeg v4) 80 ((2 * ((hl_si x5.2 80 (2 * (x5.2.1 75 (2 : Int32).toNatClampNeg)).toNatClampNeg v4).1 75 (2 : Int32).toNatClampNeg)) + 1).toNatClampNeg x5.1) 75 (2 : Int32).toNatClampNeg (((hl_si (hl_si x5.2 80 (2 * (x5.2.1 75 (2 : Int32).toNatClampNeg)).toNatClampNeg v4) 80 ((2 * ((hl_si x5.2 80 (2 * (x5.2.1 75 (2 : Int32).toNatClampNeg)).toNatClampNeg v4).1 75 (2 : Int32).toNatClampNeg)) + 1).toNatClampNeg x5.1).1 75 (2 : Int32).toNatClampNeg) + 1)) else none else none else none else none else none else none else
  some x5.2
def f_M_hymnTold (v1 : Int32) (σ : hl_M) : Option (hl_M) :=
  (f_M_isFull 2 10 v1 σ).bind fun x1 =>
  if x1.1 = 0 then
  (f_M_name x1.2).bind fun x2 =>
  (f_M_nameOf 1 x2.1 x2.2).bind fun x3 =>
  if (x2.2.1 64 5) = 0 then
  if x3 = ((-1)) then
  f_M_hymnTold_j47 x3 (f_M_fail 3 (x2.2.1 64 19) x2.2) else
  f_M_hymnTold_j47 x3 x2.2 else
  f_M_hymnTold_j47 x3 x2.2 else
  some x1.2
set_option maxRecDepth 20000 in
theorem p_M_hymnTold_j47 {X : hl_X} (D : Nat) (v4 : Int32) (σ : hl_M) {τ : hl_M} (h : f_M_hymnTold_j47 v4 σ = some τ) : hl_R X (D + 4) y74 47 [(0, .ref 64), (4, .int v4)] [] σ none τ := by
  unfold f_M_hymnTold_j47 at h
  refine hl_aload_n (i := 0) d74_47 rfl rfl (by decide) ?_
  refine hl_aload_n (i := 0) d74_48 rfl rfl (by decide) ?_
  refine hl_gr d74_49 gM_42_64 ?_
  obtain ⟨x4, hx4, h⟩ := hl_bind h
  refine hl_cVv (D := (D + 3)) (z := y62) (n := 1) (av := [.ref 74]) (st := []) d74_52 mlM_260 rfl (Nat.le_of_ble_eq_true rfl) (Nat.le_of_ble_eq_true rfl) rc64 ((p_M_asks D 74 (by decide) σ hx4).dle (by omega)) ?_
  refine hl_aload_n (i := 0) d74_55 rfl rfl (by decide) ?_
  refine hl_iconst d74_56 ki0 ?_
  refine hl_bipush d74_57 kb99 ?_
  obtain ⟨x5, hx5, h⟩ := hl_bind h
  refine hl_cVi (D := (D + 3)) (z := y68) (n := 2) (av := [.int 0, .int 99]) (st := []) d74_59 mlM_242 rfl (Nat.le_of_ble_eq_true rfl) (Nat.le_of_ble_eq_true rfl) rc64 ((p_M_number D 0 99 x4 hx5).dle (by omega)) ?_
  refine hl_istore (ls2 := [(5, .int x5.1), (0, .ref 64), (4, .int v4)]) d74_62 (by decide) rfl ?_
  refine hl_aload_n (i := 0) d74_64 rfl rfl (by decide) ?_
  refine hl_gi d74_65 gM_173_64 ?_
  refine hl_if_eq (tg := 72) d74_68 rfl (fun hc => ?_) (fun hc => ?_)
  · have h := hl_pos hc h
    refine hl_aload_n (i := 0) d74_72 rfl rfl (by decide) ?_
    refine hl_gr d74_73 gM_62_64 ?_
    refine hl_iconst d74_76 ki2 ?_
    refine hl_aload_n (i := 0) d74_77 rfl rfl (by decide) ?_
    refine hl_gr d74_78 gM_45_64 ?_
    refine hl_iconst d74_81 ki2 ?_
    obtain ⟨hb, h⟩ := hl_gd h
    refine hl_iald d74_82 sh75 (hl_b_in hb) ?_
    refine hl_imul d74_83 ?_
    refine hl_iload d74_84 rfl ?_
    obtain ⟨hb, h⟩ := hl_gd h
    refine hl_iast (q := 80) d74_86 sh80 (hl_b_in hb) ?_
    refine hl_aload_n (i := 0) d74_87 rfl rfl (by decide) ?_
    refine hl_gr d74_88 gM_62_64 ?_
    refine hl_iconst d74_91 ki2 ?_
    refine hl_aload_n (i := 0) d74_92 rfl rfl (by decide) ?_
    refine hl_gr d74_93 gM_45_64 ?_
    refine hl_iconst d74_96 ki2 ?_
    obtain ⟨hb, h⟩ := hl_gd h
    refine hl_iald d74_97 sh75 (hl_b_in hb) ?_
    refine hl_imul d74_98 ?_
    refine hl_iconst d74_99 ki1 ?_
    refine hl_iadd d74_100 ?_
    refine hl_iload d74_101 rfl ?_
    obtain ⟨hb, h⟩ := hl_gd h
    refine hl_iast (q := 80) d74_103 sh80 (hl_b_in hb) ?_
    refine hl_aload_n (i := 0) d74_104 rfl rfl (by decide) ?_
    refine hl_gr d74_105 gM_45_64 ?_
    refine hl_iconst d74_108 ki2 ?_
    refine hl_dup2 d74_109 rfl rfl ?_
    obtain ⟨hb, h⟩ := hl_gd h
    refine hl_iald d74_110 sh75 (hl_b_in hb) ?_
    refine hl_iconst d74_111 ki1 ?_
    refine hl_iadd d74_112 ?_
    obtain ⟨hb, h⟩ := hl_gd h
    refine hl_iast (q := 75) d74_113 sh75 (hl_b_in hb) ?_
    have h := Option.some.inj h
    subst h
    exact hl_vret d74_114 rfl
  · have h := hl_neg hc h
    have h := Option.some.inj h
    subst h
    exact hl_vret d74_71 rfl
set_option maxRecDepth 20000 in
theorem p_M_hymnTold {X : hl_X} (D : Nat) (v1 : Int32) (σ : hl_M) {τ : hl_M} (h : f_M_hymnTold v1 σ = some τ) : hl_R X (D + 4) y74 0 [(0, .ref 64), (1, .int v1)] [] σ none τ := by
  unfold f_M_hymnTold at h
  refine hl_aload_n (i := 0) d74_0 rfl rfl (by decide) ?_
  refine hl_iconst d74_1 ki2 ?_
  refine hl_bipush d74_2 kb10 ?_
  refine hl_iload_n (i := 1) d74_4 rfl rfl ?_
  obtain ⟨x1, hx1, h⟩ := hl_bind h
  refine hl_cVi (D := (D + 3)) (z := y75) (n := 3) (av := [.int 2, .int 10, .int v1]) (st := []) d74_5 mlM_253 rfl (Nat.le_of_ble_eq_true rfl) (Nat.le_of_ble_eq_true rfl) rc64 ((p_M_isFull D 2 10 v1 σ hx1).dle (by omega)) ?_
  refine hl_if_eq (tg := 12) d74_8 rfl (fun hc => ?_) (fun hc => ?_)
  · have h := hl_pos hc h
    refine hl_aload_n (i := 0) d74_12 rfl rfl (by decide) ?_
    obtain ⟨x2, hx2, h⟩ := hl_bind h
    refine hl_cVl (D := (D + 3)) (z := y76) (n := 0) (av := []) (st := []) d74_13 mlM_231 rfl (Nat.le_of_ble_eq_true rfl) (Nat.le_of_ble_eq_true rfl) rc64 ((p_M_name D x1.2 hx2).dle (by omega)) ?_
    refine hl_lstore_n (i := 2) (ls2 := [(2, .long x2.1), (0, .ref 64), (1, .int v1)]) d74_16 rfl (by decide) rfl ?_
    refine hl_aload_n (i := 0) d74_17 rfl rfl (by decide) ?_
    refine hl_iconst d74_18 ki1 ?_
    refine hl_lload_n (i := 2) d74_19 rfl rfl ?_
    obtain ⟨x3, hx3, h⟩ := hl_bind h
    refine hl_cVi (D := (D + 3)) (z := y78) (n := 2) (av := [.int 1, .long x2.1]) (st := []) d74_20 mlM_235 rfl (Nat.le_of_ble_eq_true rfl) (Nat.le_of_ble_eq_true rfl) rc64 ((p_M_nameOf D 1 x2.1 x2.2 hx3).dle (by omega)) ?_
    refine hl_istore (ls2 := [(4, .int x3), (2, .long x2.1), (0, .ref 64), (1, .int v1)]) d74_23 (by decide) rfl ?_
    refine hl_aload_n (i := 0) d74_25 rfl rfl (by decide) ?_
    refine hl_gi d74_26 gM_173_64 ?_
    refine hl_if_ne (tg := 47) d74_29 rfl (fun hc => ?_) (fun hc => ?_)
    · have h := hl_neg hc h
      exact hl_loc (p_M_hymnTold_j47 D x3 x2.2 h) ⟨rfl, rfl, trivial⟩
    · have h := hl_pos hc h
      refine hl_iload d74_32 rfl ?_
      refine hl_iconst d74_34 kim1 ?_
      refine hl_icmp_ne (tg := 47) d74_35 rfl (fun hc => ?_) (fun hc => ?_)
      · have h := hl_neg hc h
        exact hl_loc (p_M_hymnTold_j47 D x3 x2.2 h) ⟨rfl, rfl, trivial⟩
      · have h := hl_pos hc h
        refine hl_aload_n (i := 0) d74_38 rfl rfl (by decide) ?_
        refine hl_iconst d74_39 ki3 ?_
        refine hl_aload_n (i := 0) d74_40 rfl rfl (by decide) ?_
        refine hl_gi d74_41 gM_224_64 ?_
        refine hl_cVv (D := (D + 3)) (z := y67) (n := 2) (av := [.int 3, .int (x2.2.1 64 19)]) (st := []) d74_44 mlM_203 rfl (Nat.le_of_ble_eq_true rfl) (Nat.le_of_ble_eq_true rfl) rc64 ((p_M_fail D 3 (x2.2.1 64 19) x2.2 rfl).dle (by omega)) ?_
        exact hl_loc (p_M_hymnTold_j47 D x3 (f_M_fail 3 (x2.2.1 64 19) x2.2) h) ⟨rfl, rfl, trivial⟩
  · have h := hl_neg hc h
    have h := Option.some.inj h
    subst h
    exact hl_vret d74_11 rfl
def f_M_newName_j32 (v1 : Int64) (σ : hl_M) : Option (Int64 × hl_M) :=
  some ((v1, f_M_fail 3 (σ.1 64 19) σ))
def f_M_newName (σ : hl_M) : Option (Int64 × hl_M) :=
  (f_M_name σ).bind fun x1 =>
  if (x1.2.1 64 5) = 0 then
  (f_M_nameOf 0 x1.1 x1.2).bind fun x2 =>
  if x2 = ((-1)) then
  (f_M_nameOf 1 x1.1 x1.2).bind fun x3 =>
  if x3 = ((-1)) then
  some ((x1.1, x1.2)) else
  f_M_newName_j32 x1.1 x1.2 else
  f_M_newName_j32 x1.1 x1.2 else
  some ((x1.1, x1.2))
set_option maxRecDepth 20000 in
theorem p_M_newName_j32 {X : hl_X} (D : Nat) (v1 : Int64) (σ : hl_M) {r : Int64} {τ : hl_M} (h : f_M_newName_j32 v1 σ = some (r, τ)) : hl_R X (D + 4) y80 32 [(0, .ref 64), (1, .long v1)] [] σ (some (.long r)) τ := by
  unfold f_M_newName_j32 at h
  refine hl_aload_n (i := 0) d80_32 rfl rfl (by decide) ?_
  refine hl_iconst d80_33 ki3 ?_
  refine hl_aload_n (i := 0) d80_34 rfl rfl (by decide) ?_
  refine hl_gi d80_35 gM_224_64 ?_
  refine hl_cVv (D := (D + 3)) (z := y67) (n := 2) (av := [.int 3, .int (σ.1 64 19)]) (st := []) d80_38 mlM_203 rfl (Nat.le_of_ble_eq_true rfl) (Nat.le_of_ble_eq_true rfl) rc64 ((p_M_fail D 3 (σ.1 64 19) σ rfl).dle (by omega)) ?_
  refine hl_lload_n (i := 1) d80_41 rfl rfl ?_
  obtain ⟨e1, e2⟩ := hl_some2 h
  subst e1; subst e2
  exact hl_lret d80_42 rfl
set_option maxRecDepth 20000 in
theorem p_M_newName {X : hl_X} (D : Nat) (σ : hl_M) {r : Int64} {τ : hl_M} (h : f_M_newName σ = some (r, τ)) : hl_R X (D + 4) y80 0 [(0, .ref 64)] [] σ (some (.long r)) τ := by
  unfold f_M_newName at h
  refine hl_aload_n (i := 0) d80_0 rfl rfl (by decide) ?_
  obtain ⟨x1, hx1, h⟩ := hl_bind h
  refine hl_cVl (D := (D + 3)) (z := y76) (n := 0) (av := []) (st := []) d80_1 mlM_231 rfl (Nat.le_of_ble_eq_true rfl) (Nat.le_of_ble_eq_true rfl) rc64 ((p_M_name D σ hx1).dle (by omega)) ?_
  refine hl_lstore_n (i := 1) (ls2 := [(1, .long x1.1), (0, .ref 64)]) d80_4 rfl (by decide) rfl ?_
  refine hl_aload_n (i := 0) d80_5 rfl rfl (by decide) ?_
  refine hl_gi d80_6 gM_173_64 ?_
  refine hl_if_ne (tg := 41) d80_9 rfl (fun hc => ?_) (fun hc => ?_)
  · have h := hl_neg hc h
    refine hl_lload_n (i := 1) d80_41 rfl rfl ?_
    obtain ⟨e1, e2⟩ := hl_some2 h
    subst e1; subst e2
    exact hl_lret d80_42 rfl
  · have h := hl_pos hc h
    refine hl_aload_n (i := 0) d80_12 rfl rfl (by decide) ?_
    refine hl_iconst d80_13 ki0 ?_
    refine hl_lload_n (i := 1) d80_14 rfl rfl ?_
    obtain ⟨x2, hx2, h⟩ := hl_bind h
    refine hl_cVi (D := (D + 3)) (z := y78) (n := 2) (av := [.int 0, .long x1.1]) (st := []) d80_15 mlM_235 rfl (Nat.le_of_ble_eq_true rfl) (Nat.le_of_ble_eq_true rfl) rc64 ((p_M_nameOf D 0 x1.1 x1.2 hx2).dle (by omega)) ?_
    refine hl_iconst d80_18 kim1 ?_
    refine hl_icmp_ne (tg := 32) d80_19 rfl (fun hc => ?_) (fun hc => ?_)
    · have h := hl_neg hc h
      exact hl_loc (p_M_newName_j32 D x1.1 x1.2 h) ⟨rfl, rfl, trivial⟩
    · have h := hl_pos hc h
      refine hl_aload_n (i := 0) d80_22 rfl rfl (by decide) ?_
      refine hl_iconst d80_23 ki1 ?_
      refine hl_lload_n (i := 1) d80_24 rfl rfl ?_
      obtain ⟨x3, hx3, h⟩ := hl_bind h
      refine hl_cVi (D := (D + 3)) (z := y78) (n := 2) (av := [.int 1, .long x1.1]) (st := []) d80_25 mlM_235 rfl (Nat.le_of_ble_eq_true rfl) (Nat.le_of_ble_eq_true rfl) rc64 ((p_M_nameOf D 1 x1.1 x1.2 hx3).dle (by omega)) ?_
      refine hl_iconst d80_28 kim1 ?_
      refine hl_icmp_eq (tg := 41) d80_29 rfl (fun hc => ?_) (fun hc => ?_)
      · have h := hl_pos hc h
        refine hl_lload_n (i := 1) d80_41 rfl rfl ?_
        obtain ⟨e1, e2⟩ := hl_some2 h
        subst e1; subst e2
        exact hl_lret d80_42 rfl
      · have h := hl_neg hc h
        exact hl_loc (p_M_newName_j32 D x1.1 x1.2 h) ⟨rfl, rfl, trivial⟩
def f_M_cellTold (σ : hl_M) : Option (Int32 × hl_M) :=
  (f_M_number 0 ((σ.1 64 20) - 1) σ).bind fun x1 =>
  (f_M_number 0 ((x1.2.1 64 21) - 1) x1.2).bind fun x2 =>
  if (x2.2.1 64 5) = 0 then
  some ((((x2.2.1 64 20) * x2.1) + x1.1, x2.2)) else
  some ((0, x2.2))
set_option maxRecDepth 20000 in
theorem p_M_cellTold {X : hl_X} (D : Nat) (σ : hl_M) {r : Int32} {τ : hl_M} (h : f_M_cellTold σ = some (r, τ)) : hl_R X (D + 2) y82 0 [(0, .ref 64)] [] σ (some (.int r)) τ := by
  unfold f_M_cellTold at h
  refine hl_aload_n (i := 0) d82_0 rfl rfl (by decide) ?_
  refine hl_iconst d82_1 ki0 ?_
  refine hl_aload_n (i := 0) d82_2 rfl rfl (by decide) ?_
  refine hl_gi d82_3 gM_239_64 ?_
  refine hl_iconst d82_6 ki1 ?_
  refine hl_isub d82_7 ?_
  obtain ⟨x1, hx1, h⟩ := hl_bind h
  refine hl_cVi (D := (D + 1)) (z := y68) (n := 2) (av := [.int 0, .int ((σ.1 64 20) - 1)]) (st := []) d82_8 mlM_242 rfl (Nat.le_of_ble_eq_true rfl) (Nat.le_of_ble_eq_true rfl) rc64 ((p_M_number D 0 ((σ.1 64 20) - 1) σ hx1).dle (by omega)) ?_
  refine hl_istore_n (i := 1) (ls2 := [(1, .int x1.1), (0, .ref 64)]) d82_11 rfl (by decide) rfl ?_
  refine hl_aload_n (i := 0) d82_12 rfl rfl (by decide) ?_
  refine hl_iconst d82_13 ki0 ?_
  refine hl_aload_n (i := 0) d82_14 rfl rfl (by decide) ?_
  refine hl_gi d82_15 gM_246_64 ?_
  refine hl_iconst d82_18 ki1 ?_
  refine hl_isub d82_19 ?_
  obtain ⟨x2, hx2, h⟩ := hl_bind h
  refine hl_cVi (D := (D + 1)) (z := y68) (n := 2) (av := [.int 0, .int ((x1.2.1 64 21) - 1)]) (st := []) d82_20 mlM_242 rfl (Nat.le_of_ble_eq_true rfl) (Nat.le_of_ble_eq_true rfl) rc64 ((p_M_number D 0 ((x1.2.1 64 21) - 1) x1.2 hx2).dle (by omega)) ?_
  refine hl_istore_n (i := 2) (ls2 := [(2, .int x2.1), (1, .int x1.1), (0, .ref 64)]) d82_23 rfl (by decide) rfl ?_
  refine hl_aload_n (i := 0) d82_24 rfl rfl (by decide) ?_
  refine hl_gi d82_25 gM_173_64 ?_
  refine hl_if_ne (tg := 42) d82_28 rfl (fun hc => ?_) (fun hc => ?_)
  · have h := hl_neg hc h
    refine hl_iconst d82_42 ki0 ?_
    obtain ⟨e1, e2⟩ := hl_some2 h
    subst e1; subst e2
    exact hl_iret d82_43 rfl
  · have h := hl_pos hc h
    refine hl_aload_n (i := 0) d82_31 rfl rfl (by decide) ?_
    refine hl_gi d82_32 gM_239_64 ?_
    refine hl_iload_n (i := 2) d82_35 rfl rfl ?_
    refine hl_imul d82_36 ?_
    refine hl_iload_n (i := 1) d82_37 rfl rfl ?_
    refine hl_iadd d82_38 ?_
    refine hl_goto (tg := 43) d82_39 rfl ?_
    obtain ⟨e1, e2⟩ := hl_some2 h
    subst e1; subst e2
    exact hl_iret d82_43 rfl
def f_M_litTold_j43 (v1 : Int32) (v2 : Int32) (σ : hl_M) : Option (hl_M) :=
  (f_M_asks 70 σ).bind fun x3 =>
  (f_M_number 1 2 x3).bind fun x4 =>
  if (x4.2.1 64 5) = 0 then
  if hl_b ((54 * v1) + v2) 864 then
  some (hl_si x4.2 79 ((54 * v1) + v2).toNatClampNeg x4.1) else none else
  some x4.2
def f_M_litTold (v1 : Int32) (σ : hl_M) : Option (hl_M) :=
  (f_M_asks 69 σ).bind fun x1 =>
  (f_M_cellTold x1).bind fun x2 =>
  if (x2.2.1 64 5) = 0 then
  if hl_b ((54 * v1) + x2.1) 864 then
  if (x2.2.1 79 ((54 * v1) + x2.1).toNatClampNeg) ≤ 0 then
  f_M_litTold_j43 v1 x2.1 x2.2 else
  f_M_litTold_j43 v1 x2.1 (f_M_fail 2 (x2.2.1 64 9) x2.2) else none else
  f_M_litTold_j43 v1 x2.1 x2.2
set_option maxRecDepth 20000 in
theorem p_M_litTold_j43 {X : hl_X} (D : Nat) (v1 : Int32) (v2 : Int32) (σ : hl_M) {τ : hl_M} (h : f_M_litTold_j43 v1 v2 σ = some τ) : hl_R X (D + 4) y81 43 [(0, .ref 64), (1, .int v1), (2, .int v2)] [] σ none τ := by
  unfold f_M_litTold_j43 at h
  refine hl_aload_n (i := 0) d81_43 rfl rfl (by decide) ?_
  refine hl_aload_n (i := 0) d81_44 rfl rfl (by decide) ?_
  refine hl_gr d81_45 gM_30_64 ?_
  obtain ⟨x3, hx3, h⟩ := hl_bind h
  refine hl_cVv (D := (D + 3)) (z := y62) (n := 1) (av := [.ref 70]) (st := []) d81_48 mlM_260 rfl (Nat.le_of_ble_eq_true rfl) (Nat.le_of_ble_eq_true rfl) rc64 ((p_M_asks D 70 (by decide) σ hx3).dle (by omega)) ?_
  refine hl_aload_n (i := 0) d81_51 rfl rfl (by decide) ?_
  refine hl_iconst d81_52 ki1 ?_
  refine hl_iconst d81_53 ki2 ?_
  obtain ⟨x4, hx4, h⟩ := hl_bind h
  refine hl_cVi (D := (D + 3)) (z := y68) (n := 2) (av := [.int 1, .int 2]) (st := []) d81_54 mlM_242 rfl (Nat.le_of_ble_eq_true rfl) (Nat.le_of_ble_eq_true rfl) rc64 ((p_M_number D 1 2 x3 hx4).dle (by omega)) ?_
  refine hl_istore_n (i := 3) (ls2 := [(3, .int x4.1), (0, .ref 64), (1, .int v1), (2, .int v2)]) d81_57 rfl (by decide) rfl ?_
  refine hl_aload_n (i := 0) d81_58 rfl rfl (by decide) ?_
  refine hl_gi d81_59 gM_173_64 ?_
  refine hl_if_ne (tg := 77) d81_62 rfl (fun hc => ?_) (fun hc => ?_)
  · have h := hl_neg hc h
    have h := Option.some.inj h
    subst h
    exact hl_vret d81_77 rfl
  · have h := hl_pos hc h
    refine hl_aload_n (i := 0) d81_65 rfl rfl (by decide) ?_
    refine hl_gr d81_66 gM_59_64 ?_
    refine hl_bipush d81_69 kb54 ?_
    refine hl_iload_n (i := 1) d81_71 rfl rfl ?_
    refine hl_imul d81_72 ?_
    refine hl_iload_n (i := 2) d81_73 rfl rfl ?_
    refine hl_iadd d81_74 ?_
    refine hl_iload_n (i := 3) d81_75 rfl rfl ?_
    obtain ⟨hb, h⟩ := hl_gd h
    refine hl_iast (q := 79) d81_76 sh79 (hl_b_in hb) ?_
    have h := Option.some.inj h
    subst h
    exact hl_vret d81_77 rfl
set_option maxRecDepth 20000 in
theorem p_M_litTold {X : hl_X} (D : Nat) (v1 : Int32) (σ : hl_M) {τ : hl_M} (h : f_M_litTold v1 σ = some τ) : hl_R X (D + 4) y81 0 [(0, .ref 64), (1, .int v1)] [] σ none τ := by
  unfold f_M_litTold at h
  refine hl_aload_n (i := 0) d81_0 rfl rfl (by decide) ?_
  refine hl_aload_n (i := 0) d81_1 rfl rfl (by decide) ?_
  refine hl_gr d81_2 gM_27_64 ?_
  obtain ⟨x1, hx1, h⟩ := hl_bind h
  refine hl_cVv (D := (D + 3)) (z := y62) (n := 1) (av := [.ref 69]) (st := []) d81_5 mlM_260 rfl (Nat.le_of_ble_eq_true rfl) (Nat.le_of_ble_eq_true rfl) rc64 ((p_M_asks D 69 (by decide) σ hx1).dle (by omega)) ?_
  refine hl_aload_n (i := 0) d81_8 rfl rfl (by decide) ?_
  obtain ⟨x2, hx2, h⟩ := hl_bind h
  refine hl_cVi (D := (D + 3)) (z := y82) (n := 0) (av := []) (st := []) d81_9 mlM_264 rfl (Nat.le_of_ble_eq_true rfl) (Nat.le_of_ble_eq_true rfl) rc64 ((p_M_cellTold D x1 hx2).dle (by omega)) ?_
  refine hl_istore_n (i := 2) (ls2 := [(2, .int x2.1), (0, .ref 64), (1, .int v1)]) d81_12 rfl (by decide) rfl ?_
  refine hl_aload_n (i := 0) d81_13 rfl rfl (by decide) ?_
  refine hl_gi d81_14 gM_173_64 ?_
  refine hl_if_ne (tg := 43) d81_17 rfl (fun hc => ?_) (fun hc => ?_)
  · have h := hl_neg hc h
    exact hl_loc (p_M_litTold_j43 D v1 x2.1 x2.2 h) ⟨rfl, rfl, rfl, trivial⟩
  · have h := hl_pos hc h
    refine hl_aload_n (i := 0) d81_20 rfl rfl (by decide) ?_
    refine hl_gr d81_21 gM_59_64 ?_
    refine hl_bipush d81_24 kb54 ?_
    refine hl_iload_n (i := 1) d81_26 rfl rfl ?_
    refine hl_imul d81_27 ?_
    refine hl_iload_n (i := 2) d81_28 rfl rfl ?_
    refine hl_iadd d81_29 ?_
    obtain ⟨hb, h⟩ := hl_gd h
    refine hl_iald d81_30 sh79 (hl_b_in hb) ?_
    refine hl_if_le (tg := 43) d81_31 rfl (fun hc => ?_) (fun hc => ?_)
    · have h := hl_pos hc h
      exact hl_loc (p_M_litTold_j43 D v1 x2.1 x2.2 h) ⟨rfl, rfl, rfl, trivial⟩
    · have h := hl_neg hc h
      refine hl_aload_n (i := 0) d81_34 rfl rfl (by decide) ?_
      refine hl_iconst d81_35 ki2 ?_
      refine hl_aload_n (i := 0) d81_36 rfl rfl (by decide) ?_
      refine hl_gi d81_37 gM_213_64 ?_
      refine hl_cVv (D := (D + 3)) (z := y67) (n := 2) (av := [.int 2, .int (x2.2.1 64 9)]) (st := []) d81_40 mlM_203 rfl (Nat.le_of_ble_eq_true rfl) (Nat.le_of_ble_eq_true rfl) rc64 ((p_M_fail D 2 (x2.2.1 64 9) x2.2 rfl).dle (by omega)) ?_
      exact hl_loc (p_M_litTold_j43 D v1 x2.1 (f_M_fail 2 (x2.2.1 64 9) x2.2) h) ⟨rfl, rfl, rfl, trivial⟩
def f_M_wordTold_L27 (v2 : Int32) (v3 : Int64) (s : Int32 × hl_M) : Option ((Int32 × hl_M) ⊕ (hl_M)) :=
  if 54 ≤ s.1 then
  some (.inr s.2) else
  if hl_b ((54 * v2) + s.1) 864 then
  some (.inl ((s.1 + 1, hl_si s.2 79 ((54 * v2) + s.1).toNatClampNeg 0))) else none
def f_M_wordTold_L56 (v2 : Int32) (v3 : Int64) (s : Int32 × hl_M) : Option ((Int32 × hl_M) ⊕ (hl_M)) :=
  (f_M_litTold v2 s.2).bind fun x4 =>
  if (x4.1 64 5) = 0 then
  if 8 ≤ (s.1 + 1) then
  some (.inr x4) else
  (f_M_look x4).bind fun x5 =>
  if x5.1 = 59 then
  some (.inr x5.2) else
  some (.inl ((s.1 + 1, x5.2))) else
  some (.inr x4)
def f_M_wordTold (v1 : Int32) (σ : hl_M) : Option (hl_M) :=
  (f_M_isFull 1 8 v1 σ).bind fun x1 =>
  if x1.1 = 0 then
  if hl_b (1 : Int32) 6 then
  (f_M_newName x1.2).bind fun x2 =>
  (hl_lp (f_M_wordTold_L27 (x1.2.1 75 (1 : Int32).toNatClampNeg) x2.1) hl_big ((0, x2.2))).bind fun x3 =>
  (hl_lp (f_M_wordTold_L56 (x1.2.1 75 (1 : Int32).toNatClampNeg) x2.1) hl_big ((0, x3))).bind fun x6 =>
  if (x6.1 64 5) = 0 then
  if hl_b (10 + (x1.2.1 75 (1 : Int32).toNatClampNeg)) 40 then
  if hl_b (1 : Int32) 6 then
  if hl_b (1 : Int32) 6 then
  some (hl_si (hl_sl x6 77 (10 + (x1.2.1 75 (1 : Int32).toNatClampNeg)).toNatClampNeg x2.1) 75 (1 : Int32).toNatClampNeg (((hl_sl x6 77 (10 + (x1.2.1 75 (1 : Int32).toNatClampNeg)).toNatClampNeg x2.1).1 75 (1 : Int32).toNatClampNeg) + 1)) else none else none else none else
  some x6 else none else
  some x1.2
set_option maxRecDepth 20000 in
theorem p_M_wordTold_L27 {X : hl_X} (D : Nat) (v2 : Int32) (v3 : Int64) (s : Int32 × hl_M) {o : (Int32 × hl_M) ⊕ (hl_M)} {v : Option Value} {τ : hl_M} (h : f_M_wordTold_L27 v2 v3 s = some o) (k1 : ∀ (c0 : Int32) (c1 : hl_M), o = .inl ((c0, c1)) → hl_R X (D + 5) y79 27 [(0, .ref 64), (2, .int v2), (3, .long v3), (5, .int c0)] [] c1 v τ) (k2 : ∀ (a0 : hl_M), o = .inr a0 → hl_R X (D + 5) y79 53 [(0, .ref 64), (2, .int v2), (3, .long v3)] [] a0 v τ) : hl_R X (D + 5) y79 27 [(0, .ref 64), (2, .int v2), (3, .long v3), (5, .int s.1)] [] s.2 v τ := by
  unfold f_M_wordTold_L27 at h
  refine hl_iload d79_27 rfl ?_
  refine hl_bipush d79_29 kb54 ?_
  refine hl_icmp_ge (tg := 53) d79_31 rfl (fun hc => ?_) (fun hc => ?_)
  · have h := hl_pos hc h
    have h := Option.some.inj h
    subst h
    exact hl_loc (k2 s.2 rfl) ⟨rfl, rfl, rfl, trivial⟩
  · have h := hl_neg hc h
    refine hl_aload_n (i := 0) d79_34 rfl rfl (by decide) ?_
    refine hl_gr d79_35 gM_59_64 ?_
    refine hl_bipush d79_38 kb54 ?_
    refine hl_iload_n (i := 2) d79_40 rfl rfl ?_
    refine hl_imul d79_41 ?_
    refine hl_iload d79_42 rfl ?_
    refine hl_iadd d79_44 ?_
    refine hl_iconst d79_45 ki0 ?_
    obtain ⟨hb, h⟩ := hl_gd h
    refine hl_iast (q := 79) d79_46 sh79 (hl_b_in hb) ?_
    refine hl_iinc (ls2 := [(5, .int (s.1 + 1)), (0, .ref 64), (2, .int v2), (3, .long v3)]) d79_47 rfl kx1 (by decide) rfl ?_
    refine hl_goto (tg := 27) d79_50 rfl ?_
    have h := Option.some.inj h
    subst h
    exact hl_loc (k1 (s.1 + 1) (hl_si s.2 79 ((54 * v2) + s.1).toNatClampNeg 0) rfl) ⟨rfl, rfl, rfl, rfl, trivial⟩
set_option maxRecDepth 20000 in
theorem p_M_wordTold_L56 {X : hl_X} (D : Nat) (v2 : Int32) (v3 : Int64) (s : Int32 × hl_M) {o : (Int32 × hl_M) ⊕ (hl_M)} {v : Option Value} {τ : hl_M} (h : f_M_wordTold_L56 v2 v3 s = some o) (k1 : ∀ (c0 : Int32) (c1 : hl_M), o = .inl ((c0, c1)) → hl_R X (D + 5) y79 56 [(0, .ref 64), (2, .int v2), (3, .long v3), (5, .int c0)] [] c1 v τ) (k2 : ∀ (a0 : hl_M), o = .inr a0 → hl_R X (D + 5) y79 87 [(0, .ref 64), (2, .int v2), (3, .long v3)] [] a0 v τ) : hl_R X (D + 5) y79 56 [(0, .ref 64), (2, .int v2), (3, .long v3), (5, .int s.1)] [] s.2 v τ := by
  unfold f_M_wordTold_L56 at h
  refine hl_aload_n (i := 0) d79_56 rfl rfl (by decide) ?_
  refine hl_iload_n (i := 2) d79_57 rfl rfl ?_
  obtain ⟨x4, hx4, h⟩ := hl_bind h
  refine hl_cVv (D := (D + 4)) (z := y81) (n := 1) (av := [.int v2]) (st := []) d79_58 mlM_276 rfl (Nat.le_of_ble_eq_true rfl) (Nat.le_of_ble_eq_true rfl) rc64 ((p_M_litTold D v2 s.2 hx4).dle (by omega)) ?_
  refine hl_iinc (ls2 := [(5, .int (s.1 + 1)), (0, .ref 64), (2, .int v2), (3, .long v3)]) d79_61 rfl kx1 (by decide) rfl ?_
  refine hl_aload_n (i := 0) d79_64 rfl rfl (by decide) ?_
  refine hl_gi d79_65 gM_173_64 ?_
  refine hl_if_ne (tg := 87) d79_68 rfl (fun hc => ?_) (fun hc => ?_)
  · have h := hl_neg hc h
    have h := Option.some.inj h
    subst h
    exact hl_loc (k2 x4 rfl) ⟨rfl, rfl, rfl, trivial⟩
  · have h := hl_pos hc h
    refine hl_iload d79_71 rfl ?_
    refine hl_bipush d79_73 kb8 ?_
    refine hl_icmp_ge (tg := 87) d79_75 rfl (fun hc => ?_) (fun hc => ?_)
    · have h := hl_pos hc h
      have h := Option.some.inj h
      subst h
      exact hl_loc (k2 x4 rfl) ⟨rfl, rfl, rfl, trivial⟩
    · have h := hl_neg hc h
      refine hl_aload_n (i := 0) d79_78 rfl rfl (by decide) ?_
      obtain ⟨x5, hx5, h⟩ := hl_bind h
      refine hl_cVi (D := (D + 4)) (z := y65) (n := 0) (av := []) (st := []) d79_79 mlM_185 rfl (Nat.le_of_ble_eq_true rfl) (Nat.le_of_ble_eq_true rfl) rc64 ((p_M_look D x4 hx5).dle (by omega)) ?_
      refine hl_bipush d79_82 kb59 ?_
      refine hl_icmp_ne (tg := 56) d79_84 rfl (fun hc => ?_) (fun hc => ?_)
      · have h := hl_neg hc h
        have h := Option.some.inj h
        subst h
        exact hl_loc (k1 (s.1 + 1) x5.2 rfl) ⟨rfl, rfl, rfl, rfl, trivial⟩
      · have h := hl_pos hc h
        have h := Option.some.inj h
        subst h
        exact hl_loc (k2 x5.2 rfl) ⟨rfl, rfl, rfl, trivial⟩
set_option maxRecDepth 20000 in
theorem p_M_wordTold {X : hl_X} (D : Nat) (v1 : Int32) (σ : hl_M) {τ : hl_M} (h : f_M_wordTold v1 σ = some τ) : hl_R X (D + 5) y79 0 [(0, .ref 64), (1, .int v1)] [] σ none τ := by
  unfold f_M_wordTold at h
  refine hl_aload_n (i := 0) d79_0 rfl rfl (by decide) ?_
  refine hl_iconst d79_1 ki1 ?_
  refine hl_bipush d79_2 kb8 ?_
  refine hl_iload_n (i := 1) d79_4 rfl rfl ?_
  obtain ⟨x1, hx1, h⟩ := hl_bind h
  refine hl_cVi (D := (D + 4)) (z := y75) (n := 3) (av := [.int 1, .int 8, .int v1]) (st := []) d79_5 mlM_253 rfl (Nat.le_of_ble_eq_true rfl) (Nat.le_of_ble_eq_true rfl) rc64 ((p_M_isFull D 1 8 v1 σ hx1).dle (by omega)) ?_
  refine hl_if_eq (tg := 12) d79_8 rfl (fun hc => ?_) (fun hc => ?_)
  · have h := hl_pos hc h
    refine hl_aload_n (i := 0) d79_12 rfl rfl (by decide) ?_
    refine hl_gr d79_13 gM_45_64 ?_
    refine hl_iconst d79_16 ki1 ?_
    obtain ⟨hb, h⟩ := hl_gd h
    refine hl_iald d79_17 sh75 (hl_b_in hb) ?_
    refine hl_istore_n (i := 2) (ls2 := [(2, .int (x1.2.1 75 (1 : Int32).toNatClampNeg)), (0, .ref 64), (1, .int v1)]) d79_18 rfl (by decide) rfl ?_
    refine hl_aload_n (i := 0) d79_19 rfl rfl (by decide) ?_
    obtain ⟨x2, hx2, h⟩ := hl_bind h
    refine hl_cVl (D := (D + 4)) (z := y80) (n := 0) (av := []) (st := []) d79_20 mlM_257 rfl (Nat.le_of_ble_eq_true rfl) (Nat.le_of_ble_eq_true rfl) rc64 ((p_M_newName D x1.2 hx2).dle (by omega)) ?_
    refine hl_lstore_n (i := 3) (ls2 := [(3, .long x2.1), (2, .int (x1.2.1 75 (1 : Int32).toNatClampNeg)), (0, .ref 64), (1, .int v1)]) d79_23 rfl (by decide) rfl ?_
    refine hl_iconst d79_24 ki0 ?_
    refine hl_istore (ls2 := [(5, .int 0), (3, .long x2.1), (2, .int (x1.2.1 75 (1 : Int32).toNatClampNeg)), (0, .ref 64), (1, .int v1)]) d79_25 (by decide) rfl ?_
    obtain ⟨x3, hx3, h⟩ := hl_bind h
    refine hl_R.loc (ls' := [(0, .ref 64), (2, .int (x1.2.1 75 (1 : Int32).toNatClampNeg)), (3, .long x2.1), (5, .int 0)]) ⟨rfl, rfl, rfl, rfl, trivial⟩ ?_
    refine hl_lp_run2 (P := fun (c0 : Int32) (c1 : hl_M) => hl_R X (D + 5) y79 27 [(0, .ref 64), (2, .int (x1.2.1 75 (1 : Int32).toNatClampNeg)), (3, .long x2.1), (5, .int c0)] [] c1 none τ) (fun x : hl_M => hl_R X (D + 5) y79 53 [(0, .ref 64), (2, .int (x1.2.1 75 (1 : Int32).toNatClampNeg)), (3, .long x2.1)] [] x none τ) (fun c0 c1 o ho h1 h2 => p_M_wordTold_L27 D (x1.2.1 75 (1 : Int32).toNatClampNeg) x2.1 (c0, c1) ho h1 (fun a0 e => h2 a0 e)) hl_big 0 x2.2 x3 hx3 ?_
    refine hl_iconst d79_53 ki0 ?_
    refine hl_istore (ls2 := [(5, .int 0), (0, .ref 64), (2, .int (x1.2.1 75 (1 : Int32).toNatClampNeg)), (3, .long x2.1)]) d79_54 (by decide) rfl ?_
    obtain ⟨x6, hx6, h⟩ := hl_bind h
    refine hl_R.loc (ls' := [(0, .ref 64), (2, .int (x1.2.1 75 (1 : Int32).toNatClampNeg)), (3, .long x2.1), (5, .int 0)]) ⟨rfl, rfl, rfl, rfl, trivial⟩ ?_
    refine hl_lp_run2 (P := fun (c0 : Int32) (c1 : hl_M) => hl_R X (D + 5) y79 56 [(0, .ref 64), (2, .int (x1.2.1 75 (1 : Int32).toNatClampNeg)), (3, .long x2.1), (5, .int c0)] [] c1 none τ) (fun x : hl_M => hl_R X (D + 5) y79 87 [(0, .ref 64), (2, .int (x1.2.1 75 (1 : Int32).toNatClampNeg)), (3, .long x2.1)] [] x none τ) (fun c0 c1 o ho h1 h2 => p_M_wordTold_L56 D (x1.2.1 75 (1 : Int32).toNatClampNeg) x2.1 (c0, c1) ho h1 (fun a0 e => h2 a0 e)) hl_big 0 x3 x6 hx6 ?_
    refine hl_aload_n (i := 0) d79_87 rfl rfl (by decide) ?_
    refine hl_gi d79_88 gM_173_64 ?_
    refine hl_if_eq (tg := 95) d79_91 rfl (fun hc => ?_) (fun hc => ?_)
    · have h := hl_pos hc h
      refine hl_aload_n (i := 0) d79_95 rfl rfl (by decide) ?_
      refine hl_gr d79_96 gM_52_64 ?_
      refine hl_bipush d79_99 kb10 ?_
      refine hl_iload_n (i := 2) d79_101 rfl rfl ?_
      refine hl_iadd d79_102 ?_
      refine hl_lload_n (i := 3) d79_103 rfl rfl ?_
      obtain ⟨hb, h⟩ := hl_gd h
      refine hl_last (q := 77) d79_104 sh77 (hl_b_in hb) ?_
      refine hl_aload_n (i := 0) d79_105 rfl rfl (by decide) ?_
      refine hl_gr d79_106 gM_45_64 ?_
      refine hl_iconst d79_109 ki1 ?_
      refine hl_dup2 d79_110 rfl rfl ?_
      obtain ⟨hb, h⟩ := hl_gd h
      refine hl_iald d79_111 sh75 (hl_b_in hb) ?_
      refine hl_iconst d79_112 ki1 ?_
      refine hl_iadd d79_113 ?_
      obtain ⟨hb, h⟩ := hl_gd h
      refine hl_iast (q := 75) d79_114 sh75 (hl_b_in hb) ?_
      have h := Option.some.inj h
      subst h
      exact hl_vret d79_115 rfl
    · have h := hl_neg hc h
      have h := Option.some.inj h
      subst h
      exact hl_vret d79_94 rfl
  · have h := hl_neg hc h
    have h := Option.some.inj h
    subst h
    exact hl_vret d79_11 rfl
def f_M_stepOf (v0 : Int32) : Int32 :=
  if v0 = 110 then
  0 else
  if v0 = 101 then
  1 else
  if v0 = 115 then
  2 else
  if v0 = 119 then
  3 else
  if v0 = 120 then
  4 else
  (-1)
set_option maxRecDepth 20000 in
theorem p_M_stepOf {X : hl_X} (D : Nat) (v0 : Int32) (σ : hl_M) {r : Int32} (h : f_M_stepOf v0 = r) : hl_R X D y85 0 [(0, .int v0)] [] σ (some (.int r)) σ := by
  unfold f_M_stepOf at h
  refine hl_iload_n (i := 0) d85_0 rfl rfl ?_
  refine hl_bipush d85_1 kb110 ?_
  refine hl_icmp_ne (tg := 10) d85_3 rfl (fun hc => ?_) (fun hc => ?_)
  · have h := hl_neg hc h
    refine hl_iload_n (i := 0) d85_10 rfl rfl ?_
    refine hl_bipush d85_11 kb101 ?_
    refine hl_icmp_ne (tg := 20) d85_13 rfl (fun hc => ?_) (fun hc => ?_)
    · have h := hl_neg hc h
      refine hl_iload_n (i := 0) d85_20 rfl rfl ?_
      refine hl_bipush d85_21 kb115 ?_
      refine hl_icmp_ne (tg := 30) d85_23 rfl (fun hc => ?_) (fun hc => ?_)
      · have h := hl_neg hc h
        refine hl_iload_n (i := 0) d85_30 rfl rfl ?_
        refine hl_bipush d85_31 kb119 ?_
        refine hl_icmp_ne (tg := 40) d85_33 rfl (fun hc => ?_) (fun hc => ?_)
        · have h := hl_neg hc h
          refine hl_iload_n (i := 0) d85_40 rfl rfl ?_
          refine hl_bipush d85_41 kb120 ?_
          refine hl_icmp_ne (tg := 50) d85_43 rfl (fun hc => ?_) (fun hc => ?_)
          · have h := hl_neg hc h
            refine hl_iconst d85_50 kim1 ?_
            subst h
            exact hl_iret d85_51 rfl
          · have h := hl_pos hc h
            refine hl_iconst d85_46 ki4 ?_
            refine hl_goto (tg := 51) d85_47 rfl ?_
            subst h
            exact hl_iret d85_51 rfl
        · have h := hl_pos hc h
          refine hl_iconst d85_36 ki3 ?_
          refine hl_goto (tg := 51) d85_37 rfl ?_
          subst h
          exact hl_iret d85_51 rfl
      · have h := hl_pos hc h
        refine hl_iconst d85_26 ki2 ?_
        refine hl_goto (tg := 51) d85_27 rfl ?_
        subst h
        exact hl_iret d85_51 rfl
    · have h := hl_pos hc h
      refine hl_iconst d85_16 ki1 ?_
      refine hl_goto (tg := 51) d85_17 rfl ?_
      subst h
      exact hl_iret d85_51 rfl
  · have h := hl_pos hc h
    refine hl_iconst d85_6 ki0 ?_
    refine hl_goto (tg := 51) d85_7 rfl ?_
    subst h
    exact hl_iret d85_51 rfl
def f_M_stepsTold_j30 (σ : hl_M) : Option (Int32 × hl_M) :=
  some ((0, f_M_fail 1 (σ.1 64 2) σ))
def f_M_stepsTold_L48 (v1 : Int32) (v2 : Int32) (s : Int32 × hl_M) : Option ((Int32 × hl_M) ⊕ ((Int32 × hl_M) ⊕ (hl_M))) :=
  if (s.2.1 64 3) ≤ (s.2.1 64 2) then
  some (.inr (.inl ((s.1, s.2)))) else
  if hl_b (s.2.1 64 2) 1600 then
  if (f_M_isLetter (s.2.1 65 (s.2.1 64 2).toNatClampNeg)) = 0 then
  some (.inr (.inl ((s.1, s.2)))) else
  if s.1 = 12 then
  some (.inr (.inr (s.2))) else
  if hl_b (s.2.1 64 2) 1600 then
  if (f_M_stepOf (s.2.1 65 (s.2.1 64 2).toNatClampNeg)) = ((-1)) then
  some (.inr (.inr (s.2))) else
  if hl_b (s.2.1 64 2) 1600 then
  if hl_b (v1 + s.1) 300 then
  some (.inl ((s.1 + 1, hl_si (hl_si s.2 78 (v1 + s.1).toNatClampNeg (f_M_stepOf (s.2.1 65 (s.2.1 64 2).toNatClampNeg))) 64 2 (((hl_si s.2 78 (v1 + s.1).toNatClampNeg (f_M_stepOf (s.2.1 65 (s.2.1 64 2).toNatClampNeg))).1 64 2) + 1)))) else none else none else none else none
def f_M_stepsTold (v1 : Int32) (σ : hl_M) : Option (Int32 × hl_M) :=
  if (σ.1 64 5) = 0 then
  (f_M_look σ).bind fun x1 =>
  if (f_M_isLetter x1.1) = 0 then
  f_M_stepsTold_j30 x1.2 else
  if (x1.2.1 64 2) = (x1.2.1 64 4) then
  f_M_stepsTold_j30 x1.2 else
  (hl_lp (f_M_stepsTold_L48 v1 (x1.2.1 64 2)) hl_big ((0, x1.2))).bind fun x2 =>
  Sum.elim (fun x3 =>
  some ((x3.1, hl_si x3.2 64 4 (x3.2.1 64 2)))) (fun x4 =>
  some ((0, f_M_fail 1 (x1.2.1 64 2) x4))) x2 else
  some ((0, σ))
set_option maxRecDepth 20000 in
theorem p_M_stepsTold_j30 {X : hl_X} (D : Nat) (σ : hl_M) {r : Int32} {τ : hl_M} (h : f_M_stepsTold_j30 σ = some (r, τ)) : hl_R X (D + 1) y84 30 [(0, .ref 64)] [] σ (some (.int r)) τ := by
  unfold f_M_stepsTold_j30 at h
  refine hl_aload_n (i := 0) d84_30 rfl rfl (by decide) ?_
  refine hl_iconst d84_31 ki1 ?_
  refine hl_aload_n (i := 0) d84_32 rfl rfl (by decide) ?_
  refine hl_gi d84_33 gM_179_64 ?_
  refine hl_cVv (D := D) (z := y67) (n := 2) (av := [.int 1, .int (σ.1 64 2)]) (st := []) d84_36 mlM_203 rfl (Nat.le_of_ble_eq_true rfl) (Nat.le_of_ble_eq_true rfl) rc64 ((p_M_fail D 1 (σ.1 64 2) σ rfl).dle (by omega)) ?_
  refine hl_iconst d84_39 ki0 ?_
  obtain ⟨e1, e2⟩ := hl_some2 h
  subst e1; subst e2
  exact hl_iret d84_40 rfl
set_option maxRecDepth 20000 in
theorem p_M_stepsTold_L48 {X : hl_X} (D : Nat) (v1 : Int32) (v2 : Int32) (s : Int32 × hl_M) {o : (Int32 × hl_M) ⊕ ((Int32 × hl_M) ⊕ (hl_M))} {v : Option Value} {τ : hl_M} (h : f_M_stepsTold_L48 v1 v2 s = some o) (k1 : ∀ (c0 : Int32) (c1 : hl_M), o = .inl ((c0, c1)) → hl_R X (D + 1) y84 48 [(0, .ref 64), (1, .int v1), (2, .int v2), (3, .int c0)] [] c1 v τ) (k2 : ∀ (a0 : Int32) (a1 : hl_M), o = .inr (.inl (a0, a1)) → hl_R X (D + 1) y84 140 [(0, .ref 64), (3, .int a0)] [] a1 v τ) (k3 : ∀ (a0 : hl_M), o = .inr (.inr (a0)) → hl_R X (D + 1) y84 96 [(0, .ref 64), (2, .int v2)] [] a0 v τ) : hl_R X (D + 1) y84 48 [(0, .ref 64), (1, .int v1), (2, .int v2), (3, .int s.1)] [] s.2 v τ := by
  unfold f_M_stepsTold_L48 at h
  refine hl_aload_n (i := 0) d84_48 rfl rfl (by decide) ?_
  refine hl_gi d84_49 gM_179_64 ?_
  refine hl_aload_n (i := 0) d84_52 rfl rfl (by decide) ?_
  refine hl_gi d84_53 gM_182_64 ?_
  refine hl_icmp_ge (tg := 140) d84_56 rfl (fun hc => ?_) (fun hc => ?_)
  · have h := hl_pos hc h
    have h := Option.some.inj h
    subst h
    exact hl_loc (k2 s.1 s.2 rfl) ⟨rfl, rfl, trivial⟩
  · have h := hl_neg hc h
    refine hl_aload_n (i := 0) d84_59 rfl rfl (by decide) ?_
    refine hl_gr d84_60 gM_7_64 ?_
    refine hl_aload_n (i := 0) d84_63 rfl rfl (by decide) ?_
    refine hl_gi d84_64 gM_179_64 ?_
    obtain ⟨hb, h⟩ := hl_gd h
    refine hl_iald d84_67 sh65 (hl_b_in hb) ?_
    refine hl_cSi (D := D) (z := y66) (n := 1) (av := [.int (s.2.1 65 (s.2.1 64 2).toNatClampNeg)]) (st := []) d84_68 mlM_189 rfl (Nat.le_of_ble_eq_true rfl) (Nat.le_of_ble_eq_true rfl) ((p_M_isLetter D (s.2.1 65 (s.2.1 64 2).toNatClampNeg) s.2 rfl).dle (by omega)) ?_
    refine hl_if_eq (tg := 140) d84_71 rfl (fun hc => ?_) (fun hc => ?_)
    · have h := hl_pos hc h
      have h := Option.some.inj h
      subst h
      exact hl_loc (k2 s.1 s.2 rfl) ⟨rfl, rfl, trivial⟩
    · have h := hl_neg hc h
      refine hl_iload_n (i := 3) d84_74 rfl rfl ?_
      refine hl_bipush d84_75 kb12 ?_
      refine hl_icmp_eq (tg := 96) d84_77 rfl (fun hc => ?_) (fun hc => ?_)
      · have h := hl_pos hc h
        have h := Option.some.inj h
        subst h
        exact hl_loc (k3 s.2 rfl) ⟨rfl, rfl, trivial⟩
      · have h := hl_neg hc h
        refine hl_aload_n (i := 0) d84_80 rfl rfl (by decide) ?_
        refine hl_gr d84_81 gM_7_64 ?_
        refine hl_aload_n (i := 0) d84_84 rfl rfl (by decide) ?_
        refine hl_gi d84_85 gM_179_64 ?_
        obtain ⟨hb, h⟩ := hl_gd h
        refine hl_iald d84_88 sh65 (hl_b_in hb) ?_
        refine hl_cSi (D := D) (z := y85) (n := 1) (av := [.int (s.2.1 65 (s.2.1 64 2).toNatClampNeg)]) (st := []) d84_89 mlM_249 rfl (Nat.le_of_ble_eq_true rfl) (Nat.le_of_ble_eq_true rfl) ((p_M_stepOf D (s.2.1 65 (s.2.1 64 2).toNatClampNeg) s.2 rfl).dle (by omega)) ?_
        refine hl_iconst d84_92 kim1 ?_
        refine hl_icmp_ne (tg := 104) d84_93 rfl (fun hc => ?_) (fun hc => ?_)
        · have h := hl_neg hc h
          refine hl_aload_n (i := 0) d84_104 rfl rfl (by decide) ?_
          refine hl_gr d84_105 gM_56_64 ?_
          refine hl_iload_n (i := 1) d84_108 rfl rfl ?_
          refine hl_iload_n (i := 3) d84_109 rfl rfl ?_
          refine hl_iadd d84_110 ?_
          refine hl_aload_n (i := 0) d84_111 rfl rfl (by decide) ?_
          refine hl_gr d84_112 gM_7_64 ?_
          refine hl_aload_n (i := 0) d84_115 rfl rfl (by decide) ?_
          refine hl_gi d84_116 gM_179_64 ?_
          obtain ⟨hb, h⟩ := hl_gd h
          refine hl_iald d84_119 sh65 (hl_b_in hb) ?_
          refine hl_cSi (D := D) (z := y85) (n := 1) (av := [.int (s.2.1 65 (s.2.1 64 2).toNatClampNeg)]) (st := [.int (v1 + s.1), .ref 78]) d84_120 mlM_249 rfl (Nat.le_of_ble_eq_true rfl) (Nat.le_of_ble_eq_true rfl) ((p_M_stepOf D (s.2.1 65 (s.2.1 64 2).toNatClampNeg) s.2 rfl).dle (by omega)) ?_
          obtain ⟨hb, h⟩ := hl_gd h
          refine hl_iast (q := 78) d84_123 sh78 (hl_b_in hb) ?_
          refine hl_iinc (ls2 := [(3, .int (s.1 + 1)), (0, .ref 64), (1, .int v1), (2, .int v2)]) d84_124 rfl kx1 (by decide) rfl ?_
          refine hl_aload_n (i := 0) d84_127 rfl rfl (by decide) ?_
          refine hl_dup d84_128 rfl ?_
          refine hl_gi d84_129 gM_179_64 ?_
          refine hl_iconst d84_132 ki1 ?_
          refine hl_iadd d84_133 ?_
          refine hl_pi d84_134 qM_179_64 ?_
          refine hl_goto (tg := 48) d84_137 rfl ?_
          have h := Option.some.inj h
          subst h
          exact hl_loc (k1 (s.1 + 1) (hl_si (hl_si s.2 78 (v1 + s.1).toNatClampNeg (f_M_stepOf (s.2.1 65 (s.2.1 64 2).toNatClampNeg))) 64 2 (((hl_si s.2 78 (v1 + s.1).toNatClampNeg (f_M_stepOf (s.2.1 65 (s.2.1 64 2).toNatClampNeg))).1 64 2) + 1)) rfl) ⟨rfl, rfl, rfl, rfl, trivial⟩
        · have h := hl_pos hc h
          have h := Option.some.inj h
          subst h
          exact hl_loc (k3 s.2 rfl) ⟨rfl, rfl, trivial⟩
set_option maxRecDepth 20000 in
theorem p_M_stepsTold {X : hl_X} (D : Nat) (v1 : Int32) (σ : hl_M) {r : Int32} {τ : hl_M} (h : f_M_stepsTold v1 σ = some (r, τ)) : hl_R X (D + 1) y84 0 [(0, .ref 64), (1, .int v1)] [] σ (some (.int r)) τ := by
  unfold f_M_stepsTold at h
  refine hl_aload_n (i := 0) d84_0 rfl rfl (by decide) ?_
  refine hl_gi d84_1 gM_173_64 ?_
  refine hl_if_eq (tg := 9) d84_4 rfl (fun hc => ?_) (fun hc => ?_)
  · have h := hl_pos hc h
    refine hl_aload_n (i := 0) d84_9 rfl rfl (by decide) ?_
    obtain ⟨x1, hx1, h⟩ := hl_bind h
    refine hl_cVi (D := D) (z := y65) (n := 0) (av := []) (st := []) d84_10 mlM_185 rfl (Nat.le_of_ble_eq_true rfl) (Nat.le_of_ble_eq_true rfl) rc64 ((p_M_look D σ hx1).dle (by omega)) ?_
    refine hl_cSi (D := D) (z := y66) (n := 1) (av := [.int x1.1]) (st := []) d84_13 mlM_189 rfl (Nat.le_of_ble_eq_true rfl) (Nat.le_of_ble_eq_true rfl) ((p_M_isLetter D x1.1 x1.2 rfl).dle (by omega)) ?_
    refine hl_if_eq (tg := 30) d84_16 rfl (fun hc => ?_) (fun hc => ?_)
    · have h := hl_pos hc h
      exact hl_loc (p_M_stepsTold_j30 D x1.2 h) ⟨rfl, trivial⟩
    · have h := hl_neg hc h
      refine hl_aload_n (i := 0) d84_19 rfl rfl (by decide) ?_
      refine hl_gi d84_20 gM_179_64 ?_
      refine hl_aload_n (i := 0) d84_23 rfl rfl (by decide) ?_
      refine hl_gi d84_24 gM_193_64 ?_
      refine hl_icmp_ne (tg := 41) d84_27 rfl (fun hc => ?_) (fun hc => ?_)
      · have h := hl_neg hc h
        refine hl_aload_n (i := 0) d84_41 rfl rfl (by decide) ?_
        refine hl_gi d84_42 gM_179_64 ?_
        refine hl_istore_n (i := 2) (ls2 := [(2, .int (x1.2.1 64 2)), (0, .ref 64), (1, .int v1)]) d84_45 rfl (by decide) rfl ?_
        refine hl_iconst d84_46 ki0 ?_
        refine hl_istore_n (i := 3) (ls2 := [(3, .int 0), (2, .int (x1.2.1 64 2)), (0, .ref 64), (1, .int v1)]) d84_47 rfl (by decide) rfl ?_
        obtain ⟨x2, hx2, h⟩ := hl_bind h
        refine hl_R.loc (ls' := [(0, .ref 64), (1, .int v1), (2, .int (x1.2.1 64 2)), (3, .int 0)]) ⟨rfl, rfl, rfl, rfl, trivial⟩ ?_
        refine hl_lp_run2 (P := fun (c0 : Int32) (c1 : hl_M) => hl_R X (D + 1) y84 48 [(0, .ref 64), (1, .int v1), (2, .int (x1.2.1 64 2)), (3, .int c0)] [] c1 (some (.int r)) τ) (Sum.elim (fun x : Int32 × hl_M => hl_R X (D + 1) y84 140 [(0, .ref 64), (3, .int x.1)] [] x.2 (some (.int r)) τ) (fun x : hl_M => hl_R X (D + 1) y84 96 [(0, .ref 64), (2, .int (x1.2.1 64 2))] [] x (some (.int r)) τ)) (fun c0 c1 o ho h1 h2 => p_M_stepsTold_L48 D v1 (x1.2.1 64 2) (c0, c1) ho h1 (fun a0 a1 e => h2 (.inl (a0, a1)) e) (fun a0 e => h2 (.inr (a0)) e)) hl_big 0 x1.2 x2 hx2 ?_
        rcases hl_sum h with ⟨x3, e_x3, h⟩ | ⟨x4, e_x4, h⟩
        · subst e_x3
          refine hl_aload_n (i := 0) d84_140 rfl rfl (by decide) ?_
          refine hl_aload_n (i := 0) d84_141 rfl rfl (by decide) ?_
          refine hl_gi d84_142 gM_179_64 ?_
          refine hl_pi d84_145 qM_193_64 ?_
          refine hl_iload_n (i := 3) d84_148 rfl rfl ?_
          obtain ⟨e1, e2⟩ := hl_some2 h
          subst e1; subst e2
          exact hl_iret d84_149 rfl
        · subst e_x4
          refine hl_aload_n (i := 0) d84_96 rfl rfl (by decide) ?_
          refine hl_iconst d84_97 ki1 ?_
          refine hl_iload_n (i := 2) d84_98 rfl rfl ?_
          refine hl_cVv (D := D) (z := y67) (n := 2) (av := [.int 1, .int (x1.2.1 64 2)]) (st := []) d84_99 mlM_203 rfl (Nat.le_of_ble_eq_true rfl) (Nat.le_of_ble_eq_true rfl) rc64 ((p_M_fail D 1 (x1.2.1 64 2) x4 rfl).dle (by omega)) ?_
          refine hl_iconst d84_102 ki0 ?_
          obtain ⟨e1, e2⟩ := hl_some2 h
          subst e1; subst e2
          exact hl_iret d84_103 rfl
      · have h := hl_pos hc h
        exact hl_loc (p_M_stepsTold_j30 D x1.2 h) ⟨rfl, trivial⟩
  · have h := hl_neg hc h
    refine hl_iconst d84_7 ki0 ?_
    obtain ⟨e1, e2⟩ := hl_some2 h
    subst e1; subst e2
    exact hl_iret d84_8 rfl
def f_M_isSomebody_L2 (v1 : Int32) (σ : hl_M) (s : Int32) : Option ((Int32) ⊕ ((Unit) ⊕ (Int32))) :=
  if hl_b (0 : Int32) 6 then
  if (σ.1 75 (0 : Int32).toNatClampNeg) ≤ s then
  some (.inr (.inl (()))) else
  if hl_b (15 * s) 300 then
  if (σ.1 78 (15 * s).toNatClampNeg) = v1 then
  some (.inr (.inr (1))) else
  some (.inl (s + 1)) else none else none
def f_M_isSomebody (v1 : Int32) (σ : hl_M) : Option (Int32) :=
  (hl_lp (f_M_isSomebody_L2 v1 σ) hl_big 0).bind fun x1 =>
  Sum.elim (fun x2 =>
  some 0) (fun x3 =>
  some x3) x1
set_option maxRecDepth 20000 in
theorem p_M_isSomebody_L2 {X : hl_X} (D : Nat) (v1 : Int32) (σ : hl_M) (s : Int32) {o : (Int32) ⊕ ((Unit) ⊕ (Int32))} {v : Option Value} (h : f_M_isSomebody_L2 v1 σ s = some o) (k1 : ∀ (c0 : Int32), o = .inl c0 → hl_R X D y86 2 [(0, .ref 64), (1, .int v1), (2, .int c0)] [] σ v σ) (k2 : o = .inr (.inl ()) → hl_R X D y86 33 [] [] σ v σ) (kr : ∀ (a : Int32), o = .inr (.inr (a)) → v = some (.int a)) : hl_R X D y86 2 [(0, .ref 64), (1, .int v1), (2, .int s)] [] σ v σ := by
  unfold f_M_isSomebody_L2 at h
  refine hl_iload_n (i := 2) d86_2 rfl rfl ?_
  refine hl_aload_n (i := 0) d86_3 rfl rfl (by decide) ?_
  refine hl_gr d86_4 gM_45_64 ?_
  refine hl_iconst d86_7 ki0 ?_
  obtain ⟨hb, h⟩ := hl_gd h
  refine hl_iald d86_8 sh75 (hl_b_in hb) ?_
  refine hl_icmp_ge (tg := 33) d86_9 rfl (fun hc => ?_) (fun hc => ?_)
  · have h := hl_pos hc h
    have h := Option.some.inj h
    subst h
    exact hl_loc (k2 rfl) trivial
  · have h := hl_neg hc h
    refine hl_aload_n (i := 0) d86_12 rfl rfl (by decide) ?_
    refine hl_gr d86_13 gM_56_64 ?_
    refine hl_bipush d86_16 kb15 ?_
    refine hl_iload_n (i := 2) d86_18 rfl rfl ?_
    refine hl_imul d86_19 ?_
    obtain ⟨hb, h⟩ := hl_gd h
    refine hl_iald d86_20 sh78 (hl_b_in hb) ?_
    refine hl_iload_n (i := 1) d86_21 rfl rfl ?_
    refine hl_icmp_ne (tg := 27) d86_22 rfl (fun hc => ?_) (fun hc => ?_)
    · have h := hl_neg hc h
      refine hl_iinc (ls2 := [(2, .int (s + 1)), (0, .ref 64), (1, .int v1)]) d86_27 rfl kx1 (by decide) rfl ?_
      refine hl_goto (tg := 2) d86_30 rfl ?_
      have h := Option.some.inj h
      subst h
      exact hl_loc (k1 (s + 1) rfl) ⟨rfl, rfl, rfl, trivial⟩
    · have h := hl_pos hc h
      refine hl_iconst d86_25 ki1 ?_
      have h := Option.some.inj h
      subst h
      have e1 := kr 1 rfl
      subst e1
      exact hl_zret d86_26 rfl (by decide)
set_option maxRecDepth 20000 in
theorem p_M_isSomebody {X : hl_X} (D : Nat) (v1 : Int32) (σ : hl_M) {r : Int32} (h : f_M_isSomebody v1 σ = some r) : hl_R X D y86 0 [(0, .ref 64), (1, .int v1)] [] σ (some (.int r)) σ := by
  unfold f_M_isSomebody at h
  refine hl_iconst d86_0 ki0 ?_
  refine hl_istore_n (i := 2) (ls2 := [(2, .int 0), (0, .ref 64), (1, .int v1)]) d86_1 rfl (by decide) rfl ?_
  obtain ⟨x1, hx1, h⟩ := hl_bind h
  refine hl_R.loc (ls' := [(0, .ref 64), (1, .int v1), (2, .int 0)]) ⟨rfl, rfl, rfl, trivial⟩ ?_
  refine hl_lp_run1 (P := fun (c0 : Int32) => hl_R X D y86 2 [(0, .ref 64), (1, .int v1), (2, .int c0)] [] σ (some (.int r)) σ) (Sum.elim (fun x : Unit => hl_R X D y86 33 [] [] σ (some (.int r)) σ) (fun a : Int32 => ((some (.int r)) : Option Value) = some (.int a))) (fun c0 o ho h1 h2 => p_M_isSomebody_L2 D v1 σ c0 ho h1 (fun e => h2 (.inl ()) e) (fun a e => h2 (.inr (a)) e)) hl_big 0 x1 hx1 ?_
  rcases hl_sum h with ⟨x2, e_x2, h⟩ | ⟨x3, e_x3, h⟩
  · subst e_x2
    refine hl_iconst d86_33 ki0 ?_
    have h := Option.some.inj h
    subst h
    exact hl_zret d86_34 rfl (by decide)
  · subst e_x3
    cases h
    rfl
def f_M_personTold_j73 (v2 : Int32) (v3 : Int64) (v5 : Int32) (σ : hl_M) : Option (hl_M) :=
  (f_M_asks 70 σ).bind fun x5 =>
  (f_M_number 0 2 x5).bind fun x6 =>
  (f_M_asks 71 x6.2).bind fun x7 =>
  (f_M_stepsTold ((15 * v2) + 3) x7).bind fun x8 =>
  if (x8.2.1 64 5) = 0 then
  if hl_b v2 40 then
  if hl_b (15 * v2) 300 then
  if hl_b ((15 * v2) + 1) 300 then
  if hl_b ((15 * v2) + 2) 300 then
  if hl_b (0 : Int32) 6 then
  if hl_b (0 : Int32) 6 then
  some (hl_si (hl_si (hl_si (hl_si (hl_sl x8.2 77 v2.toNatClampNeg v3) 78 (15 * v2).toNatClampNeg v5) 78 ((15 * v2) + 1).toNatClampNeg x6.1) 78 ((15 * v2) + 2).toNatClampNeg x8.1) 75 (0 : Int32).toNatClampNeg (((hl_si (hl_si (hl_si (hl_sl x8.2 77 v2.toNatClampNeg v3) 78 (15 * v2).toNatClampNeg v5) 78 ((15 * v2) + 1).toNatClampNeg x6.1) 78 ((15 * v2) + 2).toNatClampNeg x8.1).1 75 (0 : Int32).toNatClampNeg) + 1)) else none else none else none else none else none else none else
  some x8.2
def f_M_personTold_j64 (v2 : Int32) (v3 : Int64) (v5 : Int32) (σ : hl_M) : Option (hl_M) :=
  f_M_personTold_j73 v2 v3 v5 (f_M_fail 2 (σ.1 64 9) σ)
def f_M_personTold (v1 : Int32) (σ : hl_M) : Option (hl_M) :=
  (f_M_isFull 0 10 v1 σ).bind fun x1 =>
  if x1.1 = 0 then
  if hl_b (0 : Int32) 6 then
  (f_M_newName x1.2).bind fun x2 =>
  (f_M_asks 69 x2.2).bind fun x3 =>
  (f_M_cellTold x3).bind fun x4 =>
  if (x4.2.1 64 5) = 0 then
  if hl_b x4.1 108 then
  if (x4.2.1 76 x4.1.toNatClampNeg) = 0 then
  (f_M_isSomebody x4.1 x4.2).bind fun x9 =>
  if x9 = 0 then
  f_M_personTold_j73 (x1.2.1 75 (0 : Int32).toNatClampNeg) x2.1 x4.1 x4.2 else
  f_M_personTold_j64 (x1.2.1 75 (0 : Int32).toNatClampNeg) x2.1 x4.1 x4.2 else
  f_M_personTold_j64 (x1.2.1 75 (0 : Int32).toNatClampNeg) x2.1 x4.1 x4.2 else none else
  f_M_personTold_j73 (x1.2.1 75 (0 : Int32).toNatClampNeg) x2.1 x4.1 x4.2 else none else
  some x1.2
set_option maxRecDepth 20000 in
theorem p_M_personTold_j73 {X : hl_X} (D : Nat) (v2 : Int32) (v3 : Int64) (v5 : Int32) (σ : hl_M) {τ : hl_M} (h : f_M_personTold_j73 v2 v3 v5 σ = some τ) : hl_R X (D + 5) y83 73 [(0, .ref 64), (2, .int v2), (3, .long v3), (5, .int v5)] [] σ none τ := by
  unfold f_M_personTold_j73 at h
  refine hl_aload_n (i := 0) d83_73 rfl rfl (by decide) ?_
  refine hl_aload_n (i := 0) d83_74 rfl rfl (by decide) ?_
  refine hl_gr d83_75 gM_30_64 ?_
  obtain ⟨x5, hx5, h⟩ := hl_bind h
  refine hl_cVv (D := (D + 4)) (z := y62) (n := 1) (av := [.ref 70]) (st := []) d83_78 mlM_260 rfl (Nat.le_of_ble_eq_true rfl) (Nat.le_of_ble_eq_true rfl) rc64 ((p_M_asks D 70 (by decide) σ hx5).dle (by omega)) ?_
  refine hl_aload_n (i := 0) d83_81 rfl rfl (by decide) ?_
  refine hl_iconst d83_82 ki0 ?_
  refine hl_iconst d83_83 ki2 ?_
  obtain ⟨x6, hx6, h⟩ := hl_bind h
  refine hl_cVi (D := (D + 4)) (z := y68) (n := 2) (av := [.int 0, .int 2]) (st := []) d83_84 mlM_242 rfl (Nat.le_of_ble_eq_true rfl) (Nat.le_of_ble_eq_true rfl) rc64 ((p_M_number D 0 2 x5 hx6).dle (by omega)) ?_
  refine hl_istore (ls2 := [(6, .int x6.1), (0, .ref 64), (2, .int v2), (3, .long v3), (5, .int v5)]) d83_87 (by decide) rfl ?_
  refine hl_aload_n (i := 0) d83_89 rfl rfl (by decide) ?_
  refine hl_aload_n (i := 0) d83_90 rfl rfl (by decide) ?_
  refine hl_gr d83_91 gM_33_64 ?_
  obtain ⟨x7, hx7, h⟩ := hl_bind h
  refine hl_cVv (D := (D + 4)) (z := y62) (n := 1) (av := [.ref 71]) (st := []) d83_94 mlM_260 rfl (Nat.le_of_ble_eq_true rfl) (Nat.le_of_ble_eq_true rfl) rc64 ((p_M_asks D 71 (by decide) x6.2 hx7).dle (by omega)) ?_
  refine hl_aload_n (i := 0) d83_97 rfl rfl (by decide) ?_
  refine hl_bipush d83_98 kb15 ?_
  refine hl_iload_n (i := 2) d83_100 rfl rfl ?_
  refine hl_imul d83_101 ?_
  refine hl_iconst d83_102 ki3 ?_
  refine hl_iadd d83_103 ?_
  obtain ⟨x8, hx8, h⟩ := hl_bind h
  refine hl_cVi (D := (D + 4)) (z := y84) (n := 1) (av := [.int ((15 * v2) + 3)]) (st := []) d83_104 mlM_270 rfl (Nat.le_of_ble_eq_true rfl) (Nat.le_of_ble_eq_true rfl) rc64 ((p_M_stepsTold D ((15 * v2) + 3) x7 hx8).dle (by omega)) ?_
  refine hl_istore (ls2 := [(7, .int x8.1), (6, .int x6.1), (0, .ref 64), (2, .int v2), (3, .long v3), (5, .int v5)]) d83_107 (by decide) rfl ?_
  refine hl_aload_n (i := 0) d83_109 rfl rfl (by decide) ?_
  refine hl_gi d83_110 gM_173_64 ?_
  refine hl_if_eq (tg := 117) d83_113 rfl (fun hc => ?_) (fun hc => ?_)
  · have h := hl_pos hc h
    refine hl_aload_n (i := 0) d83_117 rfl rfl (by decide) ?_
    refine hl_gr d83_118 gM_52_64 ?_
    refine hl_iload_n (i := 2) d83_121 rfl rfl ?_
    refine hl_lload_n (i := 3) d83_122 rfl rfl ?_
    obtain ⟨hb, h⟩ := hl_gd h
    refine hl_last (q := 77) d83_123 sh77 (hl_b_in hb) ?_
    refine hl_aload_n (i := 0) d83_124 rfl rfl (by decide) ?_
    refine hl_gr d83_125 gM_56_64 ?_
    refine hl_bipush d83_128 kb15 ?_
    refine hl_iload_n (i := 2) d83_130 rfl rfl ?_
    refine hl_imul d83_131 ?_
    refine hl_iload d83_132 rfl ?_
    obtain ⟨hb, h⟩ := hl_gd h
    refine hl_iast (q := 78) d83_134 sh78 (hl_b_in hb) ?_
    refine hl_aload_n (i := 0) d83_135 rfl rfl (by decide) ?_
    refine hl_gr d83_136 gM_56_64 ?_
    refine hl_bipush d83_139 kb15 ?_
    refine hl_iload_n (i := 2) d83_141 rfl rfl ?_
    refine hl_imul d83_142 ?_
    refine hl_iconst d83_143 ki1 ?_
    refine hl_iadd d83_144 ?_
    refine hl_iload d83_145 rfl ?_
    obtain ⟨hb, h⟩ := hl_gd h
    refine hl_iast (q := 78) d83_147 sh78 (hl_b_in hb) ?_
    refine hl_aload_n (i := 0) d83_148 rfl rfl (by decide) ?_
    refine hl_gr d83_149 gM_56_64 ?_
    refine hl_bipush d83_152 kb15 ?_
    refine hl_iload_n (i := 2) d83_154 rfl rfl ?_
    refine hl_imul d83_155 ?_
    refine hl_iconst d83_156 ki2 ?_
    refine hl_iadd d83_157 ?_
    refine hl_iload d83_158 rfl ?_
    obtain ⟨hb, h⟩ := hl_gd h
    refine hl_iast (q := 78) d83_160 sh78 (hl_b_in hb) ?_
    refine hl_aload_n (i := 0) d83_161 rfl rfl (by decide) ?_
    refine hl_gr d83_162 gM_45_64 ?_
    refine hl_iconst d83_165 ki0 ?_
    refine hl_dup2 d83_166 rfl rfl ?_
    obtain ⟨hb, h⟩ := hl_gd h
    refine hl_iald d83_167 sh75 (hl_b_in hb) ?_
    refine hl_iconst d83_168 ki1 ?_
    refine hl_iadd d83_169 ?_
    obtain ⟨hb, h⟩ := hl_gd h
    refine hl_iast (q := 75) d83_170 sh75 (hl_b_in hb) ?_
    have h := Option.some.inj h
    subst h
    exact hl_vret d83_171 rfl
  · have h := hl_neg hc h
    have h := Option.some.inj h
    subst h
    exact hl_vret d83_116 rfl
set_option maxRecDepth 20000 in
theorem p_M_personTold_j64 {X : hl_X} (D : Nat) (v2 : Int32) (v3 : Int64) (v5 : Int32) (σ : hl_M) {τ : hl_M} (h : f_M_personTold_j64 v2 v3 v5 σ = some τ) : hl_R X (D + 5) y83 64 [(0, .ref 64), (2, .int v2), (3, .long v3), (5, .int v5)] [] σ none τ := by
  unfold f_M_personTold_j64 at h
  refine hl_aload_n (i := 0) d83_64 rfl rfl (by decide) ?_
  refine hl_iconst d83_65 ki2 ?_
  refine hl_aload_n (i := 0) d83_66 rfl rfl (by decide) ?_
  refine hl_gi d83_67 gM_213_64 ?_
  refine hl_cVv (D := (D + 4)) (z := y67) (n := 2) (av := [.int 2, .int (σ.1 64 9)]) (st := []) d83_70 mlM_203 rfl (Nat.le_of_ble_eq_true rfl) (Nat.le_of_ble_eq_true rfl) rc64 ((p_M_fail D 2 (σ.1 64 9) σ rfl).dle (by omega)) ?_
  exact hl_loc (p_M_personTold_j73 D v2 v3 v5 (f_M_fail 2 (σ.1 64 9) σ) h) ⟨rfl, rfl, rfl, rfl, trivial⟩
set_option maxRecDepth 20000 in
theorem p_M_personTold {X : hl_X} (D : Nat) (v1 : Int32) (σ : hl_M) {τ : hl_M} (h : f_M_personTold v1 σ = some τ) : hl_R X (D + 5) y83 0 [(0, .ref 64), (1, .int v1)] [] σ none τ := by
  unfold f_M_personTold at h
  refine hl_aload_n (i := 0) d83_0 rfl rfl (by decide) ?_
  refine hl_iconst d83_1 ki0 ?_
  refine hl_bipush d83_2 kb10 ?_
  refine hl_iload_n (i := 1) d83_4 rfl rfl ?_
  obtain ⟨x1, hx1, h⟩ := hl_bind h
  refine hl_cVi (D := (D + 4)) (z := y75) (n := 3) (av := [.int 0, .int 10, .int v1]) (st := []) d83_5 mlM_253 rfl (Nat.le_of_ble_eq_true rfl) (Nat.le_of_ble_eq_true rfl) rc64 ((p_M_isFull D 0 10 v1 σ hx1).dle (by omega)) ?_
  refine hl_if_eq (tg := 12) d83_8 rfl (fun hc => ?_) (fun hc => ?_)
  · have h := hl_pos hc h
    refine hl_aload_n (i := 0) d83_12 rfl rfl (by decide) ?_
    refine hl_gr d83_13 gM_45_64 ?_
    refine hl_iconst d83_16 ki0 ?_
    obtain ⟨hb, h⟩ := hl_gd h
    refine hl_iald d83_17 sh75 (hl_b_in hb) ?_
    refine hl_istore_n (i := 2) (ls2 := [(2, .int (x1.2.1 75 (0 : Int32).toNatClampNeg)), (0, .ref 64), (1, .int v1)]) d83_18 rfl (by decide) rfl ?_
    refine hl_aload_n (i := 0) d83_19 rfl rfl (by decide) ?_
    obtain ⟨x2, hx2, h⟩ := hl_bind h
    refine hl_cVl (D := (D + 4)) (z := y80) (n := 0) (av := []) (st := []) d83_20 mlM_257 rfl (Nat.le_of_ble_eq_true rfl) (Nat.le_of_ble_eq_true rfl) rc64 ((p_M_newName D x1.2 hx2).dle (by omega)) ?_
    refine hl_lstore_n (i := 3) (ls2 := [(3, .long x2.1), (2, .int (x1.2.1 75 (0 : Int32).toNatClampNeg)), (0, .ref 64), (1, .int v1)]) d83_23 rfl (by decide) rfl ?_
    refine hl_aload_n (i := 0) d83_24 rfl rfl (by decide) ?_
    refine hl_aload_n (i := 0) d83_25 rfl rfl (by decide) ?_
    refine hl_gr d83_26 gM_27_64 ?_
    obtain ⟨x3, hx3, h⟩ := hl_bind h
    refine hl_cVv (D := (D + 4)) (z := y62) (n := 1) (av := [.ref 69]) (st := []) d83_29 mlM_260 rfl (Nat.le_of_ble_eq_true rfl) (Nat.le_of_ble_eq_true rfl) rc64 ((p_M_asks D 69 (by decide) x2.2 hx3).dle (by omega)) ?_
    refine hl_aload_n (i := 0) d83_32 rfl rfl (by decide) ?_
    obtain ⟨x4, hx4, h⟩ := hl_bind h
    refine hl_cVi (D := (D + 4)) (z := y82) (n := 0) (av := []) (st := []) d83_33 mlM_264 rfl (Nat.le_of_ble_eq_true rfl) (Nat.le_of_ble_eq_true rfl) rc64 ((p_M_cellTold D x3 hx4).dle (by omega)) ?_
    refine hl_istore (ls2 := [(5, .int x4.1), (3, .long x2.1), (2, .int (x1.2.1 75 (0 : Int32).toNatClampNeg)), (0, .ref 64), (1, .int v1)]) d83_36 (by decide) rfl ?_
    refine hl_aload_n (i := 0) d83_38 rfl rfl (by decide) ?_
    refine hl_gi d83_39 gM_173_64 ?_
    refine hl_if_ne (tg := 73) d83_42 rfl (fun hc => ?_) (fun hc => ?_)
    · have h := hl_neg hc h
      exact hl_loc (p_M_personTold_j73 D (x1.2.1 75 (0 : Int32).toNatClampNeg) x2.1 x4.1 x4.2 h) ⟨rfl, rfl, rfl, rfl, trivial⟩
    · have h := hl_pos hc h
      refine hl_aload_n (i := 0) d83_45 rfl rfl (by decide) ?_
      refine hl_gr d83_46 gM_48_64 ?_
      refine hl_iload d83_49 rfl ?_
      obtain ⟨hb, h⟩ := hl_gd h
      refine hl_zald d83_51 sh76 (hl_b_in hb) ?_
      refine hl_if_ne (tg := 64) d83_52 rfl (fun hc => ?_) (fun hc => ?_)
      · have h := hl_neg hc h
        exact hl_loc (p_M_personTold_j64 D (x1.2.1 75 (0 : Int32).toNatClampNeg) x2.1 x4.1 x4.2 h) ⟨rfl, rfl, rfl, rfl, trivial⟩
      · have h := hl_pos hc h
        refine hl_aload_n (i := 0) d83_55 rfl rfl (by decide) ?_
        refine hl_iload d83_56 rfl ?_
        obtain ⟨x9, hx9, h⟩ := hl_bind h
        refine hl_cVi (D := (D + 4)) (z := y86) (n := 1) (av := [.int x4.1]) (st := []) d83_58 mlM_267 rfl (Nat.le_of_ble_eq_true rfl) (Nat.le_of_ble_eq_true rfl) rc64 ((p_M_isSomebody D x4.1 x4.2 hx9).dle (by omega)) ?_
        refine hl_if_eq (tg := 73) d83_61 rfl (fun hc => ?_) (fun hc => ?_)
        · have h := hl_pos hc h
          exact hl_loc (p_M_personTold_j73 D (x1.2.1 75 (0 : Int32).toNatClampNeg) x2.1 x4.1 x4.2 h) ⟨rfl, rfl, rfl, rfl, trivial⟩
        · have h := hl_neg hc h
          exact hl_loc (p_M_personTold_j64 D (x1.2.1 75 (0 : Int32).toNatClampNeg) x2.1 x4.1 x4.2 h) ⟨rfl, rfl, rfl, rfl, trivial⟩
  · have h := hl_neg hc h
    have h := Option.some.inj h
    subst h
    exact hl_vret d83_11 rfl
def f_M_wallTold_j51 (v2 : Int32) (σ : hl_M) : Option (hl_M) :=
  if (σ.1 64 5) = 0 then
  if hl_b v2 108 then
  hl_let (hl_si (hl_si σ 76 v2.toNatClampNeg (vp_nar .boolean 1)) 64 22 (((hl_si σ 76 v2.toNatClampNeg (vp_nar .boolean 1)).1 64 22) + 1)) (fun σ2 =>
  some σ2) else none else
  some σ
def f_M_wallTold_j22 (σ : hl_M) : Option (hl_M) :=
  (f_M_cellTold σ).bind fun x1 =>
  if (x1.2.1 64 5) = 0 then
  (f_M_isSomebody x1.1 x1.2).bind fun x3 =>
  if x3 = 0 then
  f_M_wallTold_j51 x1.1 x1.2 else
  f_M_wallTold_j51 x1.1 (f_M_fail 2 (x1.2.1 64 9) x1.2) else
  f_M_wallTold_j51 x1.1 x1.2
def f_M_wallTold (v1 : Int32) (σ : hl_M) : Option (hl_M) :=
  if (σ.1 64 5) = 0 then
  if (σ.1 64 22) = 20 then
  f_M_wallTold_j22 (f_M_fail 5 v1 σ) else
  f_M_wallTold_j22 σ else
  f_M_wallTold_j22 σ
set_option maxRecDepth 20000 in
theorem p_M_wallTold_j51 {X : hl_X} (D : Nat) (v2 : Int32) (σ : hl_M) {τ : hl_M} (h : f_M_wallTold_j51 v2 σ = some τ) : hl_R X (D + 3) y87 51 [(0, .ref 64), (2, .int v2)] [] σ none τ := by
  unfold f_M_wallTold_j51 at h
  refine hl_aload_n (i := 0) d87_51 rfl rfl (by decide) ?_
  refine hl_gi d87_52 gM_173_64 ?_
  refine hl_if_eq (tg := 59) d87_55 rfl (fun hc => ?_) (fun hc => ?_)
  · have h := hl_pos hc h
    refine hl_aload_n (i := 0) d87_59 rfl rfl (by decide) ?_
    refine hl_gr d87_60 gM_48_64 ?_
    refine hl_iload_n (i := 2) d87_63 rfl rfl ?_
    refine hl_iconst d87_64 ki1 ?_
    obtain ⟨hb, h⟩ := hl_gd h
    refine hl_zast (q := 76) d87_65 sh76 (hl_b_in hb) ?_
    refine hl_aload_n (i := 0) d87_66 rfl rfl (by decide) ?_
    refine hl_dup d87_67 rfl ?_
    refine hl_gi d87_68 gM_273_64 ?_
    refine hl_iconst d87_71 ki1 ?_
    refine hl_iadd d87_72 ?_
    refine hl_pi d87_73 qM_273_64 ?_
    refine hl_nmm h (fun σ2 h => ?_)
    have h := Option.some.inj h
    subst h
    exact hl_vret d87_76 rfl
  · have h := hl_neg hc h
    have h := Option.some.inj h
    subst h
    exact hl_vret d87_58 rfl
set_option maxRecDepth 20000 in
theorem p_M_wallTold_j22 {X : hl_X} (D : Nat) (σ : hl_M) {τ : hl_M} (h : f_M_wallTold_j22 σ = some τ) : hl_R X (D + 3) y87 22 [(0, .ref 64)] [] σ none τ := by
  unfold f_M_wallTold_j22 at h
  refine hl_aload_n (i := 0) d87_22 rfl rfl (by decide) ?_
  obtain ⟨x1, hx1, h⟩ := hl_bind h
  refine hl_cVi (D := (D + 2)) (z := y82) (n := 0) (av := []) (st := []) d87_23 mlM_264 rfl (Nat.le_of_ble_eq_true rfl) (Nat.le_of_ble_eq_true rfl) rc64 ((p_M_cellTold D σ hx1).dle (by omega)) ?_
  refine hl_istore_n (i := 2) (ls2 := [(2, .int x1.1), (0, .ref 64)]) d87_26 rfl (by decide) rfl ?_
  refine hl_aload_n (i := 0) d87_27 rfl rfl (by decide) ?_
  refine hl_gi d87_28 gM_173_64 ?_
  refine hl_if_ne (tg := 51) d87_31 rfl (fun hc => ?_) (fun hc => ?_)
  · have h := hl_neg hc h
    exact hl_loc (p_M_wallTold_j51 D x1.1 x1.2 h) ⟨rfl, rfl, trivial⟩
  · have h := hl_pos hc h
    refine hl_aload_n (i := 0) d87_34 rfl rfl (by decide) ?_
    refine hl_iload_n (i := 2) d87_35 rfl rfl ?_
    obtain ⟨x3, hx3, h⟩ := hl_bind h
    refine hl_cVi (D := (D + 2)) (z := y86) (n := 1) (av := [.int x1.1]) (st := []) d87_36 mlM_267 rfl (Nat.le_of_ble_eq_true rfl) (Nat.le_of_ble_eq_true rfl) rc64 ((p_M_isSomebody D x1.1 x1.2 hx3).dle (by omega)) ?_
    refine hl_if_eq (tg := 51) d87_39 rfl (fun hc => ?_) (fun hc => ?_)
    · have h := hl_pos hc h
      exact hl_loc (p_M_wallTold_j51 D x1.1 x1.2 h) ⟨rfl, rfl, trivial⟩
    · have h := hl_neg hc h
      refine hl_aload_n (i := 0) d87_42 rfl rfl (by decide) ?_
      refine hl_iconst d87_43 ki2 ?_
      refine hl_aload_n (i := 0) d87_44 rfl rfl (by decide) ?_
      refine hl_gi d87_45 gM_213_64 ?_
      refine hl_cVv (D := (D + 2)) (z := y67) (n := 2) (av := [.int 2, .int (x1.2.1 64 9)]) (st := []) d87_48 mlM_203 rfl (Nat.le_of_ble_eq_true rfl) (Nat.le_of_ble_eq_true rfl) rc64 ((p_M_fail D 2 (x1.2.1 64 9) x1.2 rfl).dle (by omega)) ?_
      exact hl_loc (p_M_wallTold_j51 D x1.1 (f_M_fail 2 (x1.2.1 64 9) x1.2) h) ⟨rfl, rfl, trivial⟩
set_option maxRecDepth 20000 in
theorem p_M_wallTold {X : hl_X} (D : Nat) (v1 : Int32) (σ : hl_M) {τ : hl_M} (h : f_M_wallTold v1 σ = some τ) : hl_R X (D + 3) y87 0 [(0, .ref 64), (1, .int v1)] [] σ none τ := by
  unfold f_M_wallTold at h
  refine hl_aload_n (i := 0) d87_0 rfl rfl (by decide) ?_
  refine hl_gi d87_1 gM_173_64 ?_
  refine hl_if_ne (tg := 22) d87_4 rfl (fun hc => ?_) (fun hc => ?_)
  · have h := hl_neg hc h
    exact hl_loc (p_M_wallTold_j22 D σ h) ⟨rfl, trivial⟩
  · have h := hl_pos hc h
    refine hl_aload_n (i := 0) d87_7 rfl rfl (by decide) ?_
    refine hl_gi d87_8 gM_273_64 ?_
    refine hl_bipush d87_11 kb20 ?_
    refine hl_icmp_ne (tg := 22) d87_13 rfl (fun hc => ?_) (fun hc => ?_)
    · have h := hl_neg hc h
      exact hl_loc (p_M_wallTold_j22 D σ h) ⟨rfl, trivial⟩
    · have h := hl_pos hc h
      refine hl_aload_n (i := 0) d87_16 rfl rfl (by decide) ?_
      refine hl_iconst d87_17 ki5 ?_
      refine hl_iload_n (i := 1) d87_18 rfl rfl ?_
      refine hl_cVv (D := (D + 2)) (z := y67) (n := 2) (av := [.int 5, .int v1]) (st := []) d87_19 mlM_203 rfl (Nat.le_of_ble_eq_true rfl) (Nat.le_of_ble_eq_true rfl) rc64 ((p_M_fail D 5 v1 σ rfl).dle (by omega)) ?_
      exact hl_loc (p_M_wallTold_j22 D (f_M_fail 5 v1 σ) h) ⟨rfl, trivial⟩
def f_M_statementTold_j98 (σ : hl_M) : Option (hl_M) :=
  (f_M_asksSign 59 σ).bind fun x5 =>
  some (hl_si x5 64 29 ((x5.1 64 29) + 1))
def f_M_statementTold (σ : hl_M) : Option (hl_M) :=
  if (σ.1 64 29) = 70 then
  some (f_M_fail 5 (σ.1 64 2) σ) else
  (f_M_takes 67 σ).bind fun x1 =>
  if x1.1 = 0 then
  (f_M_takes 68 x1.2).bind fun x2 =>
  if x2.1 = 0 then
  (f_M_takes 72 x2.2).bind fun x3 =>
  if x3.1 = 0 then
  (f_M_asks 73 x3.2).bind fun x4 =>
  if (x4.1 64 5) = 0 then
  (f_M_hymnTold (σ.1 64 2) x4).bind fun x6 =>
  f_M_statementTold_j98 x6 else
  f_M_statementTold_j98 x4 else
  (f_M_wordTold (σ.1 64 2) x3.2).bind fun x7 =>
  f_M_statementTold_j98 x7 else
  (f_M_personTold (σ.1 64 2) x2.2).bind fun x8 =>
  f_M_statementTold_j98 x8 else
  (f_M_wallTold (σ.1 64 2) x1.2).bind fun x9 =>
  f_M_statementTold_j98 x9
set_option maxRecDepth 20000 in
theorem p_M_statementTold_j98 {X : hl_X} (D : Nat) (σ : hl_M) {τ : hl_M} (h : f_M_statementTold_j98 σ = some τ) : hl_R X (D + 6) y73 98 [(0, .ref 64)] [] σ none τ := by
  unfold f_M_statementTold_j98 at h
  refine hl_aload_n (i := 0) d73_98 rfl rfl (by decide) ?_
  refine hl_bipush d73_99 kb59 ?_
  obtain ⟨x5, hx5, h⟩ := hl_bind h
  refine hl_cVv (D := (D + 5)) (z := y71) (n := 1) (av := [.int 59]) (st := []) d73_101 mlM_295 rfl (Nat.le_of_ble_eq_true rfl) (Nat.le_of_ble_eq_true rfl) rc64 ((p_M_asksSign D 59 σ hx5).dle (by omega)) ?_
  refine hl_aload_n (i := 0) d73_104 rfl rfl (by decide) ?_
  refine hl_dup d73_105 rfl ?_
  refine hl_gi d73_106 gM_280_64 ?_
  refine hl_iconst d73_109 ki1 ?_
  refine hl_iadd d73_110 ?_
  refine hl_pi d73_111 qM_280_64 ?_
  have h := Option.some.inj h
  subst h
  exact hl_vret d73_114 rfl
set_option maxRecDepth 20000 in
theorem p_M_statementTold {X : hl_X} (D : Nat) (σ : hl_M) {τ : hl_M} (h : f_M_statementTold σ = some τ) : hl_R X (D + 6) y73 0 [(0, .ref 64)] [] σ none τ := by
  unfold f_M_statementTold at h
  refine hl_aload_n (i := 0) d73_0 rfl rfl (by decide) ?_
  refine hl_gi d73_1 gM_179_64 ?_
  refine hl_istore_n (i := 1) (ls2 := [(1, .int (σ.1 64 2)), (0, .ref 64)]) d73_4 rfl (by decide) rfl ?_
  refine hl_aload_n (i := 0) d73_5 rfl rfl (by decide) ?_
  refine hl_gi d73_6 gM_280_64 ?_
  refine hl_bipush d73_9 kb70 ?_
  refine hl_icmp_ne (tg := 21) d73_11 rfl (fun hc => ?_) (fun hc => ?_)
  · have h := hl_neg hc h
    refine hl_aload_n (i := 0) d73_21 rfl rfl (by decide) ?_
    refine hl_aload_n (i := 0) d73_22 rfl rfl (by decide) ?_
    refine hl_gr d73_23 gM_21_64 ?_
    obtain ⟨x1, hx1, h⟩ := hl_bind h
    refine hl_cVi (D := (D + 5)) (z := y63) (n := 1) (av := [.ref 67]) (st := []) d73_26 mlM_200 rfl (Nat.le_of_ble_eq_true rfl) (Nat.le_of_ble_eq_true rfl) rc64 ((p_M_takes D 67 (by decide) σ hx1).dle (by omega)) ?_
    refine hl_if_eq (tg := 40) d73_29 rfl (fun hc => ?_) (fun hc => ?_)
    · have h := hl_pos hc h
      refine hl_aload_n (i := 0) d73_40 rfl rfl (by decide) ?_
      refine hl_aload_n (i := 0) d73_41 rfl rfl (by decide) ?_
      refine hl_gr d73_42 gM_24_64 ?_
      obtain ⟨x2, hx2, h⟩ := hl_bind h
      refine hl_cVi (D := (D + 5)) (z := y63) (n := 1) (av := [.ref 68]) (st := []) d73_45 mlM_200 rfl (Nat.le_of_ble_eq_true rfl) (Nat.le_of_ble_eq_true rfl) rc64 ((p_M_takes D 68 (by decide) x1.2 hx2).dle (by omega)) ?_
      refine hl_if_eq (tg := 59) d73_48 rfl (fun hc => ?_) (fun hc => ?_)
      · have h := hl_pos hc h
        refine hl_aload_n (i := 0) d73_59 rfl rfl (by decide) ?_
        refine hl_aload_n (i := 0) d73_60 rfl rfl (by decide) ?_
        refine hl_gr d73_61 gM_36_64 ?_
        obtain ⟨x3, hx3, h⟩ := hl_bind h
        refine hl_cVi (D := (D + 5)) (z := y63) (n := 1) (av := [.ref 72]) (st := []) d73_64 mlM_200 rfl (Nat.le_of_ble_eq_true rfl) (Nat.le_of_ble_eq_true rfl) rc64 ((p_M_takes D 72 (by decide) x2.2 hx3).dle (by omega)) ?_
        refine hl_if_eq (tg := 78) d73_67 rfl (fun hc => ?_) (fun hc => ?_)
        · have h := hl_pos hc h
          refine hl_aload_n (i := 0) d73_78 rfl rfl (by decide) ?_
          refine hl_aload_n (i := 0) d73_79 rfl rfl (by decide) ?_
          refine hl_gr d73_80 gM_39_64 ?_
          obtain ⟨x4, hx4, h⟩ := hl_bind h
          refine hl_cVv (D := (D + 5)) (z := y62) (n := 1) (av := [.ref 73]) (st := []) d73_83 mlM_260 rfl (Nat.le_of_ble_eq_true rfl) (Nat.le_of_ble_eq_true rfl) rc64 ((p_M_asks D 73 (by decide) x3.2 hx4).dle (by omega)) ?_
          refine hl_aload_n (i := 0) d73_86 rfl rfl (by decide) ?_
          refine hl_gi d73_87 gM_173_64 ?_
          refine hl_if_ne (tg := 98) d73_90 rfl (fun hc => ?_) (fun hc => ?_)
          · have h := hl_neg hc h
            exact hl_loc (p_M_statementTold_j98 D x4 h) ⟨rfl, trivial⟩
          · have h := hl_pos hc h
            refine hl_aload_n (i := 0) d73_93 rfl rfl (by decide) ?_
            refine hl_iload_n (i := 1) d73_94 rfl rfl ?_
            obtain ⟨x6, hx6, h⟩ := hl_bind h
            refine hl_cVv (D := (D + 5)) (z := y74) (n := 1) (av := [.int (σ.1 64 2)]) (st := []) d73_95 mlM_292 rfl (Nat.le_of_ble_eq_true rfl) (Nat.le_of_ble_eq_true rfl) rc64 ((p_M_hymnTold D (σ.1 64 2) x4 hx6).dle (by omega)) ?_
            exact hl_loc (p_M_statementTold_j98 D x6 h) ⟨rfl, trivial⟩
        · have h := hl_neg hc h
          refine hl_aload_n (i := 0) d73_70 rfl rfl (by decide) ?_
          refine hl_iload_n (i := 1) d73_71 rfl rfl ?_
          obtain ⟨x7, hx7, h⟩ := hl_bind h
          refine hl_cVv (D := (D + 5)) (z := y79) (n := 1) (av := [.int (σ.1 64 2)]) (st := []) d73_72 mlM_289 rfl (Nat.le_of_ble_eq_true rfl) (Nat.le_of_ble_eq_true rfl) rc64 ((p_M_wordTold D (σ.1 64 2) x3.2 hx7).dle (by omega)) ?_
          refine hl_goto (tg := 98) d73_75 rfl ?_
          exact hl_loc (p_M_statementTold_j98 D x7 h) ⟨rfl, trivial⟩
      · have h := hl_neg hc h
        refine hl_aload_n (i := 0) d73_51 rfl rfl (by decide) ?_
        refine hl_iload_n (i := 1) d73_52 rfl rfl ?_
        obtain ⟨x8, hx8, h⟩ := hl_bind h
        refine hl_cVv (D := (D + 5)) (z := y83) (n := 1) (av := [.int (σ.1 64 2)]) (st := []) d73_53 mlM_286 rfl (Nat.le_of_ble_eq_true rfl) (Nat.le_of_ble_eq_true rfl) rc64 ((p_M_personTold D (σ.1 64 2) x2.2 hx8).dle (by omega)) ?_
        refine hl_goto (tg := 98) d73_56 rfl ?_
        exact hl_loc (p_M_statementTold_j98 D x8 h) ⟨rfl, trivial⟩
    · have h := hl_neg hc h
      refine hl_aload_n (i := 0) d73_32 rfl rfl (by decide) ?_
      refine hl_iload_n (i := 1) d73_33 rfl rfl ?_
      obtain ⟨x9, hx9, h⟩ := hl_bind h
      refine hl_cVv (D := (D + 5)) (z := y87) (n := 1) (av := [.int (σ.1 64 2)]) (st := []) d73_34 mlM_283 rfl (Nat.le_of_ble_eq_true rfl) (Nat.le_of_ble_eq_true rfl) rc64 ((p_M_wallTold D (σ.1 64 2) x1.2 hx9).dle (by omega)) ?_
      refine hl_goto (tg := 98) d73_37 rfl ?_
      exact hl_loc (p_M_statementTold_j98 D x9 h) ⟨rfl, trivial⟩
  · have h := hl_pos hc h
    refine hl_aload_n (i := 0) d73_14 rfl rfl (by decide) ?_
    refine hl_iconst d73_15 ki5 ?_
    refine hl_iload_n (i := 1) d73_16 rfl rfl ?_
    refine hl_cVv (D := (D + 5)) (z := y67) (n := 2) (av := [.int 5, .int (σ.1 64 2)]) (st := []) d73_17 mlM_203 rfl (Nat.le_of_ble_eq_true rfl) (Nat.le_of_ble_eq_true rfl) rc64 ((p_M_fail D 5 (σ.1 64 2) σ rfl).dle (by omega)) ?_
    have h := Option.some.inj h
    subst h
    exact hl_vret d73_20 rfl
def f_M_cells (σ : hl_M) : Int32 :=
  (σ.1 64 30) * (σ.1 64 31)
set_option maxRecDepth 20000 in
theorem p_M_cells {X : hl_X} (D : Nat) (σ : hl_M) {r : Int32} (h : f_M_cells σ = r) : hl_R X D y89 0 [(0, .ref 64)] [] σ (some (.int r)) σ := by
  unfold f_M_cells at h
  refine hl_aload_n (i := 0) d89_0 rfl rfl (by decide) ?_
  refine hl_gi d89_1 gM_307_64 ?_
  refine hl_aload_n (i := 0) d89_4 rfl rfl (by decide) ?_
  refine hl_gi d89_5 gM_310_64 ?_
  refine hl_imul d89_8 ?_
  subst h
  exact hl_iret d89_9 rfl
def f_M_stepped_j51 (v1 : Int32) (v3 : Int32) (s0 : Int32) (s1 : Int32) (σ : hl_M) : Option (Int32) :=
  if (f_M_isIn v3.toInt64 0 (((σ.1 64 30) - 1).toInt64)) = 0 then
  some v1 else
  if (f_M_isIn ((s1 + s0).toInt64) 0 (((σ.1 64 31) - 1).toInt64)) = 0 then
  some v1 else
  if hl_b (54 + (((σ.1 64 30) * (s1 + s0)) + v3)) 108 then
  if (σ.1 76 (54 + (((σ.1 64 30) * (s1 + s0)) + v3)).toNatClampNeg) = 0 then
  some (((σ.1 64 30) * (s1 + s0)) + v3) else
  some v1 else none
def f_M_stepped_j25 (v1 : Int32) (v2 : Int32) (s0 : Int32) (s1 : Int32) (σ : hl_M) : Option (Int32) :=
  if (σ.1 64 30) = 0 then none else
  if v2 = 2 then
  f_M_stepped_j51 v1 (s1 + s0) 1 (v1 / (σ.1 64 30)) σ else
  if v2 = 0 then
  f_M_stepped_j51 v1 (s1 + s0) ((-1)) (v1 / (σ.1 64 30)) σ else
  f_M_stepped_j51 v1 (s1 + s0) 0 (v1 / (σ.1 64 30)) σ
def f_M_stepped (v1 : Int32) (v2 : Int32) (σ : hl_M) : Option (Int32) :=
  if (σ.1 64 30) = 0 then none else
  if v2 = 1 then
  f_M_stepped_j25 v1 v2 1 (v1 - v1 / (σ.1 64 30) * (σ.1 64 30)) σ else
  if v2 = 3 then
  f_M_stepped_j25 v1 v2 ((-1)) (v1 - v1 / (σ.1 64 30) * (σ.1 64 30)) σ else
  f_M_stepped_j25 v1 v2 0 (v1 - v1 / (σ.1 64 30) * (σ.1 64 30)) σ
set_option maxRecDepth 20000 in
theorem p_M_stepped_j51 {X : hl_X} (D : Nat) (v1 : Int32) (v3 : Int32) (s0 : Int32) (s1 : Int32) (σ : hl_M) {r : Int32} (h : f_M_stepped_j51 v1 v3 s0 s1 σ = some r) : hl_R X (D + 1) y91 51 [(0, .ref 64), (1, .int v1), (3, .int v3)] [.int s0, .int s1] σ (some (.int r)) σ := by
  unfold f_M_stepped_j51 at h
  refine hl_iadd d91_51 ?_
  refine hl_istore (ls2 := [(4, .int (s1 + s0)), (0, .ref 64), (1, .int v1), (3, .int v3)]) d91_52 (by decide) rfl ?_
  refine hl_iload_n (i := 3) d91_54 rfl rfl ?_
  refine hl_i2l d91_55 ?_
  refine hl_lconst (x := 0) d91_56 (by decide) ?_
  refine hl_aload_n (i := 0) d91_57 rfl rfl (by decide) ?_
  refine hl_gi d91_58 gM_307_64 ?_
  refine hl_iconst d91_61 ki1 ?_
  refine hl_isub d91_62 ?_
  refine hl_i2l d91_63 ?_
  refine hl_cSi (D := D) (z := y70) (n := 3) (av := [.long v3.toInt64, .long 0, .long (((σ.1 64 30) - 1).toInt64)]) (st := []) d91_64 mlM_216 rfl (Nat.le_of_ble_eq_true rfl) (Nat.le_of_ble_eq_true rfl) ((p_M_isIn D v3.toInt64 0 (((σ.1 64 30) - 1).toInt64) σ rfl).dle (by omega)) ?_
  refine hl_if_eq (tg := 87) d91_67 rfl (fun hc => ?_) (fun hc => ?_)
  · have h := hl_pos hc h
    refine hl_iload_n (i := 1) d91_87 rfl rfl ?_
    have h := Option.some.inj h
    subst h
    exact hl_iret d91_88 rfl
  · have h := hl_neg hc h
    refine hl_iload d91_70 rfl ?_
    refine hl_i2l d91_72 ?_
    refine hl_lconst (x := 0) d91_73 (by decide) ?_
    refine hl_aload_n (i := 0) d91_74 rfl rfl (by decide) ?_
    refine hl_gi d91_75 gM_310_64 ?_
    refine hl_iconst d91_78 ki1 ?_
    refine hl_isub d91_79 ?_
    refine hl_i2l d91_80 ?_
    refine hl_cSi (D := D) (z := y70) (n := 3) (av := [.long ((s1 + s0).toInt64), .long 0, .long (((σ.1 64 31) - 1).toInt64)]) (st := []) d91_81 mlM_216 rfl (Nat.le_of_ble_eq_true rfl) (Nat.le_of_ble_eq_true rfl) ((p_M_isIn D ((s1 + s0).toInt64) 0 (((σ.1 64 31) - 1).toInt64) σ rfl).dle (by omega)) ?_
    refine hl_if_ne (tg := 89) d91_84 rfl (fun hc => ?_) (fun hc => ?_)
    · have h := hl_neg hc h
      refine hl_aload_n (i := 0) d91_89 rfl rfl (by decide) ?_
      refine hl_gi d91_90 gM_307_64 ?_
      refine hl_iload d91_93 rfl ?_
      refine hl_imul d91_95 ?_
      refine hl_iload_n (i := 3) d91_96 rfl rfl ?_
      refine hl_iadd d91_97 ?_
      refine hl_istore (ls2 := [(5, .int (((σ.1 64 30) * (s1 + s0)) + v3)), (4, .int (s1 + s0)), (0, .ref 64), (1, .int v1), (3, .int v3)]) d91_98 (by decide) rfl ?_
      refine hl_aload_n (i := 0) d91_100 rfl rfl (by decide) ?_
      refine hl_gr d91_101 gM_48_64 ?_
      refine hl_bipush d91_104 kb54 ?_
      refine hl_iload d91_106 rfl ?_
      refine hl_iadd d91_108 ?_
      obtain ⟨hb, h⟩ := hl_gd h
      refine hl_zald d91_109 sh76 (hl_b_in hb) ?_
      refine hl_if_eq (tg := 117) d91_110 rfl (fun hc => ?_) (fun hc => ?_)
      · have h := hl_pos hc h
        refine hl_iload d91_117 rfl ?_
        have h := Option.some.inj h
        subst h
        exact hl_iret d91_119 rfl
      · have h := hl_neg hc h
        refine hl_iload_n (i := 1) d91_113 rfl rfl ?_
        refine hl_goto (tg := 119) d91_114 rfl ?_
        have h := Option.some.inj h
        subst h
        exact hl_iret d91_119 rfl
    · have h := hl_pos hc h
      refine hl_iload_n (i := 1) d91_87 rfl rfl ?_
      have h := Option.some.inj h
      subst h
      exact hl_iret d91_88 rfl
set_option maxRecDepth 20000 in
theorem p_M_stepped_j25 {X : hl_X} (D : Nat) (v1 : Int32) (v2 : Int32) (s0 : Int32) (s1 : Int32) (σ : hl_M) {r : Int32} (h : f_M_stepped_j25 v1 v2 s0 s1 σ = some r) : hl_R X (D + 1) y91 25 [(0, .ref 64), (1, .int v1), (2, .int v2)] [.int s0, .int s1] σ (some (.int r)) σ := by
  unfold f_M_stepped_j25 at h
  refine hl_iadd d91_25 ?_
  refine hl_istore_n (i := 3) (ls2 := [(3, .int (s1 + s0)), (0, .ref 64), (1, .int v1), (2, .int v2)]) d91_26 rfl (by decide) rfl ?_
  refine hl_iload_n (i := 1) d91_27 rfl rfl ?_
  refine hl_aload_n (i := 0) d91_28 rfl rfl (by decide) ?_
  refine hl_gi d91_29 gM_307_64 ?_
  obtain ⟨hb, h⟩ := hl_gn h
  refine hl_idiv d91_32 hb ?_
  refine hl_iload_n (i := 2) d91_33 rfl rfl ?_
  refine hl_iconst d91_34 ki2 ?_
  refine hl_icmp_ne (tg := 42) d91_35 rfl (fun hc => ?_) (fun hc => ?_)
  · have h := hl_neg hc h
    refine hl_iload_n (i := 2) d91_42 rfl rfl ?_
    refine hl_if_ne (tg := 50) d91_43 rfl (fun hc => ?_) (fun hc => ?_)
    · have h := hl_neg hc h
      refine hl_iconst d91_50 ki0 ?_
      exact hl_loc (p_M_stepped_j51 D v1 (s1 + s0) 0 (v1 / (σ.1 64 30)) σ h) ⟨rfl, rfl, rfl, trivial⟩
    · have h := hl_pos hc h
      refine hl_iconst d91_46 kim1 ?_
      refine hl_goto (tg := 51) d91_47 rfl ?_
      exact hl_loc (p_M_stepped_j51 D v1 (s1 + s0) ((-1)) (v1 / (σ.1 64 30)) σ h) ⟨rfl, rfl, rfl, trivial⟩
  · have h := hl_pos hc h
    refine hl_iconst d91_38 ki1 ?_
    refine hl_goto (tg := 51) d91_39 rfl ?_
    exact hl_loc (p_M_stepped_j51 D v1 (s1 + s0) 1 (v1 / (σ.1 64 30)) σ h) ⟨rfl, rfl, rfl, trivial⟩
set_option maxRecDepth 20000 in
theorem p_M_stepped {X : hl_X} (D : Nat) (v1 : Int32) (v2 : Int32) (σ : hl_M) {r : Int32} (h : f_M_stepped v1 v2 σ = some r) : hl_R X (D + 1) y91 0 [(0, .ref 64), (1, .int v1), (2, .int v2)] [] σ (some (.int r)) σ := by
  unfold f_M_stepped at h
  refine hl_iload_n (i := 1) d91_0 rfl rfl ?_
  refine hl_aload_n (i := 0) d91_1 rfl rfl (by decide) ?_
  refine hl_gi d91_2 gM_307_64 ?_
  obtain ⟨hb, h⟩ := hl_gn h
  refine hl_irem d91_5 hb ?_
  refine hl_iload_n (i := 2) d91_6 rfl rfl ?_
  refine hl_iconst d91_7 ki1 ?_
  refine hl_icmp_ne (tg := 15) d91_8 rfl (fun hc => ?_) (fun hc => ?_)
  · have h := hl_neg hc h
    refine hl_iload_n (i := 2) d91_15 rfl rfl ?_
    refine hl_iconst d91_16 ki3 ?_
    refine hl_icmp_ne (tg := 24) d91_17 rfl (fun hc => ?_) (fun hc => ?_)
    · have h := hl_neg hc h
      refine hl_iconst d91_24 ki0 ?_
      exact hl_loc (p_M_stepped_j25 D v1 v2 0 (v1 - v1 / (σ.1 64 30) * (σ.1 64 30)) σ h) ⟨rfl, rfl, rfl, trivial⟩
    · have h := hl_pos hc h
      refine hl_iconst d91_20 kim1 ?_
      refine hl_goto (tg := 25) d91_21 rfl ?_
      exact hl_loc (p_M_stepped_j25 D v1 v2 ((-1)) (v1 - v1 / (σ.1 64 30) * (σ.1 64 30)) σ h) ⟨rfl, rfl, rfl, trivial⟩
  · have h := hl_pos hc h
    refine hl_iconst d91_11 ki1 ?_
    refine hl_goto (tg := 25) d91_12 rfl ?_
    exact hl_loc (p_M_stepped_j25 D v1 v2 1 (v1 - v1 / (σ.1 64 30) * (σ.1 64 30)) σ h) ⟨rfl, rfl, rfl, trivial⟩
def f_M_reaches_L2 (v1 : Int32) (s : Int32 × hl_M) : Option ((Int32 × hl_M) ⊕ (hl_M)) :=
  if 54 ≤ s.1 then
  some (.inr s.2) else
  if hl_b ((54 * v1) + s.1) 2916 then
  some (.inl ((s.1 + 1, hl_si s.2 81 ((54 * v1) + s.1).toNatClampNeg 1000))) else none
def f_M_reaches_L72 (v1 : Int32) (v3 : Int32) (s : Int32 × Int32 × hl_M) : Option ((Int32 × Int32 × hl_M) ⊕ (Int32 × hl_M)) :=
  if 4 ≤ s.2.1 then
  some (.inr (((s.1, s.2.2)))) else
  if hl_b v3 54 then
  (f_M_stepped (s.2.2.1 82 v3.toNatClampNeg) s.2.1 s.2.2).bind fun x2 =>
  if hl_b ((54 * v1) + x2) 2916 then
  if (s.2.2.1 81 ((54 * v1) + x2).toNatClampNeg) = 1000 then
  if hl_b v3 54 then
  if hl_b ((54 * v1) + (s.2.2.1 82 v3.toNatClampNeg)) 2916 then
  if hl_b ((54 * v1) + x2) 2916 then
  if hl_b s.1 54 then
  some (.inl ((s.1 + 1, s.2.1 + 1, hl_si (hl_si s.2.2 81 ((54 * v1) + x2).toNatClampNeg ((s.2.2.1 81 ((54 * v1) + (s.2.2.1 82 v3.toNatClampNeg)).toNatClampNeg) + 1)) 82 s.1.toNatClampNeg x2))) else none else none else none else none else
  some (.inl ((s.1, s.2.1 + 1, s.2.2))) else none else none
def f_M_reaches_L64 (v1 : Int32) (s : Int32 × Int32 × hl_M) : Option ((Int32 × Int32 × hl_M) ⊕ (hl_M)) :=
  if s.1 ≤ s.2.1 then
  some (.inr s.2.2) else
  (hl_lp (f_M_reaches_L72 v1 s.2.1) hl_big ((s.1, 0, s.2.2))).bind fun x3 =>
  some (.inl ((x3.1, s.2.1 + 1, x3.2)))
def f_M_reaches (v1 : Int32) (σ : hl_M) : Option (hl_M) :=
  (hl_lp (f_M_reaches_L2 v1) hl_big ((0, σ))).bind fun x1 =>
  if hl_b (54 + v1) 108 then
  if (x1.1 76 (54 + v1).toNatClampNeg) = 0 then
  if hl_b ((54 * v1) + v1) 2916 then
  if hl_b (0 : Int32) 54 then
  (hl_lp (f_M_reaches_L64 v1) hl_big ((1, 0, hl_si (hl_si x1 81 ((54 * v1) + v1).toNatClampNeg 0) 82 (0 : Int32).toNatClampNeg v1))).bind fun x4 =>
  some x4 else none else none else
  some x1 else none
set_option maxRecDepth 20000 in
theorem p_M_reaches_L2 {X : hl_X} (D : Nat) (v1 : Int32) (s : Int32 × hl_M) {o : (Int32 × hl_M) ⊕ (hl_M)} {v : Option Value} {τ : hl_M} (h : f_M_reaches_L2 v1 s = some o) (k1 : ∀ (c0 : Int32) (c1 : hl_M), o = .inl ((c0, c1)) → hl_R X (D + 2) y90 2 [(0, .ref 64), (1, .int v1), (2, .int c0)] [] c1 v τ) (k2 : ∀ (a0 : hl_M), o = .inr a0 → hl_R X (D + 2) y90 28 [(0, .ref 64), (1, .int v1)] [] a0 v τ) : hl_R X (D + 2) y90 2 [(0, .ref 64), (1, .int v1), (2, .int s.1)] [] s.2 v τ := by
  unfold f_M_reaches_L2 at h
  refine hl_iload_n (i := 2) d90_2 rfl rfl ?_
  refine hl_bipush d90_3 kb54 ?_
  refine hl_icmp_ge (tg := 28) d90_5 rfl (fun hc => ?_) (fun hc => ?_)
  · have h := hl_pos hc h
    have h := Option.some.inj h
    subst h
    exact hl_loc (k2 s.2 rfl) ⟨rfl, rfl, trivial⟩
  · have h := hl_neg hc h
    refine hl_aload_n (i := 0) d90_8 rfl rfl (by decide) ?_
    refine hl_gr d90_9 gM_65_64 ?_
    refine hl_bipush d90_12 kb54 ?_
    refine hl_iload_n (i := 1) d90_14 rfl rfl ?_
    refine hl_imul d90_15 ?_
    refine hl_iload_n (i := 2) d90_16 rfl rfl ?_
    refine hl_iadd d90_17 ?_
    refine hl_sipush d90_18 ks1000 ?_
    obtain ⟨hb, h⟩ := hl_gd h
    refine hl_iast (q := 81) d90_21 sh81 (hl_b_in hb) ?_
    refine hl_iinc (ls2 := [(2, .int (s.1 + 1)), (0, .ref 64), (1, .int v1)]) d90_22 rfl kx1 (by decide) rfl ?_
    refine hl_goto (tg := 2) d90_25 rfl ?_
    have h := Option.some.inj h
    subst h
    exact hl_loc (k1 (s.1 + 1) (hl_si s.2 81 ((54 * v1) + s.1).toNatClampNeg 1000) rfl) ⟨rfl, rfl, rfl, trivial⟩
set_option maxRecDepth 20000 in
theorem p_M_reaches_L72 {X : hl_X} (D : Nat) (v1 : Int32) (v3 : Int32) (s : Int32 × Int32 × hl_M) {o : (Int32 × Int32 × hl_M) ⊕ (Int32 × hl_M)} {v : Option Value} {τ : hl_M} (h : f_M_reaches_L72 v1 v3 s = some o) (k1 : ∀ (c0 : Int32) (c1 : Int32) (c2 : hl_M), o = .inl ((c0, c1, c2)) → hl_R X (D + 2) y90 72 [(0, .ref 64), (1, .int v1), (2, .int c0), (3, .int v3), (4, .int c1)] [] c2 v τ) (k2 : ∀ (a0 : Int32) (a1 : hl_M), o = .inr ((a0, a1)) → hl_R X (D + 2) y90 160 [(0, .ref 64), (1, .int v1), (2, .int a0), (3, .int v3)] [] a1 v τ) : hl_R X (D + 2) y90 72 [(0, .ref 64), (1, .int v1), (2, .int s.1), (3, .int v3), (4, .int s.2.1)] [] s.2.2 v τ := by
  unfold f_M_reaches_L72 at h
  refine hl_iload d90_72 rfl ?_
  refine hl_iconst d90_74 ki4 ?_
  refine hl_icmp_ge (tg := 160) d90_75 rfl (fun hc => ?_) (fun hc => ?_)
  · have h := hl_pos hc h
    have h := Option.some.inj h
    subst h
    exact hl_loc (k2 s.1 s.2.2 rfl) ⟨rfl, rfl, rfl, rfl, trivial⟩
  · have h := hl_neg hc h
    refine hl_aload_n (i := 0) d90_78 rfl rfl (by decide) ?_
    refine hl_aload_n (i := 0) d90_79 rfl rfl (by decide) ?_
    refine hl_gr d90_80 gM_68_64 ?_
    refine hl_iload_n (i := 3) d90_83 rfl rfl ?_
    obtain ⟨hb, h⟩ := hl_gd h
    refine hl_iald d90_84 sh82 (hl_b_in hb) ?_
    refine hl_iload d90_85 rfl ?_
    obtain ⟨x2, hx2, h⟩ := hl_bind h
    refine hl_cVi (D := (D + 1)) (z := y91) (n := 2) (av := [.int (s.2.2.1 82 v3.toNatClampNeg), .int s.2.1]) (st := []) d90_87 mlM_329 rfl (Nat.le_of_ble_eq_true rfl) (Nat.le_of_ble_eq_true rfl) rc64 ((p_M_stepped D (s.2.2.1 82 v3.toNatClampNeg) s.2.1 s.2.2 hx2).dle (by omega)) ?_
    refine hl_istore (ls2 := [(5, .int x2), (0, .ref 64), (1, .int v1), (2, .int s.1), (3, .int v3), (4, .int s.2.1)]) d90_90 (by decide) rfl ?_
    refine hl_aload_n (i := 0) d90_92 rfl rfl (by decide) ?_
    refine hl_gr d90_93 gM_65_64 ?_
    refine hl_bipush d90_96 kb54 ?_
    refine hl_iload_n (i := 1) d90_98 rfl rfl ?_
    refine hl_imul d90_99 ?_
    refine hl_iload d90_100 rfl ?_
    refine hl_iadd d90_102 ?_
    obtain ⟨hb, h⟩ := hl_gd h
    refine hl_iald d90_103 sh81 (hl_b_in hb) ?_
    refine hl_sipush d90_104 ks1000 ?_
    refine hl_icmp_eq (tg := 113) d90_107 rfl (fun hc => ?_) (fun hc => ?_)
    · have h := hl_pos hc h
      refine hl_aload_n (i := 0) d90_113 rfl rfl (by decide) ?_
      refine hl_gr d90_114 gM_65_64 ?_
      refine hl_bipush d90_117 kb54 ?_
      refine hl_iload_n (i := 1) d90_119 rfl rfl ?_
      refine hl_imul d90_120 ?_
      refine hl_iload d90_121 rfl ?_
      refine hl_iadd d90_123 ?_
      refine hl_aload_n (i := 0) d90_124 rfl rfl (by decide) ?_
      refine hl_gr d90_125 gM_65_64 ?_
      refine hl_bipush d90_128 kb54 ?_
      refine hl_iload_n (i := 1) d90_130 rfl rfl ?_
      refine hl_imul d90_131 ?_
      refine hl_aload_n (i := 0) d90_132 rfl rfl (by decide) ?_
      refine hl_gr d90_133 gM_68_64 ?_
      refine hl_iload_n (i := 3) d90_136 rfl rfl ?_
      obtain ⟨hb, h⟩ := hl_gd h
      refine hl_iald d90_137 sh82 (hl_b_in hb) ?_
      refine hl_iadd d90_138 ?_
      obtain ⟨hb, h⟩ := hl_gd h
      refine hl_iald d90_139 sh81 (hl_b_in hb) ?_
      refine hl_iconst d90_140 ki1 ?_
      refine hl_iadd d90_141 ?_
      obtain ⟨hb, h⟩ := hl_gd h
      refine hl_iast (q := 81) d90_142 sh81 (hl_b_in hb) ?_
      refine hl_aload_n (i := 0) d90_143 rfl rfl (by decide) ?_
      refine hl_gr d90_144 gM_68_64 ?_
      refine hl_iload_n (i := 2) d90_147 rfl rfl ?_
      refine hl_iload d90_148 rfl ?_
      obtain ⟨hb, h⟩ := hl_gd h
      refine hl_iast (q := 82) d90_150 sh82 (hl_b_in hb) ?_
      refine hl_iinc (ls2 := [(2, .int (s.1 + 1)), (5, .int x2), (0, .ref 64), (1, .int v1), (3, .int v3), (4, .int s.2.1)]) d90_151 rfl kx1 (by decide) rfl ?_
      refine hl_iinc (ls2 := [(4, .int (s.2.1 + 1)), (2, .int (s.1 + 1)), (5, .int x2), (0, .ref 64), (1, .int v1), (3, .int v3)]) d90_154 rfl kx1 (by decide) rfl ?_
      refine hl_goto (tg := 72) d90_157 rfl ?_
      have h := Option.some.inj h
      subst h
      exact hl_loc (k1 (s.1 + 1) (s.2.1 + 1) (hl_si (hl_si s.2.2 81 ((54 * v1) + x2).toNatClampNeg ((s.2.2.1 81 ((54 * v1) + (s.2.2.1 82 v3.toNatClampNeg)).toNatClampNeg) + 1)) 82 s.1.toNatClampNeg x2) rfl) ⟨rfl, rfl, rfl, rfl, rfl, trivial⟩
    · have h := hl_neg hc h
      refine hl_goto (tg := 154) d90_110 rfl ?_
      refine hl_iinc (ls2 := [(4, .int (s.2.1 + 1)), (5, .int x2), (0, .ref 64), (1, .int v1), (2, .int s.1), (3, .int v3)]) d90_154 rfl kx1 (by decide) rfl ?_
      refine hl_goto (tg := 72) d90_157 rfl ?_
      have h := Option.some.inj h
      subst h
      exact hl_loc (k1 s.1 (s.2.1 + 1) s.2.2 rfl) ⟨rfl, rfl, rfl, rfl, rfl, trivial⟩
set_option maxRecDepth 20000 in
theorem p_M_reaches_L64 {X : hl_X} (D : Nat) (v1 : Int32) (s : Int32 × Int32 × hl_M) {o : (Int32 × Int32 × hl_M) ⊕ (hl_M)} {v : Option Value} {τ : hl_M} (h : f_M_reaches_L64 v1 s = some o) (k1 : ∀ (c0 : Int32) (c1 : Int32) (c2 : hl_M), o = .inl ((c0, c1, c2)) → hl_R X (D + 2) y90 64 [(0, .ref 64), (1, .int v1), (2, .int c0), (3, .int c1)] [] c2 v τ) (k2 : ∀ (a0 : hl_M), o = .inr a0 → hl_R X (D + 2) y90 166 [] [] a0 v τ) : hl_R X (D + 2) y90 64 [(0, .ref 64), (1, .int v1), (2, .int s.1), (3, .int s.2.1)] [] s.2.2 v τ := by
  unfold f_M_reaches_L64 at h
  refine hl_iload_n (i := 3) d90_64 rfl rfl ?_
  refine hl_iload_n (i := 2) d90_65 rfl rfl ?_
  refine hl_icmp_ge (tg := 166) d90_66 rfl (fun hc => ?_) (fun hc => ?_)
  · have h := hl_pos hc h
    have h := Option.some.inj h
    subst h
    exact hl_loc (k2 s.2.2 rfl) trivial
  · have h := hl_neg hc h
    refine hl_iconst d90_69 ki0 ?_
    refine hl_istore (ls2 := [(4, .int 0), (0, .ref 64), (1, .int v1), (2, .int s.1), (3, .int s.2.1)]) d90_70 (by decide) rfl ?_
    obtain ⟨x3, hx3, h⟩ := hl_bind h
    refine hl_R.loc (ls' := [(0, .ref 64), (1, .int v1), (2, .int s.1), (3, .int s.2.1), (4, .int 0)]) ⟨rfl, rfl, rfl, rfl, rfl, trivial⟩ ?_
    refine hl_lp_run3 (P := fun (c0 : Int32) (c1 : Int32) (c2 : hl_M) => hl_R X (D + 2) y90 72 [(0, .ref 64), (1, .int v1), (2, .int c0), (3, .int s.2.1), (4, .int c1)] [] c2 v τ) (fun x : Int32 × hl_M => hl_R X (D + 2) y90 160 [(0, .ref 64), (1, .int v1), (2, .int x.1), (3, .int s.2.1)] [] x.2 v τ) (fun c0 c1 c2 o ho h1 h2 => p_M_reaches_L72 D v1 s.2.1 (c0, c1, c2) ho h1 (fun a0 a1 e => h2 ((a0, a1)) e)) hl_big s.1 0 s.2.2 x3 hx3 ?_
    refine hl_iinc (ls2 := [(3, .int (s.2.1 + 1)), (0, .ref 64), (1, .int v1), (2, .int x3.1)]) d90_160 rfl kx1 (by decide) rfl ?_
    refine hl_goto (tg := 64) d90_163 rfl ?_
    have h := Option.some.inj h
    subst h
    exact hl_loc (k1 x3.1 (s.2.1 + 1) x3.2 rfl) ⟨rfl, rfl, rfl, rfl, trivial⟩
set_option maxRecDepth 20000 in
theorem p_M_reaches {X : hl_X} (D : Nat) (v1 : Int32) (σ : hl_M) {τ : hl_M} (h : f_M_reaches v1 σ = some τ) : hl_R X (D + 2) y90 0 [(0, .ref 64), (1, .int v1)] [] σ none τ := by
  unfold f_M_reaches at h
  refine hl_iconst d90_0 ki0 ?_
  refine hl_istore_n (i := 2) (ls2 := [(2, .int 0), (0, .ref 64), (1, .int v1)]) d90_1 rfl (by decide) rfl ?_
  obtain ⟨x1, hx1, h⟩ := hl_bind h
  refine hl_R.loc (ls' := [(0, .ref 64), (1, .int v1), (2, .int 0)]) ⟨rfl, rfl, rfl, trivial⟩ ?_
  refine hl_lp_run2 (P := fun (c0 : Int32) (c1 : hl_M) => hl_R X (D + 2) y90 2 [(0, .ref 64), (1, .int v1), (2, .int c0)] [] c1 none τ) (fun x : hl_M => hl_R X (D + 2) y90 28 [(0, .ref 64), (1, .int v1)] [] x none τ) (fun c0 c1 o ho h1 h2 => p_M_reaches_L2 D v1 (c0, c1) ho h1 (fun a0 e => h2 a0 e)) hl_big 0 σ x1 hx1 ?_
  refine hl_aload_n (i := 0) d90_28 rfl rfl (by decide) ?_
  refine hl_gr d90_29 gM_48_64 ?_
  refine hl_bipush d90_32 kb54 ?_
  refine hl_iload_n (i := 1) d90_34 rfl rfl ?_
  refine hl_iadd d90_35 ?_
  obtain ⟨hb, h⟩ := hl_gd h
  refine hl_zald d90_36 sh76 (hl_b_in hb) ?_
  refine hl_if_eq (tg := 41) d90_37 rfl (fun hc => ?_) (fun hc => ?_)
  · have h := hl_pos hc h
    refine hl_aload_n (i := 0) d90_41 rfl rfl (by decide) ?_
    refine hl_gr d90_42 gM_65_64 ?_
    refine hl_bipush d90_45 kb54 ?_
    refine hl_iload_n (i := 1) d90_47 rfl rfl ?_
    refine hl_imul d90_48 ?_
    refine hl_iload_n (i := 1) d90_49 rfl rfl ?_
    refine hl_iadd d90_50 ?_
    refine hl_iconst d90_51 ki0 ?_
    obtain ⟨hb, h⟩ := hl_gd h
    refine hl_iast (q := 81) d90_52 sh81 (hl_b_in hb) ?_
    refine hl_aload_n (i := 0) d90_53 rfl rfl (by decide) ?_
    refine hl_gr d90_54 gM_68_64 ?_
    refine hl_iconst d90_57 ki0 ?_
    refine hl_iload_n (i := 1) d90_58 rfl rfl ?_
    obtain ⟨hb, h⟩ := hl_gd h
    refine hl_iast (q := 82) d90_59 sh82 (hl_b_in hb) ?_
    refine hl_iconst d90_60 ki1 ?_
    refine hl_istore_n (i := 2) (ls2 := [(2, .int 1), (0, .ref 64), (1, .int v1)]) d90_61 rfl (by decide) rfl ?_
    refine hl_iconst d90_62 ki0 ?_
    refine hl_istore_n (i := 3) (ls2 := [(3, .int 0), (2, .int 1), (0, .ref 64), (1, .int v1)]) d90_63 rfl (by decide) rfl ?_
    obtain ⟨x4, hx4, h⟩ := hl_bind h
    refine hl_R.loc (ls' := [(0, .ref 64), (1, .int v1), (2, .int 1), (3, .int 0)]) ⟨rfl, rfl, rfl, rfl, trivial⟩ ?_
    refine hl_lp_run3 (P := fun (c0 : Int32) (c1 : Int32) (c2 : hl_M) => hl_R X (D + 2) y90 64 [(0, .ref 64), (1, .int v1), (2, .int c0), (3, .int c1)] [] c2 none τ) (fun x : hl_M => hl_R X (D + 2) y90 166 [] [] x none τ) (fun c0 c1 c2 o ho h1 h2 => p_M_reaches_L64 D v1 (c0, c1, c2) ho h1 (fun a0 e => h2 a0 e)) hl_big 1 0 (hl_si (hl_si x1 81 ((54 * v1) + v1).toNatClampNeg 0) 82 (0 : Int32).toNatClampNeg v1) x4 hx4 ?_
    have h := Option.some.inj h
    subst h
    exact hl_vret d90_166 rfl
  · have h := hl_neg hc h
    have h := Option.some.inj h
    subst h
    exact hl_vret d90_40 rfl
def f_M_personMany (σ : hl_M) : Option (Int32) :=
  if hl_b (3 : Int32) 6 then
  some (σ.1 75 (3 : Int32).toNatClampNeg) else none
set_option maxRecDepth 20000 in
theorem p_M_personMany {X : hl_X} (D : Nat) (σ : hl_M) {r : Int32} (h : f_M_personMany σ = some r) : hl_R X D y93 0 [(0, .ref 64)] [] σ (some (.int r)) σ := by
  unfold f_M_personMany at h
  refine hl_aload_n (i := 0) d93_0 rfl rfl (by decide) ?_
  refine hl_gr d93_1 gM_45_64 ?_
  refine hl_iconst d93_4 ki3 ?_
  obtain ⟨hb, h⟩ := hl_gd h
  refine hl_iald d93_5 sh75 (hl_b_in hb) ?_
  have h := Option.some.inj h
  subst h
  exact hl_iret d93_6 rfl
def f_M_stepMany (v1 : Int32) (σ : hl_M) : Option (Int32) :=
  if hl_b (152 + (15 * v1)) 300 then
  some (σ.1 78 (152 + (15 * v1)).toNatClampNeg) else none
set_option maxRecDepth 20000 in
theorem p_M_stepMany {X : hl_X} (D : Nat) (v1 : Int32) (σ : hl_M) {r : Int32} (h : f_M_stepMany v1 σ = some r) : hl_R X D y95 0 [(0, .ref 64), (1, .int v1)] [] σ (some (.int r)) σ := by
  unfold f_M_stepMany at h
  refine hl_aload_n (i := 0) d95_0 rfl rfl (by decide) ?_
  refine hl_gr d95_1 gM_56_64 ?_
  refine hl_sipush d95_4 ks152 ?_
  refine hl_bipush d95_7 kb15 ?_
  refine hl_iload_n (i := 1) d95_9 rfl rfl ?_
  refine hl_imul d95_10 ?_
  refine hl_iadd d95_11 ?_
  obtain ⟨hb, h⟩ := hl_gd h
  refine hl_iald d95_12 sh78 (hl_b_in hb) ?_
  have h := Option.some.inj h
  subst h
  exact hl_iret d95_13 rfl
def f_M_stepIn (v1 : Int32) (v2 : Int32) (σ : hl_M) : Option (Int32) :=
  (f_M_stepMany v1 σ).bind fun x1 =>
  if x1 = 0 then none else
  if hl_b ((153 + (15 * v1)) + ((v2 - 1) - (v2 - 1) / x1 * x1)) 300 then
  some (σ.1 78 ((153 + (15 * v1)) + ((v2 - 1) - (v2 - 1) / x1 * x1)).toNatClampNeg) else none
set_option maxRecDepth 20000 in
theorem p_M_stepIn {X : hl_X} (D : Nat) (v1 : Int32) (v2 : Int32) (σ : hl_M) {r : Int32} (h : f_M_stepIn v1 v2 σ = some r) : hl_R X (D + 1) y94 0 [(0, .ref 64), (1, .int v1), (2, .int v2)] [] σ (some (.int r)) σ := by
  unfold f_M_stepIn at h
  refine hl_aload_n (i := 0) d94_0 rfl rfl (by decide) ?_
  refine hl_gr d94_1 gM_56_64 ?_
  refine hl_sipush d94_4 ks153 ?_
  refine hl_bipush d94_7 kb15 ?_
  refine hl_iload_n (i := 1) d94_9 rfl rfl ?_
  refine hl_imul d94_10 ?_
  refine hl_iadd d94_11 ?_
  refine hl_iload_n (i := 2) d94_12 rfl rfl ?_
  refine hl_iconst d94_13 ki1 ?_
  refine hl_isub d94_14 ?_
  refine hl_aload_n (i := 0) d94_15 rfl rfl (by decide) ?_
  refine hl_iload_n (i := 1) d94_16 rfl rfl ?_
  obtain ⟨x1, hx1, h⟩ := hl_bind h
  refine hl_cVi (D := D) (z := y95) (n := 1) (av := [.int v1]) (st := [.int (v2 - 1), .int (153 + (15 * v1)), .ref 78]) d94_17 mlM_343 rfl (Nat.le_of_ble_eq_true rfl) (Nat.le_of_ble_eq_true rfl) rc64 ((p_M_stepMany D v1 σ hx1).dle (by omega)) ?_
  obtain ⟨hb, h⟩ := hl_gn h
  refine hl_irem d94_20 hb ?_
  refine hl_iadd d94_21 ?_
  obtain ⟨hb, h⟩ := hl_gd h
  refine hl_iald d94_22 sh78 (hl_b_in hb) ?_
  have h := Option.some.inj h
  subst h
  exact hl_iret d94_23 rfl
def f_M_walks_L34 (v1 : Int32) (s : Int32 × hl_M) : Option ((Int32 × hl_M) ⊕ (hl_M)) :=
  if 100 ≤ s.1 then
  some (.inr s.2) else
  if hl_b (((100 * v1) + s.1) - 1) 1000 then
  (f_M_stepIn v1 s.1 s.2).bind fun x2 =>
  (f_M_stepped (s.2.1 83 (((100 * v1) + s.1) - 1).toNatClampNeg) x2 s.2).bind fun x3 =>
  if hl_b ((100 * v1) + s.1) 1000 then
  some (.inl ((s.1 + 1, hl_si s.2 83 ((100 * v1) + s.1).toNatClampNeg x3))) else none else none
def f_M_walks_L2 (s : Int32 × hl_M) : Option ((Int32 × hl_M) ⊕ (hl_M)) :=
  (f_M_personMany s.2).bind fun x1 =>
  if x1 ≤ s.1 then
  some (.inr s.2) else
  if hl_b (150 + (15 * s.1)) 300 then
  if hl_b (100 * s.1) 1000 then
  (hl_lp (f_M_walks_L34 s.1) hl_big ((1, hl_si s.2 83 (100 * s.1).toNatClampNeg (s.2.1 78 (150 + (15 * s.1)).toNatClampNeg)))).bind fun x4 =>
  some (.inl ((s.1 + 1, x4))) else none else none
def f_M_walks (σ : hl_M) : Option (hl_M) :=
  (hl_lp (f_M_walks_L2) hl_big ((0, σ))).bind fun x5 =>
  some x5
set_option maxRecDepth 20000 in
theorem p_M_walks_L34 {X : hl_X} (D : Nat) (v1 : Int32) (s : Int32 × hl_M) {o : (Int32 × hl_M) ⊕ (hl_M)} {v : Option Value} {τ : hl_M} (h : f_M_walks_L34 v1 s = some o) (k1 : ∀ (c0 : Int32) (c1 : hl_M), o = .inl ((c0, c1)) → hl_R X (D + 2) y92 34 [(0, .ref 64), (1, .int v1), (2, .int c0)] [] c1 v τ) (k2 : ∀ (a0 : hl_M), o = .inr a0 → hl_R X (D + 2) y92 80 [(0, .ref 64), (1, .int v1)] [] a0 v τ) : hl_R X (D + 2) y92 34 [(0, .ref 64), (1, .int v1), (2, .int s.1)] [] s.2 v τ := by
  unfold f_M_walks_L34 at h
  refine hl_iload_n (i := 2) d92_34 rfl rfl ?_
  refine hl_bipush d92_35 kb100 ?_
  refine hl_icmp_ge (tg := 80) d92_37 rfl (fun hc => ?_) (fun hc => ?_)
  · have h := hl_pos hc h
    have h := Option.some.inj h
    subst h
    exact hl_loc (k2 s.2 rfl) ⟨rfl, rfl, trivial⟩
  · have h := hl_neg hc h
    refine hl_aload_n (i := 0) d92_40 rfl rfl (by decide) ?_
    refine hl_gr d92_41 gM_71_64 ?_
    refine hl_bipush d92_44 kb100 ?_
    refine hl_iload_n (i := 1) d92_46 rfl rfl ?_
    refine hl_imul d92_47 ?_
    refine hl_iload_n (i := 2) d92_48 rfl rfl ?_
    refine hl_iadd d92_49 ?_
    refine hl_aload_n (i := 0) d92_50 rfl rfl (by decide) ?_
    refine hl_aload_n (i := 0) d92_51 rfl rfl (by decide) ?_
    refine hl_gr d92_52 gM_71_64 ?_
    refine hl_bipush d92_55 kb100 ?_
    refine hl_iload_n (i := 1) d92_57 rfl rfl ?_
    refine hl_imul d92_58 ?_
    refine hl_iload_n (i := 2) d92_59 rfl rfl ?_
    refine hl_iadd d92_60 ?_
    refine hl_iconst d92_61 ki1 ?_
    refine hl_isub d92_62 ?_
    obtain ⟨hb, h⟩ := hl_gd h
    refine hl_iald d92_63 sh83 (hl_b_in hb) ?_
    refine hl_aload_n (i := 0) d92_64 rfl rfl (by decide) ?_
    refine hl_iload_n (i := 1) d92_65 rfl rfl ?_
    refine hl_iload_n (i := 2) d92_66 rfl rfl ?_
    obtain ⟨x2, hx2, h⟩ := hl_bind h
    refine hl_cVi (D := (D + 1)) (z := y94) (n := 2) (av := [.int v1, .int s.1]) (st := [.int (s.2.1 83 (((100 * v1) + s.1) - 1).toNatClampNeg), .ref 64, .int ((100 * v1) + s.1), .ref 83]) d92_67 mlM_346 rfl (Nat.le_of_ble_eq_true rfl) (Nat.le_of_ble_eq_true rfl) rc64 ((p_M_stepIn D v1 s.1 s.2 hx2).dle (by omega)) ?_
    obtain ⟨x3, hx3, h⟩ := hl_bind h
    refine hl_cVi (D := (D + 1)) (z := y91) (n := 2) (av := [.int (s.2.1 83 (((100 * v1) + s.1) - 1).toNatClampNeg), .int x2]) (st := [.int ((100 * v1) + s.1), .ref 83]) d92_70 mlM_329 rfl (Nat.le_of_ble_eq_true rfl) (Nat.le_of_ble_eq_true rfl) rc64 ((p_M_stepped D (s.2.1 83 (((100 * v1) + s.1) - 1).toNatClampNeg) x2 s.2 hx3).dle (by omega)) ?_
    obtain ⟨hb, h⟩ := hl_gd h
    refine hl_iast (q := 83) d92_73 sh83 (hl_b_in hb) ?_
    refine hl_iinc (ls2 := [(2, .int (s.1 + 1)), (0, .ref 64), (1, .int v1)]) d92_74 rfl kx1 (by decide) rfl ?_
    refine hl_goto (tg := 34) d92_77 rfl ?_
    have h := Option.some.inj h
    subst h
    exact hl_loc (k1 (s.1 + 1) (hl_si s.2 83 ((100 * v1) + s.1).toNatClampNeg x3) rfl) ⟨rfl, rfl, rfl, trivial⟩
set_option maxRecDepth 20000 in
theorem p_M_walks_L2 {X : hl_X} (D : Nat) (s : Int32 × hl_M) {o : (Int32 × hl_M) ⊕ (hl_M)} {v : Option Value} {τ : hl_M} (h : f_M_walks_L2 s = some o) (k1 : ∀ (c0 : Int32) (c1 : hl_M), o = .inl ((c0, c1)) → hl_R X (D + 2) y92 2 [(0, .ref 64), (1, .int c0)] [] c1 v τ) (k2 : ∀ (a0 : hl_M), o = .inr a0 → hl_R X (D + 2) y92 86 [] [] a0 v τ) : hl_R X (D + 2) y92 2 [(0, .ref 64), (1, .int s.1)] [] s.2 v τ := by
  unfold f_M_walks_L2 at h
  refine hl_iload_n (i := 1) d92_2 rfl rfl ?_
  refine hl_aload_n (i := 0) d92_3 rfl rfl (by decide) ?_
  obtain ⟨x1, hx1, h⟩ := hl_bind h
  refine hl_cVi (D := (D + 1)) (z := y93) (n := 0) (av := []) (st := [.int s.1]) d92_4 mlM_335 rfl (Nat.le_of_ble_eq_true rfl) (Nat.le_of_ble_eq_true rfl) rc64 ((p_M_personMany D s.2 hx1).dle (by omega)) ?_
  refine hl_icmp_ge (tg := 86) d92_7 rfl (fun hc => ?_) (fun hc => ?_)
  · have h := hl_pos hc h
    have h := Option.some.inj h
    subst h
    exact hl_loc (k2 s.2 rfl) trivial
  · have h := hl_neg hc h
    refine hl_aload_n (i := 0) d92_10 rfl rfl (by decide) ?_
    refine hl_gr d92_11 gM_71_64 ?_
    refine hl_bipush d92_14 kb100 ?_
    refine hl_iload_n (i := 1) d92_16 rfl rfl ?_
    refine hl_imul d92_17 ?_
    refine hl_aload_n (i := 0) d92_18 rfl rfl (by decide) ?_
    refine hl_gr d92_19 gM_56_64 ?_
    refine hl_sipush d92_22 ks150 ?_
    refine hl_bipush d92_25 kb15 ?_
    refine hl_iload_n (i := 1) d92_27 rfl rfl ?_
    refine hl_imul d92_28 ?_
    refine hl_iadd d92_29 ?_
    obtain ⟨hb, h⟩ := hl_gd h
    refine hl_iald d92_30 sh78 (hl_b_in hb) ?_
    obtain ⟨hb, h⟩ := hl_gd h
    refine hl_iast (q := 83) d92_31 sh83 (hl_b_in hb) ?_
    refine hl_iconst d92_32 ki1 ?_
    refine hl_istore_n (i := 2) (ls2 := [(2, .int 1), (0, .ref 64), (1, .int s.1)]) d92_33 rfl (by decide) rfl ?_
    obtain ⟨x4, hx4, h⟩ := hl_bind h
    refine hl_R.loc (ls' := [(0, .ref 64), (1, .int s.1), (2, .int 1)]) ⟨rfl, rfl, rfl, trivial⟩ ?_
    refine hl_lp_run2 (P := fun (c0 : Int32) (c1 : hl_M) => hl_R X (D + 2) y92 34 [(0, .ref 64), (1, .int s.1), (2, .int c0)] [] c1 v τ) (fun x : hl_M => hl_R X (D + 2) y92 80 [(0, .ref 64), (1, .int s.1)] [] x v τ) (fun c0 c1 o ho h1 h2 => p_M_walks_L34 D s.1 (c0, c1) ho h1 (fun a0 e => h2 a0 e)) hl_big 1 (hl_si s.2 83 (100 * s.1).toNatClampNeg (s.2.1 78 (150 + (15 * s.1)).toNatClampNeg)) x4 hx4 ?_
    refine hl_iinc (ls2 := [(1, .int (s.1 + 1)), (0, .ref 64)]) d92_80 rfl kx1 (by decide) rfl ?_
    refine hl_goto (tg := 2) d92_83 rfl ?_
    have h := Option.some.inj h
    subst h
    exact hl_loc (k1 (s.1 + 1) x4 rfl) ⟨rfl, rfl, trivial⟩
set_option maxRecDepth 20000 in
theorem p_M_walks {X : hl_X} (D : Nat) (σ : hl_M) {τ : hl_M} (h : f_M_walks σ = some τ) : hl_R X (D + 2) y92 0 [(0, .ref 64)] [] σ none τ := by
  unfold f_M_walks at h
  refine hl_iconst d92_0 ki0 ?_
  refine hl_istore_n (i := 1) (ls2 := [(1, .int 0), (0, .ref 64)]) d92_1 rfl (by decide) rfl ?_
  obtain ⟨x5, hx5, h⟩ := hl_bind h
  refine hl_R.loc (ls' := [(0, .ref 64), (1, .int 0)]) ⟨rfl, rfl, trivial⟩ ?_
  refine hl_lp_run2 (P := fun (c0 : Int32) (c1 : hl_M) => hl_R X (D + 2) y92 2 [(0, .ref 64), (1, .int c0)] [] c1 none τ) (fun x : hl_M => hl_R X (D + 2) y92 86 [] [] x none τ) (fun c0 c1 o ho h1 h2 => p_M_walks_L2 D (c0, c1) ho h1 (fun a0 e => h2 a0 e)) hl_big 0 σ x5 hx5 ?_
  have h := Option.some.inj h
  subst h
  exact hl_vret d92_86 rfl
