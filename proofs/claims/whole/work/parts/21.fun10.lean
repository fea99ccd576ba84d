def f_M_qPartTold_j143 (v1 : Int32) (σ : hl_M) : Option ((Int32 × hl_M) ⊕ (hl_M)) :=
  (f_M_asksSign 40 σ).bind fun x6 =>
  some (.inl ((v1, x6)))
def f_M_qPartTold_j138 (v1 : Int32) (v5 : Int32) (s0 : Int32) (σ : hl_M) : Option ((Int32 × hl_M) ⊕ (hl_M)) :=
  (f_M_qOpens s0 v5 σ).bind fun x7 =>
  f_M_qPartTold_j143 v1 x7
def f_M_qPartTold_j117 (v1 : Int32) (v4 : Int32) (s0 : Int32) (σ : hl_M) : Option ((Int32 × hl_M) ⊕ (hl_M)) :=
  if s0 = ((-1)) then
  f_M_qPartTold_j143 v1 σ else
  if v4 = 0 then
  f_M_qPartTold_j138 v1 s0 22 σ else
  f_M_qPartTold_j138 v1 s0 21 σ
def f_M_qPartTold_j100 (v1 : Int32) (v4 : Int32) (σ : hl_M) : Option ((Int32 × hl_M) ⊕ (hl_M)) :=
  (f_M_look σ).bind fun x5 =>
  if x5.1 = 40 then
  f_M_qPartTold_j117 v1 v4 (x5.2.1 64 2) x5.2 else
  f_M_qPartTold_j117 v1 v4 ((-1)) x5.2
def f_M_qPartTold_j77 (v1 : Int32) (σ : hl_M) : Option ((Int32 × hl_M) ⊕ (hl_M)) :=
  (f_M_takes 101 σ).bind fun x4 =>
  if x4.1 = 0 then
  (f_M_asks 102 x4.2).bind fun x8 =>
  f_M_qPartTold_j100 v1 x4.1 x8 else
  f_M_qPartTold_j100 v1 x4.1 x4.2
def f_M_qPartTold_L2 (s : Int32 × hl_M) : Option ((Int32 × hl_M) ⊕ (hl_M)) :=
  if s.1 = 0 then
  some (.inr s.2) else
  if (s.2.1 64 5) = 0 then
  (f_M_look s.2).bind fun x1 =>
  (f_M_qWordOf 4 7 x1.2).bind fun x2 =>
  if x1.1 = 40 then
  (f_M_qOpens 20 (x2.2.1 64 2) x2.2).bind fun x12 =>
  some (.inl ((s.1, hl_si x12 64 2 ((x12.1 64 2) + 1)))) else
  (f_M_isHere 101 x2.2).bind fun x3 =>
  if x3.1 = 0 then
  (f_M_isHere 102 x3.2).bind fun x9 =>
  if x9.1 = 0 then
  if x2.1 = ((-1)) then
  some (.inl ((0, x9.2))) else
  (f_M_qOpens ((60 + x2.1) - 4) (x9.2.1 64 2) x9.2).bind fun x10 =>
  (f_M_qAsksWord x2.1 x10).bind fun x11 =>
  some (.inl ((s.1, x11))) else
  f_M_qPartTold_j77 s.1 x9.2 else
  f_M_qPartTold_j77 s.1 x3.2 else
  some (.inr s.2)
def f_M_qPartTold_j234 (s0 : Int32) (σ : hl_M) : Option (hl_M) :=
  (f_M_qCode s0 σ).bind fun x16 =>
  (f_M_qEndsPart x16).bind fun x17 =>
  some x17
def f_M_qPartTold_j209 (v2 : Int32) (σ : hl_M) : Option (hl_M) :=
  if v2 = ((-1)) then
  (f_M_number 0 9999 σ).bind fun x15 =>
  f_M_qPartTold_j234 (1000 + x15.1) x15.2 else
  f_M_qPartTold_j234 (40 + v2) σ
def f_M_qPartTold (σ : hl_M) : Option (hl_M) :=
  (hl_lp (f_M_qPartTold_L2) hl_big ((1, σ))).bind fun x13 =>
  if (x13.1 64 5) = 0 then
  (f_M_qWordOf 0 4 x13).bind fun x14 =>
  if x14.1 = ((-1)) then
  f_M_qPartTold_j209 x14.1 x14.2 else
  (f_M_qAsksWord x14.1 x14.2).bind fun x18 =>
  f_M_qPartTold_j209 x14.1 x18 else
  some x13
set_option maxRecDepth 20000 in
theorem p_M_qPartTold_j143 {X : hl_X} (D : Nat) (v1 : Int32) (σ : hl_M) {o : (Int32 × hl_M) ⊕ (hl_M)} {v : Option Value} {τ : hl_M} (h : f_M_qPartTold_j143 v1 σ = some o) (k1 : ∀ (c0 : Int32) (c1 : hl_M), o = .inl ((c0, c1)) → hl_R X (D + 5) y264 2 [(0, .ref 64), (1, .int c0)] [] c1 v τ) (k2 : ∀ (a0 : hl_M), o = .inr a0 → hl_R X (D + 5) y264 184 [(0, .ref 64)] [] a0 v τ) : hl_R X (D + 5) y264 143 [(0, .ref 64), (1, .int v1)] [] σ v τ := by
  unfold f_M_qPartTold_j143 at h
  refine hl_aload_n (i := 0) d264_143 rfl rfl (by decide) ?_
  refine hl_bipush d264_144 kb40 ?_
  obtain ⟨x6, hx6, h⟩ := hl_bind h
  refine hl_cVv (D := (D + 4)) (z := y71) (n := 1) (av := [.int 40]) (st := []) d264_146 mlM_295 rfl (Nat.le_of_ble_eq_true rfl) (Nat.le_of_ble_eq_true rfl) rc64 ((p_M_asksSign D 40 σ hx6).dle (by omega)) ?_
  refine hl_goto (tg := 181) d264_149 rfl ?_
  refine hl_goto (tg := 2) d264_181 rfl ?_
  have h := Option.some.inj h
  subst h
  exact hl_loc (k1 v1 x6 rfl) ⟨rfl, rfl, trivial⟩
set_option maxRecDepth 20000 in
theorem p_M_qPartTold_j138 {X : hl_X} (D : Nat) (v1 : Int32) (v5 : Int32) (s0 : Int32) (σ : hl_M) {o : (Int32 × hl_M) ⊕ (hl_M)} {v : Option Value} {τ : hl_M} (h : f_M_qPartTold_j138 v1 v5 s0 σ = some o) (k1 : ∀ (c0 : Int32) (c1 : hl_M), o = .inl ((c0, c1)) → hl_R X (D + 5) y264 2 [(0, .ref 64), (1, .int c0)] [] c1 v τ) (k2 : ∀ (a0 : hl_M), o = .inr a0 → hl_R X (D + 5) y264 184 [(0, .ref 64)] [] a0 v τ) : hl_R X (D + 5) y264 138 [(0, .ref 64), (1, .int v1), (5, .int v5)] [.int s0, .ref 64] σ v τ := by
  unfold f_M_qPartTold_j138 at h
  refine hl_iload d264_138 rfl ?_
  obtain ⟨x7, hx7, h⟩ := hl_bind h
  refine hl_cVv (D := (D + 4)) (z := y267) (n := 2) (av := [.int s0, .int v5]) (st := []) d264_140 mlM_503 rfl (Nat.le_of_ble_eq_true rfl) (Nat.le_of_ble_eq_true rfl) rc64 ((p_M_qOpens D s0 v5 σ hx7).dle (by omega)) ?_
  exact hl_loc (p_M_qPartTold_j143 D v1 x7 h k1 k2) ⟨rfl, rfl, trivial⟩
set_option maxRecDepth 20000 in
theorem p_M_qPartTold_j117 {X : hl_X} (D : Nat) (v1 : Int32) (v4 : Int32) (s0 : Int32) (σ : hl_M) {o : (Int32 × hl_M) ⊕ (hl_M)} {v : Option Value} {τ : hl_M} (h : f_M_qPartTold_j117 v1 v4 s0 σ = some o) (k1 : ∀ (c0 : Int32) (c1 : hl_M), o = .inl ((c0, c1)) → hl_R X (D + 5) y264 2 [(0, .ref 64), (1, .int c0)] [] c1 v τ) (k2 : ∀ (a0 : hl_M), o = .inr a0 → hl_R X (D + 5) y264 184 [(0, .ref 64)] [] a0 v τ) : hl_R X (D + 5) y264 117 [(0, .ref 64), (1, .int v1), (4, .int v4)] [.int s0] σ v τ := by
  unfold f_M_qPartTold_j117 at h
  refine hl_istore (ls2 := [(5, .int s0), (0, .ref 64), (1, .int v1), (4, .int v4)]) d264_117 (by decide) rfl ?_
  refine hl_iload d264_119 rfl ?_
  refine hl_iconst d264_121 kim1 ?_
  refine hl_icmp_eq (tg := 143) d264_122 rfl (fun hc => ?_) (fun hc => ?_)
  · have h := hl_pos hc h
    exact hl_loc (p_M_qPartTold_j143 D v1 σ h k1 k2) ⟨rfl, rfl, trivial⟩
  · have h := hl_neg hc h
    refine hl_aload_n (i := 0) d264_125 rfl rfl (by decide) ?_
    refine hl_iload d264_126 rfl ?_
    refine hl_if_eq (tg := 136) d264_128 rfl (fun hc => ?_) (fun hc => ?_)
    · have h := hl_pos hc h
      refine hl_bipush d264_136 kb22 ?_
      exact hl_loc (p_M_qPartTold_j138 D v1 s0 22 σ h k1 k2) ⟨rfl, rfl, rfl, trivial⟩
    · have h := hl_neg hc h
      refine hl_bipush d264_131 kb21 ?_
      refine hl_goto (tg := 138) d264_133 rfl ?_
      exact hl_loc (p_M_qPartTold_j138 D v1 s0 21 σ h k1 k2) ⟨rfl, rfl, rfl, trivial⟩
set_option maxRecDepth 20000 in
theorem p_M_qPartTold_j100 {X : hl_X} (D : Nat) (v1 : Int32) (v4 : Int32) (σ : hl_M) {o : (Int32 × hl_M) ⊕ (hl_M)} {v : Option Value} {τ : hl_M} (h : f_M_qPartTold_j100 v1 v4 σ = some o) (k1 : ∀ (c0 : Int32) (c1 : hl_M), o = .inl ((c0, c1)) → hl_R X (D + 5) y264 2 [(0, .ref 64), (1, .int c0)] [] c1 v τ) (k2 : ∀ (a0 : hl_M), o = .inr a0 → hl_R X (D + 5) y264 184 [(0, .ref 64)] [] a0 v τ) : hl_R X (D + 5) y264 100 [(0, .ref 64), (1, .int v1), (4, .int v4)] [] σ v τ := by
  unfold f_M_qPartTold_j100 at h
  refine hl_aload_n (i := 0) d264_100 rfl rfl (by decide) ?_
  obtain ⟨x5, hx5, h⟩ := hl_bind h
  refine hl_cVi (D := (D + 4)) (z := y65) (n := 0) (av := []) (st := []) d264_101 mlM_185 rfl (Nat.le_of_ble_eq_true rfl) (Nat.le_of_ble_eq_true rfl) rc64 ((p_M_look D σ hx5).dle (by omega)) ?_
  refine hl_bipush d264_104 kb40 ?_
  refine hl_icmp_ne (tg := 116) d264_106 rfl (fun hc => ?_) (fun hc => ?_)
  · have h := hl_neg hc h
    refine hl_iconst d264_116 kim1 ?_
    exact hl_loc (p_M_qPartTold_j117 D v1 v4 ((-1)) x5.2 h k1 k2) ⟨rfl, rfl, rfl, trivial⟩
  · have h := hl_pos hc h
    refine hl_aload_n (i := 0) d264_109 rfl rfl (by decide) ?_
    refine hl_gi d264_110 gM_179_64 ?_
    refine hl_goto (tg := 117) d264_113 rfl ?_
    exact hl_loc (p_M_qPartTold_j117 D v1 v4 (x5.2.1 64 2) x5.2 h k1 k2) ⟨rfl, rfl, rfl, trivial⟩
set_option maxRecDepth 20000 in
theorem p_M_qPartTold_j77 {X : hl_X} (D : Nat) (v1 : Int32) (σ : hl_M) {o : (Int32 × hl_M) ⊕ (hl_M)} {v : Option Value} {τ : hl_M} (h : f_M_qPartTold_j77 v1 σ = some o) (k1 : ∀ (c0 : Int32) (c1 : hl_M), o = .inl ((c0, c1)) → hl_R X (D + 5) y264 2 [(0, .ref 64), (1, .int c0)] [] c1 v τ) (k2 : ∀ (a0 : hl_M), o = .inr a0 → hl_R X (D + 5) y264 184 [(0, .ref 64)] [] a0 v τ) : hl_R X (D + 5) y264 77 [(0, .ref 64), (1, .int v1)] [] σ v τ := by
  unfold f_M_qPartTold_j77 at h
  refine hl_aload_n (i := 0) d264_77 rfl rfl (by decide) ?_
  refine hl_aload_n (i := 0) d264_78 rfl rfl (by decide) ?_
  refine hl_gr d264_79 gM_131_64 ?_
  obtain ⟨x4, hx4, h⟩ := hl_bind h
  refine hl_cVi (D := (D + 4)) (z := y63) (n := 1) (av := [.ref 101]) (st := []) d264_82 mlM_200 rfl (Nat.le_of_ble_eq_true rfl) (Nat.le_of_ble_eq_true rfl) rc64 ((p_M_takes D 101 (by decide) σ hx4).dle (by omega)) ?_
  refine hl_istore (ls2 := [(4, .int x4.1), (0, .ref 64), (1, .int v1)]) d264_85 (by decide) rfl ?_
  refine hl_iload d264_87 rfl ?_
  refine hl_if_ne (tg := 100) d264_89 rfl (fun hc => ?_) (fun hc => ?_)
  · have h := hl_neg hc h
    exact hl_loc (p_M_qPartTold_j100 D v1 x4.1 x4.2 h k1 k2) ⟨rfl, rfl, rfl, trivial⟩
  · have h := hl_pos hc h
    refine hl_aload_n (i := 0) d264_92 rfl rfl (by decide) ?_
    refine hl_aload_n (i := 0) d264_93 rfl rfl (by decide) ?_
    refine hl_gr d264_94 gM_134_64 ?_
    obtain ⟨x8, hx8, h⟩ := hl_bind h
    refine hl_cVv (D := (D + 4)) (z := y62) (n := 1) (av := [.ref 102]) (st := []) d264_97 mlM_260 rfl (Nat.le_of_ble_eq_true rfl) (Nat.le_of_ble_eq_true rfl) rc64 ((p_M_asks D 102 (by decide) x4.2 hx8).dle (by omega)) ?_
    exact hl_loc (p_M_qPartTold_j100 D v1 x4.1 x8 h k1 k2) ⟨rfl, rfl, rfl, trivial⟩
set_option maxRecDepth 20000 in
theorem p_M_qPartTold_L2 {X : hl_X} (D : Nat) (s : Int32 × hl_M) {o : (Int32 × hl_M) ⊕ (hl_M)} {v : Option Value} {τ : hl_M} (h : f_M_qPartTold_L2 s = some o) (k1 : ∀ (c0 : Int32) (c1 : hl_M), o = .inl ((c0, c1)) → hl_R X (D + 5) y264 2 [(0, .ref 64), (1, .int c0)] [] c1 v τ) (k2 : ∀ (a0 : hl_M), o = .inr a0 → hl_R X (D + 5) y264 184 [(0, .ref 64)] [] a0 v τ) : hl_R X (D + 5) y264 2 [(0, .ref 64), (1, .int s.1)] [] s.2 v τ := by
  unfold f_M_qPartTold_L2 at h
  refine hl_iload_n (i := 1) d264_2 rfl rfl ?_
  refine hl_if_eq (tg := 184) d264_3 rfl (fun hc => ?_) (fun hc => ?_)
  · have h := hl_pos hc h
    have h := Option.some.inj h
    subst h
    exact hl_loc (k2 s.2 rfl) ⟨rfl, trivial⟩
  · have h := hl_neg hc h
    refine hl_aload_n (i := 0) d264_6 rfl rfl (by decide) ?_
    refine hl_gi d264_7 gM_173_64 ?_
    refine hl_if_ne (tg := 184) d264_10 rfl (fun hc => ?_) (fun hc => ?_)
    · have h := hl_neg hc h
      have h := Option.some.inj h
      subst h
      exact hl_loc (k2 s.2 rfl) ⟨rfl, trivial⟩
    · have h := hl_pos hc h
      refine hl_aload_n (i := 0) d264_13 rfl rfl (by decide) ?_
      obtain ⟨x1, hx1, h⟩ := hl_bind h
      refine hl_cVi (D := (D + 4)) (z := y65) (n := 0) (av := []) (st := []) d264_14 mlM_185 rfl (Nat.le_of_ble_eq_true rfl) (Nat.le_of_ble_eq_true rfl) rc64 ((p_M_look D s.2 hx1).dle (by omega)) ?_
      refine hl_istore_n (i := 2) (ls2 := [(2, .int x1.1), (0, .ref 64), (1, .int s.1)]) d264_17 rfl (by decide) rfl ?_
      refine hl_aload_n (i := 0) d264_18 rfl rfl (by decide) ?_
      refine hl_iconst d264_19 ki4 ?_
      refine hl_bipush d264_20 kb7 ?_
      obtain ⟨x2, hx2, h⟩ := hl_bind h
      refine hl_cVi (D := (D + 4)) (z := y265) (n := 2) (av := [.int 4, .int 7]) (st := []) d264_22 mlM_500 rfl (Nat.le_of_ble_eq_true rfl) (Nat.le_of_ble_eq_true rfl) rc64 ((p_M_qWordOf D 4 7 x1.2 hx2).dle (by omega)) ?_
      refine hl_istore_n (i := 3) (ls2 := [(3, .int x2.1), (2, .int x1.1), (0, .ref 64), (1, .int s.1)]) d264_25 rfl (by decide) rfl ?_
      refine hl_iload_n (i := 2) d264_26 rfl rfl ?_
      refine hl_bipush d264_27 kb40 ?_
      refine hl_icmp_ne (tg := 55) d264_29 rfl (fun hc => ?_) (fun hc => ?_)
      · have h := hl_neg hc h
        refine hl_aload_n (i := 0) d264_55 rfl rfl (by decide) ?_
        refine hl_aload_n (i := 0) d264_56 rfl rfl (by decide) ?_
        refine hl_gr d264_57 gM_131_64 ?_
        obtain ⟨x3, hx3, h⟩ := hl_bind h
        refine hl_cVi (D := (D + 4)) (z := y64) (n := 1) (av := [.ref 101]) (st := []) d264_60 mlM_196 rfl (Nat.le_of_ble_eq_true rfl) (Nat.le_of_ble_eq_true rfl) rc64 ((p_M_isHere D 101 (by decide) x2.2 hx3).dle (by omega)) ?_
        refine hl_if_ne (tg := 77) d264_63 rfl (fun hc => ?_) (fun hc => ?_)
        · have h := hl_neg hc h
          exact hl_loc (p_M_qPartTold_j77 D s.1 x3.2 h k1 k2) ⟨rfl, rfl, trivial⟩
        · have h := hl_pos hc h
          refine hl_aload_n (i := 0) d264_66 rfl rfl (by decide) ?_
          refine hl_aload_n (i := 0) d264_67 rfl rfl (by decide) ?_
          refine hl_gr d264_68 gM_134_64 ?_
          obtain ⟨x9, hx9, h⟩ := hl_bind h
          refine hl_cVi (D := (D + 4)) (z := y64) (n := 1) (av := [.ref 102]) (st := []) d264_71 mlM_196 rfl (Nat.le_of_ble_eq_true rfl) (Nat.le_of_ble_eq_true rfl) rc64 ((p_M_isHere D 102 (by decide) x3.2 hx9).dle (by omega)) ?_
          refine hl_if_eq (tg := 152) d264_74 rfl (fun hc => ?_) (fun hc => ?_)
          · have h := hl_pos hc h
            refine hl_iload_n (i := 3) d264_152 rfl rfl ?_
            refine hl_iconst d264_153 kim1 ?_
            refine hl_icmp_eq (tg := 179) d264_154 rfl (fun hc => ?_) (fun hc => ?_)
            · have h := hl_pos hc h
              refine hl_iconst d264_179 ki0 ?_
              refine hl_istore_n (i := 1) (ls2 := [(1, .int 0), (3, .int x2.1), (2, .int x1.1), (0, .ref 64)]) d264_180 rfl (by decide) rfl ?_
              refine hl_goto (tg := 2) d264_181 rfl ?_
              have h := Option.some.inj h
              subst h
              exact hl_loc (k1 0 x9.2 rfl) ⟨rfl, rfl, trivial⟩
            · have h := hl_neg hc h
              refine hl_aload_n (i := 0) d264_157 rfl rfl (by decide) ?_
              refine hl_bipush d264_158 kb60 ?_
              refine hl_iload_n (i := 3) d264_160 rfl rfl ?_
              refine hl_iadd d264_161 ?_
              refine hl_iconst d264_162 ki4 ?_
              refine hl_isub d264_163 ?_
              refine hl_aload_n (i := 0) d264_164 rfl rfl (by decide) ?_
              refine hl_gi d264_165 gM_179_64 ?_
              obtain ⟨x10, hx10, h⟩ := hl_bind h
              refine hl_cVv (D := (D + 4)) (z := y267) (n := 2) (av := [.int ((60 + x2.1) - 4), .int (x9.2.1 64 2)]) (st := []) d264_168 mlM_503 rfl (Nat.le_of_ble_eq_true rfl) (Nat.le_of_ble_eq_true rfl) rc64 ((p_M_qOpens D ((60 + x2.1) - 4) (x9.2.1 64 2) x9.2 hx10).dle (by omega)) ?_
              refine hl_aload_n (i := 0) d264_171 rfl rfl (by decide) ?_
              refine hl_iload_n (i := 3) d264_172 rfl rfl ?_
              obtain ⟨x11, hx11, h⟩ := hl_bind h
              refine hl_cVv (D := (D + 4)) (z := y268) (n := 1) (av := [.int x2.1]) (st := []) d264_173 mlM_506 rfl (Nat.le_of_ble_eq_true rfl) (Nat.le_of_ble_eq_true rfl) rc64 ((p_M_qAsksWord D x2.1 x10 hx11).dle (by omega)) ?_
              refine hl_goto (tg := 181) d264_176 rfl ?_
              refine hl_goto (tg := 2) d264_181 rfl ?_
              have h := Option.some.inj h
              subst h
              exact hl_loc (k1 s.1 x11 rfl) ⟨rfl, rfl, trivial⟩
          · have h := hl_neg hc h
            exact hl_loc (p_M_qPartTold_j77 D s.1 x9.2 h k1 k2) ⟨rfl, rfl, trivial⟩
      · have h := hl_pos hc h
        refine hl_aload_n (i := 0) d264_32 rfl rfl (by decide) ?_
        refine hl_bipush d264_33 kb20 ?_
        refine hl_aload_n (i := 0) d264_35 rfl rfl (by decide) ?_
        refine hl_gi d264_36 gM_179_64 ?_
        obtain ⟨x12, hx12, h⟩ := hl_bind h
        refine hl_cVv (D := (D + 4)) (z := y267) (n := 2) (av := [.int 20, .int (x2.2.1 64 2)]) (st := []) d264_39 mlM_503 rfl (Nat.le_of_ble_eq_true rfl) (Nat.le_of_ble_eq_true rfl) rc64 ((p_M_qOpens D 20 (x2.2.1 64 2) x2.2 hx12).dle (by omega)) ?_
        refine hl_aload_n (i := 0) d264_42 rfl rfl (by decide) ?_
        refine hl_dup d264_43 rfl ?_
        refine hl_gi d264_44 gM_179_64 ?_
        refine hl_iconst d264_47 ki1 ?_
        refine hl_iadd d264_48 ?_
        refine hl_pi d264_49 qM_179_64 ?_
        refine hl_goto (tg := 181) d264_52 rfl ?_
        refine hl_goto (tg := 2) d264_181 rfl ?_
        have h := Option.some.inj h
        subst h
        exact hl_loc (k1 s.1 (hl_si x12 64 2 ((x12.1 64 2) + 1)) rfl) ⟨rfl, rfl, trivial⟩
set_option maxRecDepth 20000 in
theorem p_M_qPartTold_j234 {X : hl_X} (D : Nat) (s0 : Int32) (σ : hl_M) {τ : hl_M} (h : f_M_qPartTold_j234 s0 σ = some τ) : hl_R X (D + 5) y264 234 [(0, .ref 64)] [.int s0, .ref 64] σ none τ := by
  unfold f_M_qPartTold_j234 at h
  obtain ⟨x16, hx16, h⟩ := hl_bind h
  refine hl_cVv (D := (D + 4)) (z := y269) (n := 1) (av := [.int s0]) (st := []) d264_234 mlM_485 rfl (Nat.le_of_ble_eq_true rfl) (Nat.le_of_ble_eq_true rfl) rc64 ((p_M_qCode D s0 σ hx16).dle (by omega)) ?_
  refine hl_aload_n (i := 0) d264_237 rfl rfl (by decide) ?_
  obtain ⟨x17, hx17, h⟩ := hl_bind h
  refine hl_cVv (D := (D + 4)) (z := y270) (n := 0) (av := []) (st := []) d264_238 mlM_509 rfl (Nat.le_of_ble_eq_true rfl) (Nat.le_of_ble_eq_true rfl) rc64 ((p_M_qEndsPart D x16 hx17).dle (by omega)) ?_
  have h := Option.some.inj h
  subst h
  exact hl_vret d264_241 rfl
set_option maxRecDepth 20000 in
theorem p_M_qPartTold_j209 {X : hl_X} (D : Nat) (v2 : Int32) (σ : hl_M) {τ : hl_M} (h : f_M_qPartTold_j209 v2 σ = some τ) : hl_R X (D + 5) y264 209 [(0, .ref 64), (2, .int v2)] [] σ none τ := by
  unfold f_M_qPartTold_j209 at h
  refine hl_aload_n (i := 0) d264_209 rfl rfl (by decide) ?_
  refine hl_iload_n (i := 2) d264_210 rfl rfl ?_
  refine hl_iconst d264_211 kim1 ?_
  refine hl_icmp_eq (tg := 222) d264_212 rfl (fun hc => ?_) (fun hc => ?_)
  · have h := hl_pos hc h
    refine hl_sipush d264_222 ks1000 ?_
    refine hl_aload_n (i := 0) d264_225 rfl rfl (by decide) ?_
    refine hl_iconst d264_226 ki0 ?_
    refine hl_sipush d264_227 ks9999 ?_
    obtain ⟨x15, hx15, h⟩ := hl_bind h
    refine hl_cVi (D := (D + 4)) (z := y68) (n := 2) (av := [.int 0, .int 9999]) (st := [.int 1000, .ref 64]) d264_230 mlM_242 rfl (Nat.le_of_ble_eq_true rfl) (Nat.le_of_ble_eq_true rfl) rc64 ((p_M_number D 0 9999 σ hx15).dle (by omega)) ?_
    refine hl_iadd d264_233 ?_
    exact hl_loc (p_M_qPartTold_j234 D (1000 + x15.1) x15.2 h) ⟨rfl, trivial⟩
  · have h := hl_neg hc h
    refine hl_bipush d264_215 kb40 ?_
    refine hl_iload_n (i := 2) d264_217 rfl rfl ?_
    refine hl_iadd d264_218 ?_
    refine hl_goto (tg := 234) d264_219 rfl ?_
    exact hl_loc (p_M_qPartTold_j234 D (40 + v2) σ h) ⟨rfl, trivial⟩
set_option maxRecDepth 20000 in
theorem p_M_qPartTold {X : hl_X} (D : Nat) (σ : hl_M) {τ : hl_M} (h : f_M_qPartTold σ = some τ) : hl_R X (D + 5) y264 0 [(0, .ref 64)] [] σ none τ := by
  unfold f_M_qPartTold at h
  refine hl_iconst d264_0 ki1 ?_
  refine hl_istore_n (i := 1) (ls2 := [(1, .int 1), (0, .ref 64)]) d264_1 rfl (by decide) rfl ?_
  obtain ⟨x13, hx13, h⟩ := hl_bind h
  refine hl_R.loc (ls' := [(0, .ref 64), (1, .int 1)]) ⟨rfl, rfl, trivial⟩ ?_
  refine hl_lp_run2 (P := fun (c0 : Int32) (c1 : hl_M) => hl_R X (D + 5) y264 2 [(0, .ref 64), (1, .int c0)] [] c1 none τ) (fun x : hl_M => hl_R X (D + 5) y264 184 [(0, .ref 64)] [] x none τ) (fun c0 c1 o ho h1 h2 => p_M_qPartTold_L2 D (c0, c1) ho h1 (fun a0 e => h2 a0 e)) hl_big 1 σ x13 hx13 ?_
  refine hl_aload_n (i := 0) d264_184 rfl rfl (by decide) ?_
  refine hl_gi d264_185 gM_173_64 ?_
  refine hl_if_eq (tg := 192) d264_188 rfl (fun hc => ?_) (fun hc => ?_)
  · have h := hl_pos hc h
    refine hl_aload_n (i := 0) d264_192 rfl rfl (by decide) ?_
    refine hl_iconst d264_193 ki0 ?_
    refine hl_iconst d264_194 ki4 ?_
    obtain ⟨x14, hx14, h⟩ := hl_bind h
    refine hl_cVi (D := (D + 4)) (z := y265) (n := 2) (av := [.int 0, .int 4]) (st := []) d264_195 mlM_500 rfl (Nat.le_of_ble_eq_true rfl) (Nat.le_of_ble_eq_true rfl) rc64 ((p_M_qWordOf D 0 4 x13 hx14).dle (by omega)) ?_
    refine hl_istore_n (i := 2) (ls2 := [(2, .int x14.1), (0, .ref 64)]) d264_198 rfl (by decide) rfl ?_
    refine hl_iload_n (i := 2) d264_199 rfl rfl ?_
    refine hl_iconst d264_200 kim1 ?_
    refine hl_icmp_eq (tg := 209) d264_201 rfl (fun hc => ?_) (fun hc => ?_)
    · have h := hl_pos hc h
      exact hl_loc (p_M_qPartTold_j209 D x14.1 x14.2 h) ⟨rfl, rfl, trivial⟩
    · have h := hl_neg hc h
      refine hl_aload_n (i := 0) d264_204 rfl rfl (by decide) ?_
      refine hl_iload_n (i := 2) d264_205 rfl rfl ?_
      obtain ⟨x18, hx18, h⟩ := hl_bind h
      refine hl_cVv (D := (D + 4)) (z := y268) (n := 1) (av := [.int x14.1]) (st := []) d264_206 mlM_506 rfl (Nat.le_of_ble_eq_true rfl) (Nat.le_of_ble_eq_true rfl) rc64 ((p_M_qAsksWord D x14.1 x14.2 hx18).dle (by omega)) ?_
      exact hl_loc (p_M_qPartTold_j209 D x14.1 x18 h) ⟨rfl, rfl, trivial⟩
  · have h := hl_neg hc h
    have h := Option.some.inj h
    subst h
    exact hl_vret d264_191 rfl
def f_M_qIsBracket (v0 : Int32) : Int32 :=
  if v0 < 20 then
  0 else
  if 24 < v0 then
  0 else
  1
set_option maxRecDepth 20000 in
theorem p_M_qIsBracket {X : hl_X} (D : Nat) (v0 : Int32) (σ : hl_M) {r : Int32} (h : f_M_qIsBracket v0 = r) : hl_R X D y274 0 [(0, .int v0)] [] σ (some (.int r)) σ := by
  unfold f_M_qIsBracket at h
  refine hl_iload_n (i := 0) d274_0 rfl rfl ?_
  refine hl_bipush d274_1 kb20 ?_
  refine hl_icmp_lt (tg := 16) d274_3 rfl (fun hc => ?_) (fun hc => ?_)
  · have h := hl_pos hc h
    refine hl_iconst d274_16 ki0 ?_
    subst h
    exact hl_zret d274_17 rfl (by decide)
  · have h := hl_neg hc h
    refine hl_iload_n (i := 0) d274_6 rfl rfl ?_
    refine hl_bipush d274_7 kb24 ?_
    refine hl_icmp_gt (tg := 16) d274_9 rfl (fun hc => ?_) (fun hc => ?_)
    · have h := hl_pos hc h
      refine hl_iconst d274_16 ki0 ?_
      subst h
      exact hl_zret d274_17 rfl (by decide)
    · have h := hl_neg hc h
      refine hl_iconst d274_12 ki1 ?_
      refine hl_goto (tg := 17) d274_13 rfl ?_
      subst h
      exact hl_zret d274_17 rfl (by decide)
def f_M_qBracket_L7 (σ : hl_M) (s : Int32) : Option ((Int32) ⊕ (Int32)) :=
  if s < (σ.1 64 76) then
  some (.inr s) else
  if hl_b s 1700 then
  if (f_M_qIsBracket (σ.1 111 s.toNatClampNeg)) = 0 then
  some (.inl (s + (-1))) else
  some (.inr s) else none
def f_M_qBracket (σ : hl_M) : Option (Int32) :=
  (hl_lp (f_M_qBracket_L7 σ) hl_big ((σ.1 64 74) - 1)).bind fun x1 =>
  if x1 < (σ.1 64 76) then
  some ((-1)) else
  if hl_b x1 1700 then
  some (σ.1 111 x1.toNatClampNeg) else none
set_option maxRecDepth 20000 in
theorem p_M_qBracket_L7 {X : hl_X} (D : Nat) (σ : hl_M) (s : Int32) {o : (Int32) ⊕ (Int32)} {v : Option Value} (h : f_M_qBracket_L7 σ s = some o) (k1 : ∀ (c0 : Int32), o = .inl c0 → hl_R X (D + 1) y273 7 [(0, .ref 64), (1, .int c0)] [] σ v σ) (k2 : ∀ (a0 : Int32), o = .inr a0 → hl_R X (D + 1) y273 33 [(0, .ref 64), (1, .int a0)] [] σ v σ) : hl_R X (D + 1) y273 7 [(0, .ref 64), (1, .int s)] [] σ v σ := by
  unfold f_M_qBracket_L7 at h
  refine hl_iload_n (i := 1) d273_7 rfl rfl ?_
  refine hl_aload_n (i := 0) d273_8 rfl rfl (by decide) ?_
  refine hl_gi d273_9 gM_488_64 ?_
  refine hl_icmp_lt (tg := 33) d273_12 rfl (fun hc => ?_) (fun hc => ?_)
  · have h := hl_pos hc h
    have h := Option.some.inj h
    subst h
    exact hl_loc (k2 s rfl) ⟨rfl, rfl, trivial⟩
  · have h := hl_neg hc h
    refine hl_aload_n (i := 0) d273_15 rfl rfl (by decide) ?_
    refine hl_gr d273_16 gM_161_64 ?_
    refine hl_iload_n (i := 1) d273_19 rfl rfl ?_
    obtain ⟨hb, h⟩ := hl_gd h
    refine hl_iald d273_20 sh111 (hl_b_in hb) ?_
    refine hl_cSi (D := D) (z := y274) (n := 1) (av := [.int (σ.1 111 s.toNatClampNeg)]) (st := []) d273_21 mlM_491 rfl (Nat.le_of_ble_eq_true rfl) (Nat.le_of_ble_eq_true rfl) ((p_M_qIsBracket D (σ.1 111 s.toNatClampNeg) σ rfl).dle (by omega)) ?_
    refine hl_if_ne (tg := 33) d273_24 rfl (fun hc => ?_) (fun hc => ?_)
    · have h := hl_neg hc h
      have h := Option.some.inj h
      subst h
      exact hl_loc (k2 s rfl) ⟨rfl, rfl, trivial⟩
    · have h := hl_pos hc h
      refine hl_iinc (ls2 := [(1, .int (s + (-1))), (0, .ref 64)]) d273_27 rfl kxm1 (by decide) rfl ?_
      refine hl_goto (tg := 7) d273_30 rfl ?_
      have h := Option.some.inj h
      subst h
      exact hl_loc (k1 (s + (-1)) rfl) ⟨rfl, rfl, trivial⟩
set_option maxRecDepth 20000 in
theorem p_M_qBracket {X : hl_X} (D : Nat) (σ : hl_M) {r : Int32} (h : f_M_qBracket σ = some r) : hl_R X (D + 1) y273 0 [(0, .ref 64)] [] σ (some (.int r)) σ := by
  unfold f_M_qBracket at h
  refine hl_aload_n (i := 0) d273_0 rfl rfl (by decide) ?_
  refine hl_gi d273_1 gM_482_64 ?_
  refine hl_iconst d273_4 ki1 ?_
  refine hl_isub d273_5 ?_
  refine hl_istore_n (i := 1) (ls2 := [(1, .int ((σ.1 64 74) - 1)), (0, .ref 64)]) d273_6 rfl (by decide) rfl ?_
  obtain ⟨x1, hx1, h⟩ := hl_bind h
  refine hl_R.loc (ls' := [(0, .ref 64), (1, .int ((σ.1 64 74) - 1))]) ⟨rfl, rfl, trivial⟩ ?_
  refine hl_lp_run1 (P := fun (c0 : Int32) => hl_R X (D + 1) y273 7 [(0, .ref 64), (1, .int c0)] [] σ (some (.int r)) σ) (fun x : Int32 => hl_R X (D + 1) y273 33 [(0, .ref 64), (1, .int x)] [] σ (some (.int r)) σ) (fun c0 o ho h1 h2 => p_M_qBracket_L7 D σ c0 ho h1 (fun a0 e => h2 a0 e)) hl_big ((σ.1 64 74) - 1) x1 hx1 ?_
  refine hl_iload_n (i := 1) d273_33 rfl rfl ?_
  refine hl_aload_n (i := 0) d273_34 rfl rfl (by decide) ?_
  refine hl_gi d273_35 gM_488_64 ?_
  refine hl_icmp_lt (tg := 50) d273_38 rfl (fun hc => ?_) (fun hc => ?_)
  · have h := hl_pos hc h
    refine hl_iconst d273_50 kim1 ?_
    have h := Option.some.inj h
    subst h
    exact hl_iret d273_51 rfl
  · have h := hl_neg hc h
    refine hl_aload_n (i := 0) d273_41 rfl rfl (by decide) ?_
    refine hl_gr d273_42 gM_161_64 ?_
    refine hl_iload_n (i := 1) d273_45 rfl rfl ?_
    obtain ⟨hb, h⟩ := hl_gd h
    refine hl_iald d273_46 sh111 (hl_b_in hb) ?_
    refine hl_goto (tg := 51) d273_47 rfl ?_
    have h := Option.some.inj h
    subst h
    exact hl_iret d273_51 rfl
def f_M_qDropsToBracket_L0 (s : hl_M) : Option ((hl_M) ⊕ (hl_M)) :=
  if (s.1 64 74) ≤ (s.1 64 76) then
  some (.inr s) else
  if hl_b ((s.1 64 74) - 1) 1700 then
  if (f_M_qIsBracket (s.1 111 ((s.1 64 74) - 1).toNatClampNeg)) = 0 then
  (f_M_qDrops s).bind fun x1 =>
  some (.inl x1) else
  some (.inr s) else none
def f_M_qDropsToBracket (σ : hl_M) : Option (hl_M) :=
  (hl_lp (f_M_qDropsToBracket_L0) hl_big σ).bind fun x2 =>
  some x2
set_option maxRecDepth 20000 in
theorem p_M_qDropsToBracket_L0 {X : hl_X} (D : Nat) (s : hl_M) {o : (hl_M) ⊕ (hl_M)} {v : Option Value} {τ : hl_M} (h : f_M_qDropsToBracket_L0 s = some o) (k1 : ∀ (c0 : hl_M), o = .inl c0 → hl_R X (D + 2) y275 0 [(0, .ref 64)] [] c0 v τ) (k2 : ∀ (a0 : hl_M), o = .inr a0 → hl_R X (D + 2) y275 35 [] [] a0 v τ) : hl_R X (D + 2) y275 0 [(0, .ref 64)] [] s v τ := by
  unfold f_M_qDropsToBracket_L0 at h
  refine hl_aload_n (i := 0) d275_0 rfl rfl (by decide) ?_
  refine hl_gi d275_1 gM_482_64 ?_
  refine hl_aload_n (i := 0) d275_4 rfl rfl (by decide) ?_
  refine hl_gi d275_5 gM_488_64 ?_
  refine hl_icmp_le (tg := 35) d275_8 rfl (fun hc => ?_) (fun hc => ?_)
  · have h := hl_pos hc h
    have h := Option.some.inj h
    subst h
    exact hl_loc (k2 s rfl) trivial
  · have h := hl_neg hc h
    refine hl_aload_n (i := 0) d275_11 rfl rfl (by decide) ?_
    refine hl_gr d275_12 gM_161_64 ?_
    refine hl_aload_n (i := 0) d275_15 rfl rfl (by decide) ?_
    refine hl_gi d275_16 gM_482_64 ?_
    refine hl_iconst d275_19 ki1 ?_
    refine hl_isub d275_20 ?_
    obtain ⟨hb, h⟩ := hl_gd h
    refine hl_iald d275_21 sh111 (hl_b_in hb) ?_
    refine hl_cSi (D := (D + 1)) (z := y274) (n := 1) (av := [.int (s.1 111 ((s.1 64 74) - 1).toNatClampNeg)]) (st := []) d275_22 mlM_491 rfl (Nat.le_of_ble_eq_true rfl) (Nat.le_of_ble_eq_true rfl) ((p_M_qIsBracket D (s.1 111 ((s.1 64 74) - 1).toNatClampNeg) s rfl).dle (by omega)) ?_
    refine hl_if_ne (tg := 35) d275_25 rfl (fun hc => ?_) (fun hc => ?_)
    · have h := hl_neg hc h
      have h := Option.some.inj h
      subst h
      exact hl_loc (k2 s rfl) trivial
    · have h := hl_pos hc h
      refine hl_aload_n (i := 0) d275_28 rfl rfl (by decide) ?_
      obtain ⟨x1, hx1, h⟩ := hl_bind h
      refine hl_cVv (D := (D + 1)) (z := y271) (n := 0) (av := []) (st := []) d275_29 mlM_494 rfl (Nat.le_of_ble_eq_true rfl) (Nat.le_of_ble_eq_true rfl) rc64 ((p_M_qDrops D s hx1).dle (by omega)) ?_
      refine hl_goto (tg := 0) d275_32 rfl ?_
      have h := Option.some.inj h
      subst h
      exact hl_loc (k1 x1 rfl) ⟨rfl, trivial⟩
set_option maxRecDepth 20000 in
theorem p_M_qDropsToBracket {X : hl_X} (D : Nat) (σ : hl_M) {τ : hl_M} (h : f_M_qDropsToBracket σ = some τ) : hl_R X (D + 2) y275 0 [(0, .ref 64)] [] σ none τ := by
  unfold f_M_qDropsToBracket at h
  obtain ⟨x2, hx2, h⟩ := hl_bind h
  refine hl_R.loc (ls' := [(0, .ref 64)]) ⟨rfl, trivial⟩ ?_
  refine hl_lp_run1 (P := fun (c0 : hl_M) => hl_R X (D + 2) y275 0 [(0, .ref 64)] [] c0 none τ) (fun x : hl_M => hl_R X (D + 2) y275 35 [] [] x none τ) (fun c0 o ho h1 h2 => p_M_qDropsToBracket_L0 D c0 ho h1 (fun a0 e => h2 a0 e)) hl_big σ x2 hx2 ?_
  have h := Option.some.inj h
  subst h
  exact hl_vret d275_35 rfl
def f_M_qIsOn (v1 : Int32) (σ : hl_M) : Option (Int32) :=
  if (σ.1 64 74) ≤ 0 then
  some 0 else
  if hl_b ((σ.1 64 74) - 1) 1700 then
  if (σ.1 111 ((σ.1 64 74) - 1).toNatClampNeg) = v1 then
  some 1 else
  some 0 else none
set_option maxRecDepth 20000 in
theorem p_M_qIsOn {X : hl_X} (D : Nat) (v1 : Int32) (σ : hl_M) {r : Int32} (h : f_M_qIsOn v1 σ = some r) : hl_R X D y276 0 [(0, .ref 64), (1, .int v1)] [] σ (some (.int r)) σ := by
  unfold f_M_qIsOn at h
  refine hl_aload_n (i := 0) d276_0 rfl rfl (by decide) ?_
  refine hl_gi d276_1 gM_482_64 ?_
  refine hl_if_le (tg := 26) d276_4 rfl (fun hc => ?_) (fun hc => ?_)
  · have h := hl_pos hc h
    refine hl_iconst d276_26 ki0 ?_
    have h := Option.some.inj h
    subst h
    exact hl_zret d276_27 rfl (by decide)
  · have h := hl_neg hc h
    refine hl_aload_n (i := 0) d276_7 rfl rfl (by decide) ?_
    refine hl_gr d276_8 gM_161_64 ?_
    refine hl_aload_n (i := 0) d276_11 rfl rfl (by decide) ?_
    refine hl_gi d276_12 gM_482_64 ?_
    refine hl_iconst d276_15 ki1 ?_
    refine hl_isub d276_16 ?_
    obtain ⟨hb, h⟩ := hl_gd h
    refine hl_iald d276_17 sh111 (hl_b_in hb) ?_
    refine hl_iload_n (i := 1) d276_18 rfl rfl ?_
    refine hl_icmp_ne (tg := 26) d276_19 rfl (fun hc => ?_) (fun hc => ?_)
    · have h := hl_neg hc h
      refine hl_iconst d276_26 ki0 ?_
      have h := Option.some.inj h
      subst h
      exact hl_zret d276_27 rfl (by decide)
    · have h := hl_pos hc h
      refine hl_iconst d276_22 ki1 ?_
      refine hl_goto (tg := 27) d276_23 rfl ?_
      have h := Option.some.inj h
      subst h
      exact hl_zret d276_27 rfl (by decide)
def f_M_qGoesOn_j115 (σ : hl_M) : Option ((hl_M) ⊕ (hl_M)) :=
  (f_M_qEndsPart σ).bind fun x4 =>
  some (.inl x4)
def f_M_qGoesOn_j112 (s0 : Int32) (σ : hl_M) : Option ((hl_M) ⊕ (hl_M)) :=
  (f_M_qCode s0 σ).bind fun x5 =>
  f_M_qGoesOn_j115 x5
def f_M_qGoesOn_j43 (σ : hl_M) : Option ((hl_M) ⊕ (hl_M)) :=
  (f_M_qDropsToBracket (hl_si σ 64 2 ((σ.1 64 2) + 1))).bind fun x3 =>
  if hl_b ((hl_si (hl_si x3 64 74 ((x3.1 64 74) - 1)) 64 75 (((hl_si x3 64 74 ((x3.1 64 74) - 1)).1 64 75) - 1)).1 64 74) 1700 then
  if ((hl_si (hl_si x3 64 74 ((x3.1 64 74) - 1)) 64 75 (((hl_si x3 64 74 ((x3.1 64 74) - 1)).1 64 75) - 1)).1 111 ((hl_si (hl_si x3 64 74 ((x3.1 64 74) - 1)) 64 75 (((hl_si x3 64 74 ((x3.1 64 74) - 1)).1 64 75) - 1)).1 64 74).toNatClampNeg) = 20 then
  f_M_qGoesOn_j115 (hl_si (hl_si x3 64 74 ((x3.1 64 74) - 1)) 64 75 (((hl_si x3 64 74 ((x3.1 64 74) - 1)).1 64 75) - 1)) else
  if hl_b ((hl_si (hl_si x3 64 74 ((x3.1 64 74) - 1)) 64 75 (((hl_si x3 64 74 ((x3.1 64 74) - 1)).1 64 75) - 1)).1 64 74) 1700 then
  if ((hl_si (hl_si x3 64 74 ((x3.1 64 74) - 1)) 64 75 (((hl_si x3 64 74 ((x3.1 64 74) - 1)).1 64 75) - 1)).1 111 ((hl_si (hl_si x3 64 74 ((x3.1 64 74) - 1)) 64 75 (((hl_si x3 64 74 ((x3.1 64 74) - 1)).1 64 75) - 1)).1 64 74).toNatClampNeg) = 23 then
  f_M_qGoesOn_j112 5 (hl_si (hl_si x3 64 74 ((x3.1 64 74) - 1)) 64 75 (((hl_si x3 64 74 ((x3.1 64 74) - 1)).1 64 75) - 1)) else
  f_M_qGoesOn_j112 6 (hl_si (hl_si x3 64 74 ((x3.1 64 74) - 1)) 64 75 (((hl_si x3 64 74 ((x3.1 64 74) - 1)).1 64 75) - 1)) else none else none
def f_M_qGoesOn_L0 (s : hl_M) : Option ((hl_M) ⊕ (hl_M)) :=
  if (s.1 64 5) = 0 then
  (f_M_look s).bind fun x1 =>
  if x1.1 = 41 then
  (f_M_qBracket x1.2).bind fun x2 =>
  if x2 = 20 then
  f_M_qGoesOn_j43 x1.2 else
  (f_M_qBracket x1.2).bind fun x6 =>
  if x6 = 23 then
  f_M_qGoesOn_j43 x1.2 else
  (f_M_qBracket x1.2).bind fun x7 =>
  if x7 = 24 then
  f_M_qGoesOn_j43 x1.2 else
  some (.inr x1.2) else
  some (.inr x1.2) else
  some (.inr s)
def f_M_qGoesOn_j178 (v1 : Int32) (σ : hl_M) : Option ((hl_M) ⊕ (hl_M)) :=
  (f_M_qDrops σ).bind fun x11 =>
  some (.inl x11)
def f_M_qGoesOn_L162 (v1 : Int32) (s : hl_M) : Option ((hl_M) ⊕ (hl_M)) :=
  (f_M_qIsOn 3 s).bind fun x10 =>
  if x10 = 0 then
  (f_M_qIsOn 4 s).bind fun x12 =>
  if x12 = 0 then
  some (.inr s) else
  f_M_qGoesOn_j178 v1 s else
  f_M_qGoesOn_j178 v1 s
def f_M_qGoesOn_j140 (σ : hl_M) : Option (Int32 × hl_M) :=
  if hl_b ((σ.1 64 2) - 1) 1600 then
  if (σ.1 65 ((σ.1 64 2) - 1).toNatClampNeg) = 42 then
  (hl_lp (f_M_qGoesOn_L162 3) hl_big σ).bind fun x15 =>
  if hl_b (x15.1 64 74) 1700 then
  hl_let (hl_si (hl_si x15 111 (x15.1 64 74).toNatClampNeg 3) 64 74 (((hl_si x15 111 (x15.1 64 74).toNatClampNeg 3).1 64 74) + 1)) (fun σ16 =>
  some ((1, σ16))) else none else
  (hl_lp (f_M_qGoesOn_L162 4) hl_big σ).bind fun x13 =>
  if hl_b (x13.1 64 74) 1700 then
  hl_let (hl_si (hl_si x13 111 (x13.1 64 74).toNatClampNeg 4) 64 74 (((hl_si x13 111 (x13.1 64 74).toNatClampNeg 4).1 64 74) + 1)) (fun σ14 =>
  some ((1, σ14))) else none else none
def f_M_qGoesOn_j279 (v1 : Int32) (σ : hl_M) : Option ((hl_M) ⊕ (hl_M)) :=
  (f_M_qDrops σ).bind fun x20 =>
  some (.inl x20)
def f_M_qGoesOn_L247 (v1 : Int32) (s : hl_M) : Option ((hl_M) ⊕ (hl_M)) :=
  (f_M_qIsOn 3 s).bind fun x19 =>
  if x19 = 0 then
  (f_M_qIsOn 4 s).bind fun x21 =>
  if x21 = 0 then
  (f_M_qIsOn 1 s).bind fun x22 =>
  if x22 = 0 then
  (f_M_qIsOn 2 s).bind fun x23 =>
  if x23 = 0 then
  some (.inr s) else
  f_M_qGoesOn_j279 v1 s else
  f_M_qGoesOn_j279 v1 s else
  f_M_qGoesOn_j279 v1 s else
  f_M_qGoesOn_j279 v1 s
def f_M_qGoesOn_j225 (σ : hl_M) : Option (Int32 × hl_M) :=
  if hl_b ((σ.1 64 2) - 1) 1600 then
  if (σ.1 65 ((σ.1 64 2) - 1).toNatClampNeg) = 43 then
  (hl_lp (f_M_qGoesOn_L247 1) hl_big σ).bind fun x26 =>
  if hl_b (x26.1 64 74) 1700 then
  hl_let (hl_si (hl_si x26 111 (x26.1 64 74).toNatClampNeg 1) 64 74 (((hl_si x26 111 (x26.1 64 74).toNatClampNeg 1).1 64 74) + 1)) (fun σ27 =>
  some ((1, σ27))) else none else
  (hl_lp (f_M_qGoesOn_L247 2) hl_big σ).bind fun x24 =>
  if hl_b (x24.1 64 74) 1700 then
  hl_let (hl_si (hl_si x24 111 (x24.1 64 74).toNatClampNeg 2) 64 74 (((hl_si x24 111 (x24.1 64 74).toNatClampNeg 2).1 64 74) + 1)) (fun σ25 =>
  some ((1, σ25))) else none else none
def f_M_qGoesOn_j326 (σ : hl_M) : Option (Int32 × hl_M) :=
  (f_M_asksSign 44 σ).bind fun x30 =>
  if (x30.1 64 5) = 0 then
  (f_M_qDropsToBracket x30).bind fun x31 =>
  if hl_b ((x31.1 64 74) - 1) 1700 then
  if hl_b ((x31.1 64 74) - 1) 1700 then
  some ((1, hl_si x31 111 ((x31.1 64 74) - 1).toNatClampNeg ((x31.1 111 ((x31.1 64 74) - 1).toNatClampNeg) + 2))) else none else none else
  some ((0, x30))
def f_M_qGoesOn (σ : hl_M) : Option (Int32 × hl_M) :=
  (hl_lp (f_M_qGoesOn_L0) hl_big σ).bind fun x8 =>
  (f_M_takesSign 42 x8).bind fun x9 =>
  if x9.1 = 0 then
  (f_M_takesSign 47 x9.2).bind fun x17 =>
  if x17.1 = 0 then
  (f_M_takesSign 43 x17.2).bind fun x18 =>
  if x18.1 = 0 then
  (f_M_takesSign 45 x18.2).bind fun x28 =>
  if x28.1 = 0 then
  (f_M_qBracket x28.2).bind fun x29 =>
  if x29 = 21 then
  f_M_qGoesOn_j326 x28.2 else
  (f_M_qBracket x28.2).bind fun x32 =>
  if x32 = 22 then
  f_M_qGoesOn_j326 x28.2 else
  (f_M_qBracket x28.2).bind fun x33 =>
  if x33 = ((-1)) then
  some ((0, x28.2)) else
  if (x28.2.1 64 5) = 0 then
  some ((0, f_M_fail 1 (x28.2.1 64 2) x28.2)) else
  some ((0, x28.2)) else
  f_M_qGoesOn_j225 x28.2 else
  f_M_qGoesOn_j225 x18.2 else
  f_M_qGoesOn_j140 x17.2 else
  f_M_qGoesOn_j140 x9.2
set_option maxRecDepth 20000 in
theorem p_M_qGoesOn_j115 {X : hl_X} (D : Nat) (σ : hl_M) {o : (hl_M) ⊕ (hl_M)} {v : Option Value} {τ : hl_M} (h : f_M_qGoesOn_j115 σ = some o) (k1 : ∀ (c0 : hl_M), o = .inl c0 → hl_R X (D + 3) y272 0 [(0, .ref 64)] [] c0 v τ) (k2 : ∀ (a0 : hl_M), o = .inr a0 → hl_R X (D + 3) y272 122 [(0, .ref 64)] [] a0 v τ) : hl_R X (D + 3) y272 115 [(0, .ref 64)] [] σ v τ := by
  unfold f_M_qGoesOn_j115 at h
  refine hl_aload_n (i := 0) d272_115 rfl rfl (by decide) ?_
  obtain ⟨x4, hx4, h⟩ := hl_bind h
  refine hl_cVv (D := (D + 2)) (z := y270) (n := 0) (av := []) (st := []) d272_116 mlM_509 rfl (Nat.le_of_ble_eq_true rfl) (Nat.le_of_ble_eq_true rfl) rc64 ((p_M_qEndsPart D σ hx4).dle (by omega)) ?_
  refine hl_goto (tg := 0) d272_119 rfl ?_
  have h := Option.some.inj h
  subst h
  exact hl_loc (k1 x4 rfl) ⟨rfl, trivial⟩
set_option maxRecDepth 20000 in
theorem p_M_qGoesOn_j112 {X : hl_X} (D : Nat) (s0 : Int32) (σ : hl_M) {o : (hl_M) ⊕ (hl_M)} {v : Option Value} {τ : hl_M} (h : f_M_qGoesOn_j112 s0 σ = some o) (k1 : ∀ (c0 : hl_M), o = .inl c0 → hl_R X (D + 3) y272 0 [(0, .ref 64)] [] c0 v τ) (k2 : ∀ (a0 : hl_M), o = .inr a0 → hl_R X (D + 3) y272 122 [(0, .ref 64)] [] a0 v τ) : hl_R X (D + 3) y272 112 [(0, .ref 64)] [.int s0, .ref 64] σ v τ := by
  unfold f_M_qGoesOn_j112 at h
  obtain ⟨x5, hx5, h⟩ := hl_bind h
  refine hl_cVv (D := (D + 2)) (z := y269) (n := 1) (av := [.int s0]) (st := []) d272_112 mlM_485 rfl (Nat.le_of_ble_eq_true rfl) (Nat.le_of_ble_eq_true rfl) rc64 ((p_M_qCode D s0 σ hx5).dle (by omega)) ?_
  exact hl_loc (p_M_qGoesOn_j115 D x5 h k1 k2) ⟨rfl, trivial⟩
set_option maxRecDepth 20000 in
theorem p_M_qGoesOn_j43 {X : hl_X} (D : Nat) (σ : hl_M) {o : (hl_M) ⊕ (hl_M)} {v : Option Value} {τ : hl_M} (h : f_M_qGoesOn_j43 σ = some o) (k1 : ∀ (c0 : hl_M), o = .inl c0 → hl_R X (D + 3) y272 0 [(0, .ref 64)] [] c0 v τ) (k2 : ∀ (a0 : hl_M), o = .inr a0 → hl_R X (D + 3) y272 122 [(0, .ref 64)] [] a0 v τ) : hl_R X (D + 3) y272 43 [(0, .ref 64)] [] σ v τ := by
  unfold f_M_qGoesOn_j43 at h
  refine hl_aload_n (i := 0) d272_43 rfl rfl (by decide) ?_
  refine hl_dup d272_44 rfl ?_
  refine hl_gi d272_45 gM_179_64 ?_
  refine hl_iconst d272_48 ki1 ?_
  refine hl_iadd d272_49 ?_
  refine hl_pi d272_50 qM_179_64 ?_
  refine hl_aload_n (i := 0) d272_53 rfl rfl (by decide) ?_
  obtain ⟨x3, hx3, h⟩ := hl_bind h
  refine hl_cVv (D := (D + 2)) (z := y275) (n := 0) (av := []) (st := []) d272_54 mlM_515 rfl (Nat.le_of_ble_eq_true rfl) (Nat.le_of_ble_eq_true rfl) rc64 ((p_M_qDropsToBracket D (hl_si σ 64 2 ((σ.1 64 2) + 1)) hx3).dle (by omega)) ?_
  refine hl_aload_n (i := 0) d272_57 rfl rfl (by decide) ?_
  refine hl_dup d272_58 rfl ?_
  refine hl_gi d272_59 gM_482_64 ?_
  refine hl_iconst d272_62 ki1 ?_
  refine hl_isub d272_63 ?_
  refine hl_pi d272_64 qM_482_64 ?_
  refine hl_aload_n (i := 0) d272_67 rfl rfl (by decide) ?_
  refine hl_dup d272_68 rfl ?_
  refine hl_gi d272_69 gM_479_64 ?_
  refine hl_iconst d272_72 ki1 ?_
  refine hl_isub d272_73 ?_
  refine hl_pi d272_74 qM_479_64 ?_
  refine hl_aload_n (i := 0) d272_77 rfl rfl (by decide) ?_
  refine hl_gr d272_78 gM_161_64 ?_
  refine hl_aload_n (i := 0) d272_81 rfl rfl (by decide) ?_
  refine hl_gi d272_82 gM_482_64 ?_
  obtain ⟨hb, h⟩ := hl_gd h
  refine hl_iald d272_85 sh111 (hl_b_in hb) ?_
  refine hl_bipush d272_86 kb20 ?_
  refine hl_icmp_eq (tg := 115) d272_88 rfl (fun hc => ?_) (fun hc => ?_)
  · have h := hl_pos hc h
    exact hl_loc (p_M_qGoesOn_j115 D (hl_si (hl_si x3 64 74 ((x3.1 64 74) - 1)) 64 75 (((hl_si x3 64 74 ((x3.1 64 74) - 1)).1 64 75) - 1)) h k1 k2) ⟨rfl, trivial⟩
  · have h := hl_neg hc h
    refine hl_aload_n (i := 0) d272_91 rfl rfl (by decide) ?_
    refine hl_aload_n (i := 0) d272_92 rfl rfl (by decide) ?_
    refine hl_gr d272_93 gM_161_64 ?_
    refine hl_aload_n (i := 0) d272_96 rfl rfl (by decide) ?_
    refine hl_gi d272_97 gM_482_64 ?_
    obtain ⟨hb, h⟩ := hl_gd h
    refine hl_iald d272_100 sh111 (hl_b_in hb) ?_
    refine hl_bipush d272_101 kb23 ?_
    refine hl_icmp_ne (tg := 110) d272_103 rfl (fun hc => ?_) (fun hc => ?_)
    · have h := hl_neg hc h
      refine hl_bipush d272_110 kb6 ?_
      exact hl_loc (p_M_qGoesOn_j112 D 6 (hl_si (hl_si x3 64 74 ((x3.1 64 74) - 1)) 64 75 (((hl_si x3 64 74 ((x3.1 64 74) - 1)).1 64 75) - 1)) h k1 k2) ⟨rfl, trivial⟩
    · have h := hl_pos hc h
      refine hl_iconst d272_106 ki5 ?_
      refine hl_goto (tg := 112) d272_107 rfl ?_
      exact hl_loc (p_M_qGoesOn_j112 D 5 (hl_si (hl_si x3 64 74 ((x3.1 64 74) - 1)) 64 75 (((hl_si x3 64 74 ((x3.1 64 74) - 1)).1 64 75) - 1)) h k1 k2) ⟨rfl, trivial⟩
set_option maxRecDepth 20000 in
theorem p_M_qGoesOn_L0 {X : hl_X} (D : Nat) (s : hl_M) {o : (hl_M) ⊕ (hl_M)} {v : Option Value} {τ : hl_M} (h : f_M_qGoesOn_L0 s = some o) (k1 : ∀ (c0 : hl_M), o = .inl c0 → hl_R X (D + 3) y272 0 [(0, .ref 64)] [] c0 v τ) (k2 : ∀ (a0 : hl_M), o = .inr a0 → hl_R X (D + 3) y272 122 [(0, .ref 64)] [] a0 v τ) : hl_R X (D + 3) y272 0 [(0, .ref 64)] [] s v τ := by
  unfold f_M_qGoesOn_L0 at h
  refine hl_aload_n (i := 0) d272_0 rfl rfl (by decide) ?_
  refine hl_gi d272_1 gM_173_64 ?_
  refine hl_if_ne (tg := 122) d272_4 rfl (fun hc => ?_) (fun hc => ?_)
  · have h := hl_neg hc h
    have h := Option.some.inj h
    subst h
    exact hl_loc (k2 s rfl) ⟨rfl, trivial⟩
  · have h := hl_pos hc h
    refine hl_aload_n (i := 0) d272_7 rfl rfl (by decide) ?_
    obtain ⟨x1, hx1, h⟩ := hl_bind h
    refine hl_cVi (D := (D + 2)) (z := y65) (n := 0) (av := []) (st := []) d272_8 mlM_185 rfl (Nat.le_of_ble_eq_true rfl) (Nat.le_of_ble_eq_true rfl) rc64 ((p_M_look D s hx1).dle (by omega)) ?_
    refine hl_bipush d272_11 kb41 ?_
    refine hl_icmp_ne (tg := 122) d272_13 rfl (fun hc => ?_) (fun hc => ?_)
    · have h := hl_neg hc h
      have h := Option.some.inj h
      subst h
      exact hl_loc (k2 x1.2 rfl) ⟨rfl, trivial⟩
    · have h := hl_pos hc h
      refine hl_aload_n (i := 0) d272_16 rfl rfl (by decide) ?_
      obtain ⟨x2, hx2, h⟩ := hl_bind h
      refine hl_cVi (D := (D + 2)) (z := y273) (n := 0) (av := []) (st := []) d272_17 mlM_512 rfl (Nat.le_of_ble_eq_true rfl) (Nat.le_of_ble_eq_true rfl) rc64 ((p_M_qBracket D x1.2 hx2).dle (by omega)) ?_
      refine hl_bipush d272_20 kb20 ?_
      refine hl_icmp_eq (tg := 43) d272_22 rfl (fun hc => ?_) (fun hc => ?_)
      · have h := hl_pos hc h
        exact hl_loc (p_M_qGoesOn_j43 D x1.2 h k1 k2) ⟨rfl, trivial⟩
      · have h := hl_neg hc h
        refine hl_aload_n (i := 0) d272_25 rfl rfl (by decide) ?_
        obtain ⟨x6, hx6, h⟩ := hl_bind h
        refine hl_cVi (D := (D + 2)) (z := y273) (n := 0) (av := []) (st := []) d272_26 mlM_512 rfl (Nat.le_of_ble_eq_true rfl) (Nat.le_of_ble_eq_true rfl) rc64 ((p_M_qBracket D x1.2 hx6).dle (by omega)) ?_
        refine hl_bipush d272_29 kb23 ?_
        refine hl_icmp_eq (tg := 43) d272_31 rfl (fun hc => ?_) (fun hc => ?_)
        · have h := hl_pos hc h
          exact hl_loc (p_M_qGoesOn_j43 D x1.2 h k1 k2) ⟨rfl, trivial⟩
        · have h := hl_neg hc h
          refine hl_aload_n (i := 0) d272_34 rfl rfl (by decide) ?_
          obtain ⟨x7, hx7, h⟩ := hl_bind h
          refine hl_cVi (D := (D + 2)) (z := y273) (n := 0) (av := []) (st := []) d272_35 mlM_512 rfl (Nat.le_of_ble_eq_true rfl) (Nat.le_of_ble_eq_true rfl) rc64 ((p_M_qBracket D x1.2 hx7).dle (by omega)) ?_
          refine hl_bipush d272_38 kb24 ?_
          refine hl_icmp_ne (tg := 122) d272_40 rfl (fun hc => ?_) (fun hc => ?_)
          · have h := hl_neg hc h
            have h := Option.some.inj h
            subst h
            exact hl_loc (k2 x1.2 rfl) ⟨rfl, trivial⟩
          · have h := hl_pos hc h
            exact hl_loc (p_M_qGoesOn_j43 D x1.2 h k1 k2) ⟨rfl, trivial⟩
set_option maxRecDepth 20000 in
theorem p_M_qGoesOn_j178 {X : hl_X} (D : Nat) (v1 : Int32) (σ : hl_M) {o : (hl_M) ⊕ (hl_M)} {v : Option Value} {τ : hl_M} (h : f_M_qGoesOn_j178 v1 σ = some o) (k1 : ∀ (c0 : hl_M), o = .inl c0 → hl_R X (D + 3) y272 162 [(0, .ref 64), (1, .int v1)] [] c0 v τ) (k2 : ∀ (a0 : hl_M), o = .inr a0 → hl_R X (D + 3) y272 185 [(0, .ref 64), (1, .int v1)] [] a0 v τ) : hl_R X (D + 3) y272 178 [(0, .ref 64), (1, .int v1)] [] σ v τ := by
  unfold f_M_qGoesOn_j178 at h
  refine hl_aload_n (i := 0) d272_178 rfl rfl (by decide) ?_
  obtain ⟨x11, hx11, h⟩ := hl_bind h
  refine hl_cVv (D := (D + 2)) (z := y271) (n := 0) (av := []) (st := []) d272_179 mlM_494 rfl (Nat.le_of_ble_eq_true rfl) (Nat.le_of_ble_eq_true rfl) rc64 ((p_M_qDrops D σ hx11).dle (by omega)) ?_
  refine hl_goto (tg := 162) d272_182 rfl ?_
  have h := Option.some.inj h
  subst h
  exact hl_loc (k1 x11 rfl) ⟨rfl, rfl, trivial⟩
set_option maxRecDepth 20000 in
theorem p_M_qGoesOn_L162 {X : hl_X} (D : Nat) (v1 : Int32) (s : hl_M) {o : (hl_M) ⊕ (hl_M)} {v : Option Value} {τ : hl_M} (h : f_M_qGoesOn_L162 v1 s = some o) (k1 : ∀ (c0 : hl_M), o = .inl c0 → hl_R X (D + 3) y272 162 [(0, .ref 64), (1, .int v1)] [] c0 v τ) (k2 : ∀ (a0 : hl_M), o = .inr a0 → hl_R X (D + 3) y272 185 [(0, .ref 64), (1, .int v1)] [] a0 v τ) : hl_R X (D + 3) y272 162 [(0, .ref 64), (1, .int v1)] [] s v τ := by
  unfold f_M_qGoesOn_L162 at h
  refine hl_aload_n (i := 0) d272_162 rfl rfl (by decide) ?_
  refine hl_iconst d272_163 ki3 ?_
  obtain ⟨x10, hx10, h⟩ := hl_bind h
  refine hl_cVi (D := (D + 2)) (z := y276) (n := 1) (av := [.int 3]) (st := []) d272_164 mlM_518 rfl (Nat.le_of_ble_eq_true rfl) (Nat.le_of_ble_eq_true rfl) rc64 ((p_M_qIsOn D 3 s hx10).dle (by omega)) ?_
  refine hl_if_ne (tg := 178) d272_167 rfl (fun hc => ?_) (fun hc => ?_)
  · have h := hl_neg hc h
    exact hl_loc (p_M_qGoesOn_j178 D v1 s h k1 k2) ⟨rfl, rfl, trivial⟩
  · have h := hl_pos hc h
    refine hl_aload_n (i := 0) d272_170 rfl rfl (by decide) ?_
    refine hl_iconst d272_171 ki4 ?_
    obtain ⟨x12, hx12, h⟩ := hl_bind h
    refine hl_cVi (D := (D + 2)) (z := y276) (n := 1) (av := [.int 4]) (st := []) d272_172 mlM_518 rfl (Nat.le_of_ble_eq_true rfl) (Nat.le_of_ble_eq_true rfl) rc64 ((p_M_qIsOn D 4 s hx12).dle (by omega)) ?_
    refine hl_if_eq (tg := 185) d272_175 rfl (fun hc => ?_) (fun hc => ?_)
    · have h := hl_pos hc h
      have h := Option.some.inj h
      subst h
      exact hl_loc (k2 s rfl) ⟨rfl, rfl, trivial⟩
    · have h := hl_neg hc h
      exact hl_loc (p_M_qGoesOn_j178 D v1 s h k1 k2) ⟨rfl, rfl, trivial⟩
set_option maxRecDepth 20000 in
theorem p_M_qGoesOn_j140 {X : hl_X} (D : Nat) (σ : hl_M) {r : Int32} {τ : hl_M} (h : f_M_qGoesOn_j140 σ = some (r, τ)) : hl_R X (D + 3) y272 140 [(0, .ref 64)] [] σ (some (.int r)) τ := by
  unfold f_M_qGoesOn_j140 at h
  refine hl_aload_n (i := 0) d272_140 rfl rfl (by decide) ?_
  refine hl_gr d272_141 gM_7_64 ?_
  refine hl_aload_n (i := 0) d272_144 rfl rfl (by decide) ?_
  refine hl_gi d272_145 gM_179_64 ?_
  refine hl_iconst d272_148 ki1 ?_
  refine hl_isub d272_149 ?_
  obtain ⟨hb, h⟩ := hl_gd h
  refine hl_iald d272_150 sh65 (hl_b_in hb) ?_
  refine hl_bipush d272_151 kb42 ?_
  refine hl_icmp_ne (tg := 160) d272_153 rfl (fun hc => ?_) (fun hc => ?_)
  · have h := hl_neg hc h
    refine hl_iconst d272_160 ki4 ?_
    refine hl_istore_n (i := 1) (ls2 := [(1, .int 4), (0, .ref 64)]) d272_161 rfl (by decide) rfl ?_
    obtain ⟨x13, hx13, h⟩ := hl_bind h
    refine hl_R.loc (ls' := [(0, .ref 64), (1, .int 4)]) ⟨rfl, rfl, trivial⟩ ?_
    refine hl_lp_run1 (P := fun (c0 : hl_M) => hl_R X (D + 3) y272 162 [(0, .ref 64), (1, .int 4)] [] c0 (some (.int r)) τ) (fun x : hl_M => hl_R X (D + 3) y272 185 [(0, .ref 64), (1, .int 4)] [] x (some (.int r)) τ) (fun c0 o ho h1 h2 => p_M_qGoesOn_L162 D 4 c0 ho h1 (fun a0 e => h2 a0 e)) hl_big σ x13 hx13 ?_
    refine hl_aload_n (i := 0) d272_185 rfl rfl (by decide) ?_
    refine hl_gr d272_186 gM_161_64 ?_
    refine hl_aload_n (i := 0) d272_189 rfl rfl (by decide) ?_
    refine hl_gi d272_190 gM_482_64 ?_
    refine hl_iload_n (i := 1) d272_193 rfl rfl ?_
    obtain ⟨hb, h⟩ := hl_gd h
    refine hl_iast (q := 111) d272_194 sh111 (hl_b_in hb) ?_
    refine hl_aload_n (i := 0) d272_195 rfl rfl (by decide) ?_
    refine hl_dup d272_196 rfl ?_
    refine hl_gi d272_197 gM_482_64 ?_
    refine hl_iconst d272_200 ki1 ?_
    refine hl_iadd d272_201 ?_
    refine hl_pi d272_202 qM_482_64 ?_
    refine hl_nmm h (fun σ14 h => ?_)
    refine hl_iconst d272_205 ki1 ?_
    obtain ⟨e1, e2⟩ := hl_some2 h
    subst e1; subst e2
    exact hl_zret d272_206 rfl (by decide)
  · have h := hl_pos hc h
    refine hl_iconst d272_156 ki3 ?_
    refine hl_goto (tg := 161) d272_157 rfl ?_
    refine hl_istore_n (i := 1) (ls2 := [(1, .int 3), (0, .ref 64)]) d272_161 rfl (by decide) rfl ?_
    obtain ⟨x15, hx15, h⟩ := hl_bind h
    refine hl_R.loc (ls' := [(0, .ref 64), (1, .int 3)]) ⟨rfl, rfl, trivial⟩ ?_
    refine hl_lp_run1 (P := fun (c0 : hl_M) => hl_R X (D + 3) y272 162 [(0, .ref 64), (1, .int 3)] [] c0 (some (.int r)) τ) (fun x : hl_M => hl_R X (D + 3) y272 185 [(0, .ref 64), (1, .int 3)] [] x (some (.int r)) τ) (fun c0 o ho h1 h2 => p_M_qGoesOn_L162 D 3 c0 ho h1 (fun a0 e => h2 a0 e)) hl_big σ x15 hx15 ?_
    refine hl_aload_n (i := 0) d272_185 rfl rfl (by decide) ?_
    refine hl_gr d272_186 gM_161_64 ?_
    refine hl_aload_n (i := 0) d272_189 rfl rfl (by decide) ?_
    refine hl_gi d272_190 gM_482_64 ?_
    refine hl_iload_n (i := 1) d272_193 rfl rfl ?_
    obtain ⟨hb, h⟩ := hl_gd h
    refine hl_iast (q := 111) d272_194 sh111 (hl_b_in hb) ?_
    refine hl_aload_n (i := 0) d272_195 rfl rfl (by decide) ?_
    refine hl_dup d272_196 rfl ?_
    refine hl_gi d272_197 gM_482_64 ?_
    refine hl_iconst d272_200 ki1 ?_
    refine hl_iadd d272_201 ?_
    refine hl_pi d272_202 qM_482_64 ?_
    refine hl_nmm h (fun σ16 h => ?_)
    refine hl_iconst d272_205 ki1 ?_
    obtain ⟨e1, e2⟩ := hl_some2 h
    subst e1; subst e2
    exact hl_zret d272_206 rfl (by decide)
set_option maxRecDepth 20000 in
theorem p_M_qGoesOn_j279 {X : hl_X} (D : Nat) (v1 : Int32) (σ : hl_M) {o : (hl_M) ⊕ (hl_M)} {v : Option Value} {τ : hl_M} (h : f_M_qGoesOn_j279 v1 σ = some o) (k1 : ∀ (c0 : hl_M), o = .inl c0 → hl_R X (D + 3) y272 247 [(0, .ref 64), (1, .int v1)] [] c0 v τ) (k2 : ∀ (a0 : hl_M), o = .inr a0 → hl_R X (D + 3) y272 286 [(0, .ref 64), (1, .int v1)] [] a0 v τ) : hl_R X (D + 3) y272 279 [(0, .ref 64), (1, .int v1)] [] σ v τ := by
  unfold f_M_qGoesOn_j279 at h
  refine hl_aload_n (i := 0) d272_279 rfl rfl (by decide) ?_
  obtain ⟨x20, hx20, h⟩ := hl_bind h
  refine hl_cVv (D := (D + 2)) (z := y271) (n := 0) (av := []) (st := []) d272_280 mlM_494 rfl (Nat.le_of_ble_eq_true rfl) (Nat.le_of_ble_eq_true rfl) rc64 ((p_M_qDrops D σ hx20).dle (by omega)) ?_
  refine hl_goto (tg := 247) d272_283 rfl ?_
  have h := Option.some.inj h
  subst h
  exact hl_loc (k1 x20 rfl) ⟨rfl, rfl, trivial⟩
set_option maxRecDepth 20000 in
theorem p_M_qGoesOn_L247 {X : hl_X} (D : Nat) (v1 : Int32) (s : hl_M) {o : (hl_M) ⊕ (hl_M)} {v : Option Value} {τ : hl_M} (h : f_M_qGoesOn_L247 v1 s = some o) (k1 : ∀ (c0 : hl_M), o = .inl c0 → hl_R X (D + 3) y272 247 [(0, .ref 64), (1, .int v1)] [] c0 v τ) (k2 : ∀ (a0 : hl_M), o = .inr a0 → hl_R X (D + 3) y272 286 [(0, .ref 64), (1, .int v1)] [] a0 v τ) : hl_R X (D + 3) y272 247 [(0, .ref 64), (1, .int v1)] [] s v τ := by
  unfold f_M_qGoesOn_L247 at h
  refine hl_aload_n (i := 0) d272_247 rfl rfl (by decide) ?_
  refine hl_iconst d272_248 ki3 ?_
  obtain ⟨x19, hx19, h⟩ := hl_bind h
  refine hl_cVi (D := (D + 2)) (z := y276) (n := 1) (av := [.int 3]) (st := []) d272_249 mlM_518 rfl (Nat.le_of_ble_eq_true rfl) (Nat.le_of_ble_eq_true rfl) rc64 ((p_M_qIsOn D 3 s hx19).dle (by omega)) ?_
  refine hl_if_ne (tg := 279) d272_252 rfl (fun hc => ?_) (fun hc => ?_)
  · have h := hl_neg hc h
    exact hl_loc (p_M_qGoesOn_j279 D v1 s h k1 k2) ⟨rfl, rfl, trivial⟩
  · have h := hl_pos hc h
    refine hl_aload_n (i := 0) d272_255 rfl rfl (by decide) ?_
    refine hl_iconst d272_256 ki4 ?_
    obtain ⟨x21, hx21, h⟩ := hl_bind h
    refine hl_cVi (D := (D + 2)) (z := y276) (n := 1) (av := [.int 4]) (st := []) d272_257 mlM_518 rfl (Nat.le_of_ble_eq_true rfl) (Nat.le_of_ble_eq_true rfl) rc64 ((p_M_qIsOn D 4 s hx21).dle (by omega)) ?_
    refine hl_if_ne (tg := 279) d272_260 rfl (fun hc => ?_) (fun hc => ?_)
    · have h := hl_neg hc h
      exact hl_loc (p_M_qGoesOn_j279 D v1 s h k1 k2) ⟨rfl, rfl, trivial⟩
    · have h := hl_pos hc h
      refine hl_aload_n (i := 0) d272_263 rfl rfl (by decide) ?_
      refine hl_iconst d272_264 ki1 ?_
      obtain ⟨x22, hx22, h⟩ := hl_bind h
      refine hl_cVi (D := (D + 2)) (z := y276) (n := 1) (av := [.int 1]) (st := []) d272_265 mlM_518 rfl (Nat.le_of_ble_eq_true rfl) (Nat.le_of_ble_eq_true rfl) rc64 ((p_M_qIsOn D 1 s hx22).dle (by omega)) ?_
      refine hl_if_ne (tg := 279) d272_268 rfl (fun hc => ?_) (fun hc => ?_)
      · have h := hl_neg hc h
        exact hl_loc (p_M_qGoesOn_j279 D v1 s h k1 k2) ⟨rfl, rfl, trivial⟩
      · have h := hl_pos hc h
        refine hl_aload_n (i := 0) d272_271 rfl rfl (by decide) ?_
        refine hl_iconst d272_272 ki2 ?_
        obtain ⟨x23, hx23, h⟩ := hl_bind h
        refine hl_cVi (D := (D + 2)) (z := y276) (n := 1) (av := [.int 2]) (st := []) d272_273 mlM_518 rfl (Nat.le_of_ble_eq_true rfl) (Nat.le_of_ble_eq_true rfl) rc64 ((p_M_qIsOn D 2 s hx23).dle (by omega)) ?_
        refine hl_if_eq (tg := 286) d272_276 rfl (fun hc => ?_) (fun hc => ?_)
        · have h := hl_pos hc h
          have h := Option.some.inj h
          subst h
          exact hl_loc (k2 s rfl) ⟨rfl, rfl, trivial⟩
        · have h := hl_neg hc h
          exact hl_loc (p_M_qGoesOn_j279 D v1 s h k1 k2) ⟨rfl, rfl, trivial⟩
set_option maxRecDepth 20000 in
theorem p_M_qGoesOn_j225 {X : hl_X} (D : Nat) (σ : hl_M) {r : Int32} {τ : hl_M} (h : f_M_qGoesOn_j225 σ = some (r, τ)) : hl_R X (D + 3) y272 225 [(0, .ref 64)] [] σ (some (.int r)) τ := by
  unfold f_M_qGoesOn_j225 at h
  refine hl_aload_n (i := 0) d272_225 rfl rfl (by decide) ?_
  refine hl_gr d272_226 gM_7_64 ?_
  refine hl_aload_n (i := 0) d272_229 rfl rfl (by decide) ?_
  refine hl_gi d272_230 gM_179_64 ?_
  refine hl_iconst d272_233 ki1 ?_
  refine hl_isub d272_234 ?_
  obtain ⟨hb, h⟩ := hl_gd h
  refine hl_iald d272_235 sh65 (hl_b_in hb) ?_
  refine hl_bipush d272_236 kb43 ?_
  refine hl_icmp_ne (tg := 245) d272_238 rfl (fun hc => ?_) (fun hc => ?_)
  · have h := hl_neg hc h
    refine hl_iconst d272_245 ki2 ?_
    refine hl_istore_n (i := 1) (ls2 := [(1, .int 2), (0, .ref 64)]) d272_246 rfl (by decide) rfl ?_
    obtain ⟨x24, hx24, h⟩ := hl_bind h
    refine hl_R.loc (ls' := [(0, .ref 64), (1, .int 2)]) ⟨rfl, rfl, trivial⟩ ?_
    refine hl_lp_run1 (P := fun (c0 : hl_M) => hl_R X (D + 3) y272 247 [(0, .ref 64), (1, .int 2)] [] c0 (some (.int r)) τ) (fun x : hl_M => hl_R X (D + 3) y272 286 [(0, .ref 64), (1, .int 2)] [] x (some (.int r)) τ) (fun c0 o ho h1 h2 => p_M_qGoesOn_L247 D 2 c0 ho h1 (fun a0 e => h2 a0 e)) hl_big σ x24 hx24 ?_
    refine hl_aload_n (i := 0) d272_286 rfl rfl (by decide) ?_
    refine hl_gr d272_287 gM_161_64 ?_
    refine hl_aload_n (i := 0) d272_290 rfl rfl (by decide) ?_
    refine hl_gi d272_291 gM_482_64 ?_
    refine hl_iload_n (i := 1) d272_294 rfl rfl ?_
    obtain ⟨hb, h⟩ := hl_gd h
    refine hl_iast (q := 111) d272_295 sh111 (hl_b_in hb) ?_
    refine hl_aload_n (i := 0) d272_296 rfl rfl (by decide) ?_
    refine hl_dup d272_297 rfl ?_
    refine hl_gi d272_298 gM_482_64 ?_
    refine hl_iconst d272_301 ki1 ?_
    refine hl_iadd d272_302 ?_
    refine hl_pi d272_303 qM_482_64 ?_
    refine hl_nmm h (fun σ25 h => ?_)
    refine hl_iconst d272_306 ki1 ?_
    obtain ⟨e1, e2⟩ := hl_some2 h
    subst e1; subst e2
    exact hl_zret d272_307 rfl (by decide)
  · have h := hl_pos hc h
    refine hl_iconst d272_241 ki1 ?_
    refine hl_goto (tg := 246) d272_242 rfl ?_
    refine hl_istore_n (i := 1) (ls2 := [(1, .int 1), (0, .ref 64)]) d272_246 rfl (by decide) rfl ?_
    obtain ⟨x26, hx26, h⟩ := hl_bind h
    refine hl_R.loc (ls' := [(0, .ref 64), (1, .int 1)]) ⟨rfl, rfl, trivial⟩ ?_
    refine hl_lp_run1 (P := fun (c0 : hl_M) => hl_R X (D + 3) y272 247 [(0, .ref 64), (1, .int 1)] [] c0 (some (.int r)) τ) (fun x : hl_M => hl_R X (D + 3) y272 286 [(0, .ref 64), (1, .int 1)] [] x (some (.int r)) τ) (fun c0 o ho h1 h2 => p_M_qGoesOn_L247 D 1 c0 ho h1 (fun a0 e => h2 a0 e)) hl_big σ x26 hx26 ?_
    refine hl_aload_n (i := 0) d272_286 rfl rfl (by decide) ?_
    refine hl_gr d272_287 gM_161_64 ?_
    refine hl_aload_n (i := 0) d272_290 rfl rfl (by decide) ?_
    refine hl_gi d272_291 gM_482_64 ?_
    refine hl_iload_n (i := 1) d272_294 rfl rfl ?_
    obtain ⟨hb, h⟩ := hl_gd h
    refine hl_iast (q := 111) d272_295 sh111 (hl_b_in hb) ?_
    refine hl_aload_n (i := 0) d272_296 rfl rfl (by decide) ?_
    refine hl_dup d272_297 rfl ?_
    refine hl_gi d272_298 gM_482_64 ?_
    refine hl_iconst d272_301 ki1 ?_
    refine hl_iadd d272_302 ?_
    refine hl_pi d272_303 qM_482_64 ?_
    refine hl_nmm h (fun σ27 h => ?_)
    refine hl_iconst d272_306 ki1 ?_
    obtain ⟨e1, e2⟩ := hl_some2 h
    subst e1; subst e2
    exact hl_zret d272_307 rfl (by decide)
set_option maxRecDepth 20000 in
theorem p_M_qGoesOn_j326 {X : hl_X} (D : Nat) (σ : hl_M) {r : Int32} {τ : hl_M} (h : f_M_qGoesOn_j326 σ = some (r, τ)) : hl_R X (D + 3) y272 326 [(0, .ref 64)] [] σ (some (.int r)) τ := by
  unfold f_M_qGoesOn_j326 at h
  refine hl_aload_n (i := 0) d272_326 rfl rfl (by decide) ?_
  refine hl_bipush d272_327 kb44 ?_
  obtain ⟨x30, hx30, h⟩ := hl_bind h
  refine hl_cVv (D := (D + 2)) (z := y71) (n := 1) (av := [.int 44]) (st := []) d272_329 mlM_295 rfl (Nat.le_of_ble_eq_true rfl) (Nat.le_of_ble_eq_true rfl) rc64 ((p_M_asksSign D 44 σ hx30).dle (by omega)) ?_
  refine hl_aload_n (i := 0) d272_332 rfl rfl (by decide) ?_
  refine hl_gi d272_333 gM_173_64 ?_
  refine hl_if_eq (tg := 341) d272_336 rfl (fun hc => ?_) (fun hc => ?_)
  · have h := hl_pos hc h
    refine hl_aload_n (i := 0) d272_341 rfl rfl (by decide) ?_
    obtain ⟨x31, hx31, h⟩ := hl_bind h
    refine hl_cVv (D := (D + 2)) (z := y275) (n := 0) (av := []) (st := []) d272_342 mlM_515 rfl (Nat.le_of_ble_eq_true rfl) (Nat.le_of_ble_eq_true rfl) rc64 ((p_M_qDropsToBracket D x30 hx31).dle (by omega)) ?_
    refine hl_aload_n (i := 0) d272_345 rfl rfl (by decide) ?_
    refine hl_gr d272_346 gM_161_64 ?_
    refine hl_aload_n (i := 0) d272_349 rfl rfl (by decide) ?_
    refine hl_gi d272_350 gM_482_64 ?_
    refine hl_iconst d272_353 ki1 ?_
    refine hl_isub d272_354 ?_
    refine hl_dup2 d272_355 rfl rfl ?_
    obtain ⟨hb, h⟩ := hl_gd h
    refine hl_iald d272_356 sh111 (hl_b_in hb) ?_
    refine hl_iconst d272_357 ki2 ?_
    refine hl_iadd d272_358 ?_
    obtain ⟨hb, h⟩ := hl_gd h
    refine hl_iast (q := 111) d272_359 sh111 (hl_b_in hb) ?_
    refine hl_iconst d272_360 ki1 ?_
    obtain ⟨e1, e2⟩ := hl_some2 h
    subst e1; subst e2
    exact hl_zret d272_361 rfl (by decide)
  · have h := hl_neg hc h
    refine hl_iconst d272_339 ki0 ?_
    obtain ⟨e1, e2⟩ := hl_some2 h
    subst e1; subst e2
    exact hl_zret d272_340 rfl (by decide)
set_option maxRecDepth 20000 in
theorem p_M_qGoesOn {X : hl_X} (D : Nat) (σ : hl_M) {r : Int32} {τ : hl_M} (h : f_M_qGoesOn σ = some (r, τ)) : hl_R X (D + 3) y272 0 [(0, .ref 64)] [] σ (some (.int r)) τ := by
  unfold f_M_qGoesOn at h
  obtain ⟨x8, hx8, h⟩ := hl_bind h
  refine hl_R.loc (ls' := [(0, .ref 64)]) ⟨rfl, trivial⟩ ?_
  refine hl_lp_run1 (P := fun (c0 : hl_M) => hl_R X (D + 3) y272 0 [(0, .ref 64)] [] c0 (some (.int r)) τ) (fun x : hl_M => hl_R X (D + 3) y272 122 [(0, .ref 64)] [] x (some (.int r)) τ) (fun c0 o ho h1 h2 => p_M_qGoesOn_L0 D c0 ho h1 (fun a0 e => h2 a0 e)) hl_big σ x8 hx8 ?_
  refine hl_aload_n (i := 0) d272_122 rfl rfl (by decide) ?_
  refine hl_bipush d272_123 kb42 ?_
  obtain ⟨x9, hx9, h⟩ := hl_bind h
  refine hl_cVi (D := (D + 2)) (z := y72) (n := 1) (av := [.int 42]) (st := []) d272_125 mlM_207 rfl (Nat.le_of_ble_eq_true rfl) (Nat.le_of_ble_eq_true rfl) rc64 ((p_M_takesSign D 42 x8 hx9).dle (by omega)) ?_
  refine hl_if_ne (tg := 140) d272_128 rfl (fun hc => ?_) (fun hc => ?_)
  · have h := hl_neg hc h
    exact hl_loc (p_M_qGoesOn_j140 D x9.2 h) ⟨rfl, trivial⟩
  · have h := hl_pos hc h
    refine hl_aload_n (i := 0) d272_131 rfl rfl (by decide) ?_
    refine hl_bipush d272_132 kb47 ?_
    obtain ⟨x17, hx17, h⟩ := hl_bind h
    refine hl_cVi (D := (D + 2)) (z := y72) (n := 1) (av := [.int 47]) (st := []) d272_134 mlM_207 rfl (Nat.le_of_ble_eq_true rfl) (Nat.le_of_ble_eq_true rfl) rc64 ((p_M_takesSign D 47 x9.2 hx17).dle (by omega)) ?_
    refine hl_if_eq (tg := 207) d272_137 rfl (fun hc => ?_) (fun hc => ?_)
    · have h := hl_pos hc h
      refine hl_aload_n (i := 0) d272_207 rfl rfl (by decide) ?_
      refine hl_bipush d272_208 kb43 ?_
      obtain ⟨x18, hx18, h⟩ := hl_bind h
      refine hl_cVi (D := (D + 2)) (z := y72) (n := 1) (av := [.int 43]) (st := []) d272_210 mlM_207 rfl (Nat.le_of_ble_eq_true rfl) (Nat.le_of_ble_eq_true rfl) rc64 ((p_M_takesSign D 43 x17.2 hx18).dle (by omega)) ?_
      refine hl_if_ne (tg := 225) d272_213 rfl (fun hc => ?_) (fun hc => ?_)
      · have h := hl_neg hc h
        exact hl_loc (p_M_qGoesOn_j225 D x18.2 h) ⟨rfl, trivial⟩
      · have h := hl_pos hc h
        refine hl_aload_n (i := 0) d272_216 rfl rfl (by decide) ?_
        refine hl_bipush d272_217 kb45 ?_
        obtain ⟨x28, hx28, h⟩ := hl_bind h
        refine hl_cVi (D := (D + 2)) (z := y72) (n := 1) (av := [.int 45]) (st := []) d272_219 mlM_207 rfl (Nat.le_of_ble_eq_true rfl) (Nat.le_of_ble_eq_true rfl) rc64 ((p_M_takesSign D 45 x18.2 hx28).dle (by omega)) ?_
        refine hl_if_eq (tg := 308) d272_222 rfl (fun hc => ?_) (fun hc => ?_)
        · have h := hl_pos hc h
          refine hl_aload_n (i := 0) d272_308 rfl rfl (by decide) ?_
          obtain ⟨x29, hx29, h⟩ := hl_bind h
          refine hl_cVi (D := (D + 2)) (z := y273) (n := 0) (av := []) (st := []) d272_309 mlM_512 rfl (Nat.le_of_ble_eq_true rfl) (Nat.le_of_ble_eq_true rfl) rc64 ((p_M_qBracket D x28.2 hx29).dle (by omega)) ?_
          refine hl_bipush d272_312 kb21 ?_
          refine hl_icmp_eq (tg := 326) d272_314 rfl (fun hc => ?_) (fun hc => ?_)
          · have h := hl_pos hc h
            exact hl_loc (p_M_qGoesOn_j326 D x28.2 h) ⟨rfl, trivial⟩
          · have h := hl_neg hc h
            refine hl_aload_n (i := 0) d272_317 rfl rfl (by decide) ?_
            obtain ⟨x32, hx32, h⟩ := hl_bind h
            refine hl_cVi (D := (D + 2)) (z := y273) (n := 0) (av := []) (st := []) d272_318 mlM_512 rfl (Nat.le_of_ble_eq_true rfl) (Nat.le_of_ble_eq_true rfl) rc64 ((p_M_qBracket D x28.2 hx32).dle (by omega)) ?_
            refine hl_bipush d272_321 kb22 ?_
            refine hl_icmp_ne (tg := 362) d272_323 rfl (fun hc => ?_) (fun hc => ?_)
            · have h := hl_neg hc h
              refine hl_aload_n (i := 0) d272_362 rfl rfl (by decide) ?_
              obtain ⟨x33, hx33, h⟩ := hl_bind h
              refine hl_cVi (D := (D + 2)) (z := y273) (n := 0) (av := []) (st := []) d272_363 mlM_512 rfl (Nat.le_of_ble_eq_true rfl) (Nat.le_of_ble_eq_true rfl) rc64 ((p_M_qBracket D x28.2 hx33).dle (by omega)) ?_
              refine hl_iconst d272_366 kim1 ?_
              refine hl_icmp_eq (tg := 386) d272_367 rfl (fun hc => ?_) (fun hc => ?_)
              · have h := hl_pos hc h
                refine hl_iconst d272_386 ki0 ?_
                obtain ⟨e1, e2⟩ := hl_some2 h
                subst e1; subst e2
                exact hl_zret d272_387 rfl (by decide)
              · have h := hl_neg hc h
                refine hl_aload_n (i := 0) d272_370 rfl rfl (by decide) ?_
                refine hl_gi d272_371 gM_173_64 ?_
                refine hl_if_ne (tg := 386) d272_374 rfl (fun hc => ?_) (fun hc => ?_)
                · have h := hl_neg hc h
                  refine hl_iconst d272_386 ki0 ?_
                  obtain ⟨e1, e2⟩ := hl_some2 h
                  subst e1; subst e2
                  exact hl_zret d272_387 rfl (by decide)
                · have h := hl_pos hc h
                  refine hl_aload_n (i := 0) d272_377 rfl rfl (by decide) ?_
                  refine hl_iconst d272_378 ki1 ?_
                  refine hl_aload_n (i := 0) d272_379 rfl rfl (by decide) ?_
                  refine hl_gi d272_380 gM_179_64 ?_
                  refine hl_cVv (D := (D + 2)) (z := y67) (n := 2) (av := [.int 1, .int (x28.2.1 64 2)]) (st := []) d272_383 mlM_203 rfl (Nat.le_of_ble_eq_true rfl) (Nat.le_of_ble_eq_true rfl) rc64 ((p_M_fail D 1 (x28.2.1 64 2) x28.2 rfl).dle (by omega)) ?_
                  refine hl_iconst d272_386 ki0 ?_
                  obtain ⟨e1, e2⟩ := hl_some2 h
                  subst e1; subst e2
                  exact hl_zret d272_387 rfl (by decide)
            · have h := hl_pos hc h
              exact hl_loc (p_M_qGoesOn_j326 D x28.2 h) ⟨rfl, trivial⟩
        · have h := hl_neg hc h
          exact hl_loc (p_M_qGoesOn_j225 D x28.2 h) ⟨rfl, trivial⟩
    · have h := hl_neg hc h
      exact hl_loc (p_M_qGoesOn_j140 D x17.2 h) ⟨rfl, trivial⟩
def f_M_qSums_L15 (v1 : Int32) (s : Int32 × hl_M) : Option ((Int32 × hl_M) ⊕ (hl_M)) :=
  if s.1 = 0 then
  some (.inr s.2) else
  if (s.2.1 64 5) = 0 then
  (f_M_qPartTold s.2).bind fun x1 =>
  if (x1.1 64 5) = 0 then
  (f_M_qGoesOn x1).bind fun x2 =>
  if x2.1 = 0 then
  some (.inl ((0, x2.2))) else
  some (.inl ((1, x2.2))) else
  some (.inl ((0, x1))) else
  some (.inr s.2)
def f_M_qSums_L53 (v1 : Int32) (s : hl_M) : Option ((hl_M) ⊕ (hl_M)) :=
  if (s.1 64 5) = 0 then
  if (s.1 64 74) ≤ (s.1 64 76) then
  some (.inr s) else
  (f_M_qDrops s).bind fun x4 =>
  some (.inl x4) else
  some (.inr s)
def f_M_qSums (σ : hl_M) : Option (hl_M) :=
  (hl_lp (f_M_qSums_L15 (σ.1 64 76)) hl_big ((1, hl_si σ 64 76 (σ.1 64 74)))).bind fun x3 =>
  (hl_lp (f_M_qSums_L53 (σ.1 64 76)) hl_big x3).bind fun x5 =>
  some (hl_si x5 64 76 (σ.1 64 76))
set_option maxRecDepth 20000 in
theorem p_M_qSums_L15 {X : hl_X} (D : Nat) (v1 : Int32) (s : Int32 × hl_M) {o : (Int32 × hl_M) ⊕ (hl_M)} {v : Option Value} {τ : hl_M} (h : f_M_qSums_L15 v1 s = some o) (k1 : ∀ (c0 : Int32) (c1 : hl_M), o = .inl ((c0, c1)) → hl_R X (D + 6) y263 15 [(0, .ref 64), (1, .int v1), (2, .int c0)] [] c1 v τ) (k2 : ∀ (a0 : hl_M), o = .inr a0 → hl_R X (D + 6) y263 53 [(0, .ref 64), (1, .int v1)] [] a0 v τ) : hl_R X (D + 6) y263 15 [(0, .ref 64), (1, .int v1), (2, .int s.1)] [] s.2 v τ := by
  unfold f_M_qSums_L15 at h
  refine hl_iload_n (i := 2) d263_15 rfl rfl ?_
  refine hl_if_eq (tg := 53) d263_16 rfl (fun hc => ?_) (fun hc => ?_)
  · have h := hl_pos hc h
    have h := Option.some.inj h
    subst h
    exact hl_loc (k2 s.2 rfl) ⟨rfl, rfl, trivial⟩
  · have h := hl_neg hc h
    refine hl_aload_n (i := 0) d263_19 rfl rfl (by decide) ?_
    refine hl_gi d263_20 gM_173_64 ?_
    refine hl_if_ne (tg := 53) d263_23 rfl (fun hc => ?_) (fun hc => ?_)
    · have h := hl_neg hc h
      have h := Option.some.inj h
      subst h
      exact hl_loc (k2 s.2 rfl) ⟨rfl, rfl, trivial⟩
    · have h := hl_pos hc h
      refine hl_aload_n (i := 0) d263_26 rfl rfl (by decide) ?_
      obtain ⟨x1, hx1, h⟩ := hl_bind h
      refine hl_cVv (D := (D + 5)) (z := y264) (n := 0) (av := []) (st := []) d263_27 mlM_521 rfl (Nat.le_of_ble_eq_true rfl) (Nat.le_of_ble_eq_true rfl) rc64 ((p_M_qPartTold D s.2 hx1).dle (by omega)) ?_
      refine hl_aload_n (i := 0) d263_30 rfl rfl (by decide) ?_
      refine hl_gi d263_31 gM_173_64 ?_
      refine hl_if_ne (tg := 48) d263_34 rfl (fun hc => ?_) (fun hc => ?_)
      · have h := hl_neg hc h
        refine hl_iconst d263_48 ki0 ?_
        refine hl_istore_n (i := 2) (ls2 := [(2, .int 0), (0, .ref 64), (1, .int v1)]) d263_49 rfl (by decide) rfl ?_
        refine hl_goto (tg := 15) d263_50 rfl ?_
        have h := Option.some.inj h
        subst h
        exact hl_loc (k1 0 x1 rfl) ⟨rfl, rfl, rfl, trivial⟩
      · have h := hl_pos hc h
        refine hl_aload_n (i := 0) d263_37 rfl rfl (by decide) ?_
        obtain ⟨x2, hx2, h⟩ := hl_bind h
        refine hl_cVi (D := (D + 5)) (z := y272) (n := 0) (av := []) (st := []) d263_38 mlM_524 rfl (Nat.le_of_ble_eq_true rfl) (Nat.le_of_ble_eq_true rfl) rc64 ((p_M_qGoesOn D x1 hx2).dle (by omega)) ?_
        refine hl_if_eq (tg := 48) d263_41 rfl (fun hc => ?_) (fun hc => ?_)
        · have h := hl_pos hc h
          refine hl_iconst d263_48 ki0 ?_
          refine hl_istore_n (i := 2) (ls2 := [(2, .int 0), (0, .ref 64), (1, .int v1)]) d263_49 rfl (by decide) rfl ?_
          refine hl_goto (tg := 15) d263_50 rfl ?_
          have h := Option.some.inj h
          subst h
          exact hl_loc (k1 0 x2.2 rfl) ⟨rfl, rfl, rfl, trivial⟩
        · have h := hl_neg hc h
          refine hl_iconst d263_44 ki1 ?_
          refine hl_goto (tg := 49) d263_45 rfl ?_
          refine hl_istore_n (i := 2) (ls2 := [(2, .int 1), (0, .ref 64), (1, .int v1)]) d263_49 rfl (by decide) rfl ?_
          refine hl_goto (tg := 15) d263_50 rfl ?_
          have h := Option.some.inj h
          subst h
          exact hl_loc (k1 1 x2.2 rfl) ⟨rfl, rfl, rfl, trivial⟩
set_option maxRecDepth 20000 in
theorem p_M_qSums_L53 {X : hl_X} (D : Nat) (v1 : Int32) (s : hl_M) {o : (hl_M) ⊕ (hl_M)} {v : Option Value} {τ : hl_M} (h : f_M_qSums_L53 v1 s = some o) (k1 : ∀ (c0 : hl_M), o = .inl c0 → hl_R X (D + 6) y263 53 [(0, .ref 64), (1, .int v1)] [] c0 v τ) (k2 : ∀ (a0 : hl_M), o = .inr a0 → hl_R X (D + 6) y263 78 [(0, .ref 64), (1, .int v1)] [] a0 v τ) : hl_R X (D + 6) y263 53 [(0, .ref 64), (1, .int v1)] [] s v τ := by
  unfold f_M_qSums_L53 at h
  refine hl_aload_n (i := 0) d263_53 rfl rfl (by decide) ?_
  refine hl_gi d263_54 gM_173_64 ?_
  refine hl_if_ne (tg := 78) d263_57 rfl (fun hc => ?_) (fun hc => ?_)
  · have h := hl_neg hc h
    have h := Option.some.inj h
    subst h
    exact hl_loc (k2 s rfl) ⟨rfl, rfl, trivial⟩
  · have h := hl_pos hc h
    refine hl_aload_n (i := 0) d263_60 rfl rfl (by decide) ?_
    refine hl_gi d263_61 gM_482_64 ?_
    refine hl_aload_n (i := 0) d263_64 rfl rfl (by decide) ?_
    refine hl_gi d263_65 gM_488_64 ?_
    refine hl_icmp_le (tg := 78) d263_68 rfl (fun hc => ?_) (fun hc => ?_)
    · have h := hl_pos hc h
      have h := Option.some.inj h
      subst h
      exact hl_loc (k2 s rfl) ⟨rfl, rfl, trivial⟩
    · have h := hl_neg hc h
      refine hl_aload_n (i := 0) d263_71 rfl rfl (by decide) ?_
      obtain ⟨x4, hx4, h⟩ := hl_bind h
      refine hl_cVv (D := (D + 5)) (z := y271) (n := 0) (av := []) (st := []) d263_72 mlM_494 rfl (Nat.le_of_ble_eq_true rfl) (Nat.le_of_ble_eq_true rfl) rc64 ((p_M_qDrops D s hx4).dle (by omega)) ?_
      refine hl_goto (tg := 53) d263_75 rfl ?_
      have h := Option.some.inj h
      subst h
      exact hl_loc (k1 x4 rfl) ⟨rfl, rfl, trivial⟩
set_option maxRecDepth 20000 in
theorem p_M_qSums {X : hl_X} (D : Nat) (σ : hl_M) {τ : hl_M} (h : f_M_qSums σ = some τ) : hl_R X (D + 6) y263 0 [(0, .ref 64)] [] σ none τ := by
  unfold f_M_qSums at h
  refine hl_aload_n (i := 0) d263_0 rfl rfl (by decide) ?_
  refine hl_gi d263_1 gM_488_64 ?_
  refine hl_istore_n (i := 1) (ls2 := [(1, .int (σ.1 64 76)), (0, .ref 64)]) d263_4 rfl (by decide) rfl ?_
  refine hl_aload_n (i := 0) d263_5 rfl rfl (by decide) ?_
  refine hl_aload_n (i := 0) d263_6 rfl rfl (by decide) ?_
  refine hl_gi d263_7 gM_482_64 ?_
  refine hl_pi d263_10 qM_488_64 ?_
  refine hl_iconst d263_13 ki1 ?_
  refine hl_istore_n (i := 2) (ls2 := [(2, .int 1), (1, .int (σ.1 64 76)), (0, .ref 64)]) d263_14 rfl (by decide) rfl ?_
  obtain ⟨x3, hx3, h⟩ := hl_bind h
  refine hl_R.loc (ls' := [(0, .ref 64), (1, .int (σ.1 64 76)), (2, .int 1)]) ⟨rfl, rfl, rfl, trivial⟩ ?_
  refine hl_lp_run2 (P := fun (c0 : Int32) (c1 : hl_M) => hl_R X (D + 6) y263 15 [(0, .ref 64), (1, .int (σ.1 64 76)), (2, .int c0)] [] c1 none τ) (fun x : hl_M => hl_R X (D + 6) y263 53 [(0, .ref 64), (1, .int (σ.1 64 76))] [] x none τ) (fun c0 c1 o ho h1 h2 => p_M_qSums_L15 D (σ.1 64 76) (c0, c1) ho h1 (fun a0 e => h2 a0 e)) hl_big 1 (hl_si σ 64 76 (σ.1 64 74)) x3 hx3 ?_
  obtain ⟨x5, hx5, h⟩ := hl_bind h
  refine hl_R.loc (ls' := [(0, .ref 64), (1, .int (σ.1 64 76))]) ⟨rfl, rfl, trivial⟩ ?_
  refine hl_lp_run1 (P := fun (c0 : hl_M) => hl_R X (D + 6) y263 53 [(0, .ref 64), (1, .int (σ.1 64 76))] [] c0 none τ) (fun x : hl_M => hl_R X (D + 6) y263 78 [(0, .ref 64), (1, .int (σ.1 64 76))] [] x none τ) (fun c0 o ho h1 h2 => p_M_qSums_L53 D (σ.1 64 76) c0 ho h1 (fun a0 e => h2 a0 e)) hl_big x3 x5 hx5 ?_
  refine hl_aload_n (i := 0) d263_78 rfl rfl (by decide) ?_
  refine hl_iload_n (i := 1) d263_79 rfl rfl ?_
  refine hl_pi d263_80 qM_488_64 ?_
  have h := Option.some.inj h
  subst h
  exact hl_vret d263_83 rfl
def f_M_qFact_j102 (s0 : Int32) (σ : hl_M) : Option (hl_M) :=
  (f_M_qCode s0 σ).bind fun x5 =>
  some x5
def f_M_qFact_j63 (v1 : Int32) (σ : hl_M) : Option (hl_M) :=
  (f_M_qSums (hl_si σ 64 2 ((σ.1 64 2) + 1))).bind fun x4 =>
  if v1 = 60 then
  f_M_qFact_j102 7 x4 else
  if v1 = 62 then
  f_M_qFact_j102 8 x4 else
  f_M_qFact_j102 9 x4
def f_M_qFact (σ : hl_M) : Option (hl_M) :=
  (f_M_takes 100 σ).bind fun x1 =>
  if x1.1 = 0 then
  (f_M_qSums x1.2).bind fun x2 =>
  if (x2.1 64 5) = 0 then
  (f_M_look x2).bind fun x3 =>
  if x3.1 = 60 then
  f_M_qFact_j63 x3.1 x3.2 else
  if x3.1 = 62 then
  f_M_qFact_j63 x3.1 x3.2 else
  if x3.1 = 61 then
  f_M_qFact_j63 x3.1 x3.2 else
  some (f_M_fail 1 (x3.2.1 64 2) x3.2) else
  some x2 else
  (f_M_qCode 13 x1.2).bind fun x6 =>
  some x6
set_option maxRecDepth 20000 in
theorem p_M_qFact_j102 {X : hl_X} (D : Nat) (s0 : Int32) (σ : hl_M) {τ : hl_M} (h : f_M_qFact_j102 s0 σ = some τ) : hl_R X (D + 7) y278 102 [] [.int s0, .ref 64] σ none τ := by
  unfold f_M_qFact_j102 at h
  obtain ⟨x5, hx5, h⟩ := hl_bind h
  refine hl_cVv (D := (D + 6)) (z := y269) (n := 1) (av := [.int s0]) (st := []) d278_102 mlM_485 rfl (Nat.le_of_ble_eq_true rfl) (Nat.le_of_ble_eq_true rfl) rc64 ((p_M_qCode D s0 σ hx5).dle (by omega)) ?_
  have h := Option.some.inj h
  subst h
  exact hl_vret d278_105 rfl
set_option maxRecDepth 20000 in
theorem p_M_qFact_j63 {X : hl_X} (D : Nat) (v1 : Int32) (σ : hl_M) {τ : hl_M} (h : f_M_qFact_j63 v1 σ = some τ) : hl_R X (D + 7) y278 63 [(0, .ref 64), (1, .int v1)] [] σ none τ := by
  unfold f_M_qFact_j63 at h
  refine hl_aload_n (i := 0) d278_63 rfl rfl (by decide) ?_
  refine hl_dup d278_64 rfl ?_
  refine hl_gi d278_65 gM_179_64 ?_
  refine hl_iconst d278_68 ki1 ?_
  refine hl_iadd d278_69 ?_
  refine hl_pi d278_70 qM_179_64 ?_
  refine hl_aload_n (i := 0) d278_73 rfl rfl (by decide) ?_
  obtain ⟨x4, hx4, h⟩ := hl_bind h
  refine hl_cVv (D := (D + 6)) (z := y263) (n := 0) (av := []) (st := []) d278_74 mlM_527 rfl (Nat.le_of_ble_eq_true rfl) (Nat.le_of_ble_eq_true rfl) rc64 ((p_M_qSums D (hl_si σ 64 2 ((σ.1 64 2) + 1)) hx4).dle (by omega)) ?_
  refine hl_aload_n (i := 0) d278_77 rfl rfl (by decide) ?_
  refine hl_iload_n (i := 1) d278_78 rfl rfl ?_
  refine hl_bipush d278_79 kb60 ?_
  refine hl_icmp_ne (tg := 89) d278_81 rfl (fun hc => ?_) (fun hc => ?_)
  · have h := hl_neg hc h
    refine hl_iload_n (i := 1) d278_89 rfl rfl ?_
    refine hl_bipush d278_90 kb62 ?_
    refine hl_icmp_ne (tg := 100) d278_92 rfl (fun hc => ?_) (fun hc => ?_)
    · have h := hl_neg hc h
      refine hl_bipush d278_100 kb9 ?_
      exact hl_loc (p_M_qFact_j102 D 9 x4 h) trivial
    · have h := hl_pos hc h
      refine hl_bipush d278_95 kb8 ?_
      refine hl_goto (tg := 102) d278_97 rfl ?_
      exact hl_loc (p_M_qFact_j102 D 8 x4 h) trivial
  · have h := hl_pos hc h
    refine hl_bipush d278_84 kb7 ?_
    refine hl_goto (tg := 102) d278_86 rfl ?_
    exact hl_loc (p_M_qFact_j102 D 7 x4 h) trivial
set_option maxRecDepth 20000 in
theorem p_M_qFact {X : hl_X} (D : Nat) (σ : hl_M) {τ : hl_M} (h : f_M_qFact σ = some τ) : hl_R X (D + 7) y278 0 [(0, .ref 64)] [] σ none τ := by
  unfold f_M_qFact at h
  refine hl_aload_n (i := 0) d278_0 rfl rfl (by decide) ?_
  refine hl_aload_n (i := 0) d278_1 rfl rfl (by decide) ?_
  refine hl_gr d278_2 gM_128_64 ?_
  obtain ⟨x1, hx1, h⟩ := hl_bind h
  refine hl_cVi (D := (D + 6)) (z := y63) (n := 1) (av := [.ref 100]) (st := []) d278_5 mlM_200 rfl (Nat.le_of_ble_eq_true rfl) (Nat.le_of_ble_eq_true rfl) rc64 ((p_M_takes D 100 (by decide) σ hx1).dle (by omega)) ?_
  refine hl_if_eq (tg := 18) d278_8 rfl (fun hc => ?_) (fun hc => ?_)
  · have h := hl_pos hc h
    refine hl_aload_n (i := 0) d278_18 rfl rfl (by decide) ?_
    obtain ⟨x2, hx2, h⟩ := hl_bind h
    refine hl_cVv (D := (D + 6)) (z := y263) (n := 0) (av := []) (st := []) d278_19 mlM_527 rfl (Nat.le_of_ble_eq_true rfl) (Nat.le_of_ble_eq_true rfl) rc64 ((p_M_qSums D x1.2 hx2).dle (by omega)) ?_
    refine hl_aload_n (i := 0) d278_22 rfl rfl (by decide) ?_
    refine hl_gi d278_23 gM_173_64 ?_
    refine hl_if_eq (tg := 30) d278_26 rfl (fun hc => ?_) (fun hc => ?_)
    · have h := hl_pos hc h
      refine hl_aload_n (i := 0) d278_30 rfl rfl (by decide) ?_
      obtain ⟨x3, hx3, h⟩ := hl_bind h
      refine hl_cVi (D := (D + 6)) (z := y65) (n := 0) (av := []) (st := []) d278_31 mlM_185 rfl (Nat.le_of_ble_eq_true rfl) (Nat.le_of_ble_eq_true rfl) rc64 ((p_M_look D x2 hx3).dle (by omega)) ?_
      refine hl_istore_n (i := 1) (ls2 := [(1, .int x3.1), (0, .ref 64)]) d278_34 rfl (by decide) rfl ?_
      refine hl_iload_n (i := 1) d278_35 rfl rfl ?_
      refine hl_bipush d278_36 kb60 ?_
      refine hl_icmp_eq (tg := 63) d278_38 rfl (fun hc => ?_) (fun hc => ?_)
      · have h := hl_pos hc h
        exact hl_loc (p_M_qFact_j63 D x3.1 x3.2 h) ⟨rfl, rfl, trivial⟩
      · have h := hl_neg hc h
        refine hl_iload_n (i := 1) d278_41 rfl rfl ?_
        refine hl_bipush d278_42 kb62 ?_
        refine hl_icmp_eq (tg := 63) d278_44 rfl (fun hc => ?_) (fun hc => ?_)
        · have h := hl_pos hc h
          exact hl_loc (p_M_qFact_j63 D x3.1 x3.2 h) ⟨rfl, rfl, trivial⟩
        · have h := hl_neg hc h
          refine hl_iload_n (i := 1) d278_47 rfl rfl ?_
          refine hl_bipush d278_48 kb61 ?_
          refine hl_icmp_eq (tg := 63) d278_50 rfl (fun hc => ?_) (fun hc => ?_)
          · have h := hl_pos hc h
            exact hl_loc (p_M_qFact_j63 D x3.1 x3.2 h) ⟨rfl, rfl, trivial⟩
          · have h := hl_neg hc h
            refine hl_aload_n (i := 0) d278_53 rfl rfl (by decide) ?_
            refine hl_iconst d278_54 ki1 ?_
            refine hl_aload_n (i := 0) d278_55 rfl rfl (by decide) ?_
            refine hl_gi d278_56 gM_179_64 ?_
            refine hl_cVv (D := (D + 6)) (z := y67) (n := 2) (av := [.int 1, .int (x3.2.1 64 2)]) (st := []) d278_59 mlM_203 rfl (Nat.le_of_ble_eq_true rfl) (Nat.le_of_ble_eq_true rfl) rc64 ((p_M_fail D 1 (x3.2.1 64 2) x3.2 rfl).dle (by omega)) ?_
            have h := Option.some.inj h
            subst h
            exact hl_vret d278_62 rfl
    · have h := hl_neg hc h
      have h := Option.some.inj h
      subst h
      exact hl_vret d278_29 rfl
  · have h := hl_neg hc h
    refine hl_aload_n (i := 0) d278_11 rfl rfl (by decide) ?_
    refine hl_bipush d278_12 kb13 ?_
    obtain ⟨x6, hx6, h⟩ := hl_bind h
    refine hl_cVv (D := (D + 6)) (z := y269) (n := 1) (av := [.int 13]) (st := []) d278_14 mlM_485 rfl (Nat.le_of_ble_eq_true rfl) (Nat.le_of_ble_eq_true rfl) rc64 ((p_M_qCode D 13 x1.2 hx6).dle (by omega)) ?_
    have h := Option.some.inj h
    subst h
    exact hl_vret d278_17 rfl
def f_M_qDropsNots_L0 (s : hl_M) : Option ((hl_M) ⊕ (hl_M)) :=
  if (s.1 64 5) = 0 then
  (f_M_qIsOn 12 s).bind fun x1 =>
  if x1 = 0 then
  some (.inr s) else
  (f_M_qDrops (hl_si s 64 75 ((s.1 64 75) - 1))).bind fun x2 =>
  some (.inl x2) else
  some (.inr s)
def f_M_qDropsNots (σ : hl_M) : Option (hl_M) :=
  (hl_lp (f_M_qDropsNots_L0) hl_big σ).bind fun x3 =>
  some x3
set_option maxRecDepth 20000 in
theorem p_M_qDropsNots_L0 {X : hl_X} (D : Nat) (s : hl_M) {o : (hl_M) ⊕ (hl_M)} {v : Option Value} {τ : hl_M} (h : f_M_qDropsNots_L0 s = some o) (k1 : ∀ (c0 : hl_M), o = .inl c0 → hl_R X (D + 2) y279 0 [(0, .ref 64)] [] c0 v τ) (k2 : ∀ (a0 : hl_M), o = .inr a0 → hl_R X (D + 2) y279 33 [] [] a0 v τ) : hl_R X (D + 2) y279 0 [(0, .ref 64)] [] s v τ := by
  unfold f_M_qDropsNots_L0 at h
  refine hl_aload_n (i := 0) d279_0 rfl rfl (by decide) ?_
  refine hl_gi d279_1 gM_173_64 ?_
  refine hl_if_ne (tg := 33) d279_4 rfl (fun hc => ?_) (fun hc => ?_)
  · have h := hl_neg hc h
    have h := Option.some.inj h
    subst h
    exact hl_loc (k2 s rfl) trivial
  · have h := hl_pos hc h
    refine hl_aload_n (i := 0) d279_7 rfl rfl (by decide) ?_
    refine hl_bipush d279_8 kb12 ?_
    obtain ⟨x1, hx1, h⟩ := hl_bind h
    refine hl_cVi (D := (D + 1)) (z := y276) (n := 1) (av := [.int 12]) (st := []) d279_10 mlM_518 rfl (Nat.le_of_ble_eq_true rfl) (Nat.le_of_ble_eq_true rfl) rc64 ((p_M_qIsOn D 12 s hx1).dle (by omega)) ?_
    refine hl_if_eq (tg := 33) d279_13 rfl (fun hc => ?_) (fun hc => ?_)
    · have h := hl_pos hc h
      have h := Option.some.inj h
      subst h
      exact hl_loc (k2 s rfl) trivial
    · have h := hl_neg hc h
      refine hl_aload_n (i := 0) d279_16 rfl rfl (by decide) ?_
      refine hl_dup d279_17 rfl ?_
      refine hl_gi d279_18 gM_479_64 ?_
      refine hl_iconst d279_21 ki1 ?_
      refine hl_isub d279_22 ?_
      refine hl_pi d279_23 qM_479_64 ?_
      refine hl_aload_n (i := 0) d279_26 rfl rfl (by decide) ?_
      obtain ⟨x2, hx2, h⟩ := hl_bind h
      refine hl_cVv (D := (D + 1)) (z := y271) (n := 0) (av := []) (st := []) d279_27 mlM_494 rfl (Nat.le_of_ble_eq_true rfl) (Nat.le_of_ble_eq_true rfl) rc64 ((p_M_qDrops D (hl_si s 64 75 ((s.1 64 75) - 1)) hx2).dle (by omega)) ?_
      refine hl_goto (tg := 0) d279_30 rfl ?_
      have h := Option.some.inj h
      subst h
      exact hl_loc (k1 x2 rfl) ⟨rfl, trivial⟩
set_option maxRecDepth 20000 in
theorem p_M_qDropsNots {X : hl_X} (D : Nat) (σ : hl_M) {τ : hl_M} (h : f_M_qDropsNots σ = some τ) : hl_R X (D + 2) y279 0 [(0, .ref 64)] [] σ none τ := by
  unfold f_M_qDropsNots at h
  obtain ⟨x3, hx3, h⟩ := hl_bind h
  refine hl_R.loc (ls' := [(0, .ref 64)]) ⟨rfl, trivial⟩ ?_
  refine hl_lp_run1 (P := fun (c0 : hl_M) => hl_R X (D + 2) y279 0 [(0, .ref 64)] [] c0 none τ) (fun x : hl_M => hl_R X (D + 2) y279 33 [] [] x none τ) (fun c0 o ho h1 h2 => p_M_qDropsNots_L0 D c0 ho h1 (fun a0 e => h2 a0 e)) hl_big σ x3 hx3 ?_
  have h := Option.some.inj h
  subst h
  exact hl_vret d279_33 rfl
def f_M_qHasSquare_L2 (σ : hl_M) (s : Int32) : Option ((Int32) ⊕ ((Unit) ⊕ (Int32))) :=
  if (σ.1 64 74) ≤ s then
  some (.inr (.inl (()))) else
  if hl_b s 1700 then
  if (σ.1 111 s.toNatClampNeg) = 25 then
  some (.inr (.inr (1))) else
  some (.inl (s + 1)) else none
def f_M_qHasSquare (σ : hl_M) : Option (Int32) :=
  (hl_lp (f_M_qHasSquare_L2 σ) hl_big 0).bind fun x1 =>
  Sum.elim (fun x2 =>
  some 0) (fun x3 =>
  some x3) x1
set_option maxRecDepth 20000 in
theorem p_M_qHasSquare_L2 {X : hl_X} (D : Nat) (σ : hl_M) (s : Int32) {o : (Int32) ⊕ ((Unit) ⊕ (Int32))} {v : Option Value} (h : f_M_qHasSquare_L2 σ s = some o) (k1 : ∀ (c0 : Int32), o = .inl c0 → hl_R X D y281 2 [(0, .ref 64), (1, .int c0)] [] σ v σ) (k2 : o = .inr (.inl ()) → hl_R X D y281 29 [] [] σ v σ) (kr : ∀ (a : Int32), o = .inr (.inr (a)) → v = some (.int a)) : hl_R X D y281 2 [(0, .ref 64), (1, .int s)] [] σ v σ := by
  unfold f_M_qHasSquare_L2 at h
  refine hl_iload_n (i := 1) d281_2 rfl rfl ?_
  refine hl_aload_n (i := 0) d281_3 rfl rfl (by decide) ?_
  refine hl_gi d281_4 gM_482_64 ?_
  refine hl_icmp_ge (tg := 29) d281_7 rfl (fun hc => ?_) (fun hc => ?_)
  · have h := hl_pos hc h
    have h := Option.some.inj h
    subst h
    exact hl_loc (k2 rfl) trivial
  · have h := hl_neg hc h
    refine hl_aload_n (i := 0) d281_10 rfl rfl (by decide) ?_
    refine hl_gr d281_11 gM_161_64 ?_
    refine hl_iload_n (i := 1) d281_14 rfl rfl ?_
    obtain ⟨hb, h⟩ := hl_gd h
    refine hl_iald d281_15 sh111 (hl_b_in hb) ?_
    refine hl_bipush d281_16 kb25 ?_
    refine hl_icmp_ne (tg := 23) d281_18 rfl (fun hc => ?_) (fun hc => ?_)
    · have h := hl_neg hc h
      refine hl_iinc (ls2 := [(1, .int (s + 1)), (0, .ref 64)]) d281_23 rfl kx1 (by decide) rfl ?_
      refine hl_goto (tg := 2) d281_26 rfl ?_
      have h := Option.some.inj h
      subst h
      exact hl_loc (k1 (s + 1) rfl) ⟨rfl, rfl, trivial⟩
    · have h := hl_pos hc h
      refine hl_iconst d281_21 ki1 ?_
      have h := Option.some.inj h
      subst h
      have e1 := kr 1 rfl
      subst e1
      exact hl_zret d281_22 rfl (by decide)
set_option maxRecDepth 20000 in
theorem p_M_qHasSquare {X : hl_X} (D : Nat) (σ : hl_M) {r : Int32} (h : f_M_qHasSquare σ = some r) : hl_R X D y281 0 [(0, .ref 64)] [] σ (some (.int r)) σ := by
  unfold f_M_qHasSquare at h
  refine hl_iconst d281_0 ki0 ?_
  refine hl_istore_n (i := 1) (ls2 := [(1, .int 0), (0, .ref 64)]) d281_1 rfl (by decide) rfl ?_
  obtain ⟨x1, hx1, h⟩ := hl_bind h
  refine hl_R.loc (ls' := [(0, .ref 64), (1, .int 0)]) ⟨rfl, rfl, trivial⟩ ?_
  refine hl_lp_run1 (P := fun (c0 : Int32) => hl_R X D y281 2 [(0, .ref 64), (1, .int c0)] [] σ (some (.int r)) σ) (Sum.elim (fun x : Unit => hl_R X D y281 29 [] [] σ (some (.int r)) σ) (fun a : Int32 => ((some (.int r)) : Option Value) = some (.int a))) (fun c0 o ho h1 h2 => p_M_qHasSquare_L2 D σ c0 ho h1 (fun e => h2 (.inl ()) e) (fun a e => h2 (.inr (a)) e)) hl_big 0 x1 hx1 ?_
  rcases hl_sum h with ⟨x2, e_x2, h⟩ | ⟨x3, e_x3, h⟩
  · subst e_x2
    refine hl_iconst d281_29 ki0 ?_
    have h := Option.some.inj h
    subst h
    exact hl_zret d281_30 rfl (by decide)
  · subst e_x3
    cases h
    rfl
def f_M_qGoesOnTest_L33 (s : hl_M) : Option ((hl_M) ⊕ (hl_M)) :=
  (f_M_qIsOn 25 s).bind fun x3 =>
  if x3 = 0 then
  (f_M_qDrops s).bind fun x4 =>
  some (.inl x4) else
  some (.inr s)
def f_M_qGoesOnTest_L0 (s : hl_M) : Option ((hl_M) ⊕ (hl_M)) :=
  if (s.1 64 5) = 0 then
  (f_M_look s).bind fun x1 =>
  if x1.1 = 93 then
  (f_M_qHasSquare x1.2).bind fun x2 =>
  if x2 = 0 then
  some (.inr x1.2) else
  (hl_lp (f_M_qGoesOnTest_L33) hl_big (hl_si x1.2 64 2 ((x1.2.1 64 2) + 1))).bind fun x5 =>
  (f_M_qDropsNots (hl_si (hl_si x5 64 74 ((x5.1 64 74) - 1)) 64 75 (((hl_si x5 64 74 ((x5.1 64 74) - 1)).1 64 75) - 1))).bind fun x6 =>
  some (.inl x6) else
  some (.inr x1.2) else
  some (.inr s)
def f_M_qGoesOnTest_j155 (σ : hl_M) : Option ((hl_M) ⊕ (hl_M)) :=
  (f_M_qDrops σ).bind fun x12 =>
  some (.inl x12)
def f_M_qGoesOnTest_L137 (s : hl_M) : Option ((hl_M) ⊕ (hl_M)) :=
  (f_M_qIsOn 10 s).bind fun x11 =>
  if x11 = 0 then
  (f_M_qIsOn 11 s).bind fun x13 =>
  if x13 = 0 then
  some (.inr s) else
  f_M_qGoesOnTest_j155 s else
  f_M_qGoesOnTest_j155 s
def f_M_qGoesOnTest_L87 (s : hl_M) : Option ((hl_M) ⊕ (hl_M)) :=
  (f_M_qIsOn 10 s).bind fun x16 =>
  if x16 = 0 then
  some (.inr s) else
  (f_M_qDrops s).bind fun x17 =>
  some (.inl x17)
def f_M_qGoesOnTest (σ : hl_M) : Option (Int32 × hl_M) :=
  (hl_lp (f_M_qGoesOnTest_L0) hl_big σ).bind fun x7 =>
  (f_M_takes 98 x7).bind fun x8 =>
  if x8.1 = 0 then
  (f_M_takes 99 x8.2).bind fun x9 =>
  if x9.1 = 0 then
  if (x9.2.1 64 5) = 0 then
  (f_M_qHasSquare x9.2).bind fun x10 =>
  if x10 = 0 then
  some ((0, x9.2)) else
  some ((0, f_M_fail 1 (x9.2.1 64 2) x9.2)) else
  some ((0, x9.2)) else
  (hl_lp (f_M_qGoesOnTest_L137) hl_big x9.2).bind fun x14 =>
  if hl_b (x14.1 64 74) 1700 then
  hl_let (hl_si (hl_si x14 111 (x14.1 64 74).toNatClampNeg 11) 64 74 (((hl_si x14 111 (x14.1 64 74).toNatClampNeg 11).1 64 74) + 1)) (fun σ15 =>
  some ((1, σ15))) else none else
  (hl_lp (f_M_qGoesOnTest_L87) hl_big x8.2).bind fun x18 =>
  if hl_b (x18.1 64 74) 1700 then
  hl_let (hl_si (hl_si x18 111 (x18.1 64 74).toNatClampNeg 10) 64 74 (((hl_si x18 111 (x18.1 64 74).toNatClampNeg 10).1 64 74) + 1)) (fun σ19 =>
  some ((1, σ19))) else none
set_option maxRecDepth 20000 in
theorem p_M_qGoesOnTest_L33 {X : hl_X} (D : Nat) (s : hl_M) {o : (hl_M) ⊕ (hl_M)} {v : Option Value} {τ : hl_M} (h : f_M_qGoesOnTest_L33 s = some o) (k1 : ∀ (c0 : hl_M), o = .inl c0 → hl_R X (D + 3) y280 33 [(0, .ref 64)] [] c0 v τ) (k2 : ∀ (a0 : hl_M), o = .inr a0 → hl_R X (D + 3) y280 49 [(0, .ref 64)] [] a0 v τ) : hl_R X (D + 3) y280 33 [(0, .ref 64)] [] s v τ := by
  unfold f_M_qGoesOnTest_L33 at h
  refine hl_aload_n (i := 0) d280_33 rfl rfl (by decide) ?_
  refine hl_bipush d280_34 kb25 ?_
  obtain ⟨x3, hx3, h⟩ := hl_bind h
  refine hl_cVi (D := (D + 2)) (z := y276) (n := 1) (av := [.int 25]) (st := []) d280_36 mlM_518 rfl (Nat.le_of_ble_eq_true rfl) (Nat.le_of_ble_eq_true rfl) rc64 ((p_M_qIsOn D 25 s hx3).dle (by omega)) ?_
  refine hl_if_ne (tg := 49) d280_39 rfl (fun hc => ?_) (fun hc => ?_)
  · have h := hl_neg hc h
    have h := Option.some.inj h
    subst h
    exact hl_loc (k2 s rfl) ⟨rfl, trivial⟩
  · have h := hl_pos hc h
    refine hl_aload_n (i := 0) d280_42 rfl rfl (by decide) ?_
    obtain ⟨x4, hx4, h⟩ := hl_bind h
    refine hl_cVv (D := (D + 2)) (z := y271) (n := 0) (av := []) (st := []) d280_43 mlM_494 rfl (Nat.le_of_ble_eq_true rfl) (Nat.le_of_ble_eq_true rfl) rc64 ((p_M_qDrops D s hx4).dle (by omega)) ?_
    refine hl_goto (tg := 33) d280_46 rfl ?_
    have h := Option.some.inj h
    subst h
    exact hl_loc (k1 x4 rfl) ⟨rfl, trivial⟩
set_option maxRecDepth 20000 in
theorem p_M_qGoesOnTest_L0 {X : hl_X} (D : Nat) (s : hl_M) {o : (hl_M) ⊕ (hl_M)} {v : Option Value} {τ : hl_M} (h : f_M_qGoesOnTest_L0 s = some o) (k1 : ∀ (c0 : hl_M), o = .inl c0 → hl_R X (D + 3) y280 0 [(0, .ref 64)] [] c0 v τ) (k2 : ∀ (a0 : hl_M), o = .inr a0 → hl_R X (D + 3) y280 76 [(0, .ref 64)] [] a0 v τ) : hl_R X (D + 3) y280 0 [(0, .ref 64)] [] s v τ := by
  unfold f_M_qGoesOnTest_L0 at h
  refine hl_aload_n (i := 0) d280_0 rfl rfl (by decide) ?_
  refine hl_gi d280_1 gM_173_64 ?_
  refine hl_if_ne (tg := 76) d280_4 rfl (fun hc => ?_) (fun hc => ?_)
  · have h := hl_neg hc h
    have h := Option.some.inj h
    subst h
    exact hl_loc (k2 s rfl) ⟨rfl, trivial⟩
  · have h := hl_pos hc h
    refine hl_aload_n (i := 0) d280_7 rfl rfl (by decide) ?_
    obtain ⟨x1, hx1, h⟩ := hl_bind h
    refine hl_cVi (D := (D + 2)) (z := y65) (n := 0) (av := []) (st := []) d280_8 mlM_185 rfl (Nat.le_of_ble_eq_true rfl) (Nat.le_of_ble_eq_true rfl) rc64 ((p_M_look D s hx1).dle (by omega)) ?_
    refine hl_bipush d280_11 kb93 ?_
    refine hl_icmp_ne (tg := 76) d280_13 rfl (fun hc => ?_) (fun hc => ?_)
    · have h := hl_neg hc h
      have h := Option.some.inj h
      subst h
      exact hl_loc (k2 x1.2 rfl) ⟨rfl, trivial⟩
    · have h := hl_pos hc h
      refine hl_aload_n (i := 0) d280_16 rfl rfl (by decide) ?_
      obtain ⟨x2, hx2, h⟩ := hl_bind h
      refine hl_cVi (D := (D + 2)) (z := y281) (n := 0) (av := []) (st := []) d280_17 mlM_539 rfl (Nat.le_of_ble_eq_true rfl) (Nat.le_of_ble_eq_true rfl) rc64 ((p_M_qHasSquare D x1.2 hx2).dle (by omega)) ?_
      refine hl_if_eq (tg := 76) d280_20 rfl (fun hc => ?_) (fun hc => ?_)
      · have h := hl_pos hc h
        have h := Option.some.inj h
        subst h
        exact hl_loc (k2 x1.2 rfl) ⟨rfl, trivial⟩
      · have h := hl_neg hc h
        refine hl_aload_n (i := 0) d280_23 rfl rfl (by decide) ?_
        refine hl_dup d280_24 rfl ?_
        refine hl_gi d280_25 gM_179_64 ?_
        refine hl_iconst d280_28 ki1 ?_
        refine hl_iadd d280_29 ?_
        refine hl_pi d280_30 qM_179_64 ?_
        obtain ⟨x5, hx5, h⟩ := hl_bind h
        refine hl_R.loc (ls' := [(0, .ref 64)]) ⟨rfl, trivial⟩ ?_
        refine hl_lp_run1 (P := fun (c0 : hl_M) => hl_R X (D + 3) y280 33 [(0, .ref 64)] [] c0 v τ) (fun x : hl_M => hl_R X (D + 3) y280 49 [(0, .ref 64)] [] x v τ) (fun c0 o ho h1 h2 => p_M_qGoesOnTest_L33 D c0 ho h1 (fun a0 e => h2 a0 e)) hl_big (hl_si x1.2 64 2 ((x1.2.1 64 2) + 1)) x5 hx5 ?_
        refine hl_aload_n (i := 0) d280_49 rfl rfl (by decide) ?_
        refine hl_dup d280_50 rfl ?_
        refine hl_gi d280_51 gM_482_64 ?_
        refine hl_iconst d280_54 ki1 ?_
        refine hl_isub d280_55 ?_
        refine hl_pi d280_56 qM_482_64 ?_
        refine hl_aload_n (i := 0) d280_59 rfl rfl (by decide) ?_
        refine hl_dup d280_60 rfl ?_
        refine hl_gi d280_61 gM_479_64 ?_
        refine hl_iconst d280_64 ki1 ?_
        refine hl_isub d280_65 ?_
        refine hl_pi d280_66 qM_479_64 ?_
        refine hl_aload_n (i := 0) d280_69 rfl rfl (by decide) ?_
        obtain ⟨x6, hx6, h⟩ := hl_bind h
        refine hl_cVv (D := (D + 2)) (z := y279) (n := 0) (av := []) (st := []) d280_70 mlM_533 rfl (Nat.le_of_ble_eq_true rfl) (Nat.le_of_ble_eq_true rfl) rc64 ((p_M_qDropsNots D (hl_si (hl_si x5 64 74 ((x5.1 64 74) - 1)) 64 75 (((hl_si x5 64 74 ((x5.1 64 74) - 1)).1 64 75) - 1)) hx6).dle (by omega)) ?_
        refine hl_goto (tg := 0) d280_73 rfl ?_
        have h := Option.some.inj h
        subst h
        exact hl_loc (k1 x6 rfl) ⟨rfl, trivial⟩
set_option maxRecDepth 20000 in
theorem p_M_qGoesOnTest_j155 {X : hl_X} (D : Nat) (σ : hl_M) {o : (hl_M) ⊕ (hl_M)} {v : Option Value} {τ : hl_M} (h : f_M_qGoesOnTest_j155 σ = some o) (k1 : ∀ (c0 : hl_M), o = .inl c0 → hl_R X (D + 3) y280 137 [(0, .ref 64)] [] c0 v τ) (k2 : ∀ (a0 : hl_M), o = .inr a0 → hl_R X (D + 3) y280 162 [(0, .ref 64)] [] a0 v τ) : hl_R X (D + 3) y280 155 [(0, .ref 64)] [] σ v τ := by
  unfold f_M_qGoesOnTest_j155 at h
  refine hl_aload_n (i := 0) d280_155 rfl rfl (by decide) ?_
  obtain ⟨x12, hx12, h⟩ := hl_bind h
  refine hl_cVv (D := (D + 2)) (z := y271) (n := 0) (av := []) (st := []) d280_156 mlM_494 rfl (Nat.le_of_ble_eq_true rfl) (Nat.le_of_ble_eq_true rfl) rc64 ((p_M_qDrops D σ hx12).dle (by omega)) ?_
  refine hl_goto (tg := 137) d280_159 rfl ?_
  have h := Option.some.inj h
  subst h
  exact hl_loc (k1 x12 rfl) ⟨rfl, trivial⟩
set_option maxRecDepth 20000 in
theorem p_M_qGoesOnTest_L137 {X : hl_X} (D : Nat) (s : hl_M) {o : (hl_M) ⊕ (hl_M)} {v : Option Value} {τ : hl_M} (h : f_M_qGoesOnTest_L137 s = some o) (k1 : ∀ (c0 : hl_M), o = .inl c0 → hl_R X (D + 3) y280 137 [(0, .ref 64)] [] c0 v τ) (k2 : ∀ (a0 : hl_M), o = .inr a0 → hl_R X (D + 3) y280 162 [(0, .ref 64)] [] a0 v τ) : hl_R X (D + 3) y280 137 [(0, .ref 64)] [] s v τ := by
  unfold f_M_qGoesOnTest_L137 at h
  refine hl_aload_n (i := 0) d280_137 rfl rfl (by decide) ?_
  refine hl_bipush d280_138 kb10 ?_
  obtain ⟨x11, hx11, h⟩ := hl_bind h
  refine hl_cVi (D := (D + 2)) (z := y276) (n := 1) (av := [.int 10]) (st := []) d280_140 mlM_518 rfl (Nat.le_of_ble_eq_true rfl) (Nat.le_of_ble_eq_true rfl) rc64 ((p_M_qIsOn D 10 s hx11).dle (by omega)) ?_
  refine hl_if_ne (tg := 155) d280_143 rfl (fun hc => ?_) (fun hc => ?_)
  · have h := hl_neg hc h
    exact hl_loc (p_M_qGoesOnTest_j155 D s h k1 k2) ⟨rfl, trivial⟩
  · have h := hl_pos hc h
    refine hl_aload_n (i := 0) d280_146 rfl rfl (by decide) ?_
    refine hl_bipush d280_147 kb11 ?_
    obtain ⟨x13, hx13, h⟩ := hl_bind h
    refine hl_cVi (D := (D + 2)) (z := y276) (n := 1) (av := [.int 11]) (st := []) d280_149 mlM_518 rfl (Nat.le_of_ble_eq_true rfl) (Nat.le_of_ble_eq_true rfl) rc64 ((p_M_qIsOn D 11 s hx13).dle (by omega)) ?_
    refine hl_if_eq (tg := 162) d280_152 rfl (fun hc => ?_) (fun hc => ?_)
    · have h := hl_pos hc h
      have h := Option.some.inj h
      subst h
      exact hl_loc (k2 s rfl) ⟨rfl, trivial⟩
    · have h := hl_neg hc h
      exact hl_loc (p_M_qGoesOnTest_j155 D s h k1 k2) ⟨rfl, trivial⟩
set_option maxRecDepth 20000 in
theorem p_M_qGoesOnTest_L87 {X : hl_X} (D : Nat) (s : hl_M) {o : (hl_M) ⊕ (hl_M)} {v : Option Value} {τ : hl_M} (h : f_M_qGoesOnTest_L87 s = some o) (k1 : ∀ (c0 : hl_M), o = .inl c0 → hl_R X (D + 3) y280 87 [(0, .ref 64)] [] c0 v τ) (k2 : ∀ (a0 : hl_M), o = .inr a0 → hl_R X (D + 3) y280 103 [(0, .ref 64)] [] a0 v τ) : hl_R X (D + 3) y280 87 [(0, .ref 64)] [] s v τ := by
  unfold f_M_qGoesOnTest_L87 at h
  refine hl_aload_n (i := 0) d280_87 rfl rfl (by decide) ?_
  refine hl_bipush d280_88 kb10 ?_
  obtain ⟨x16, hx16, h⟩ := hl_bind h
  refine hl_cVi (D := (D + 2)) (z := y276) (n := 1) (av := [.int 10]) (st := []) d280_90 mlM_518 rfl (Nat.le_of_ble_eq_true rfl) (Nat.le_of_ble_eq_true rfl) rc64 ((p_M_qIsOn D 10 s hx16).dle (by omega)) ?_
  refine hl_if_eq (tg := 103) d280_93 rfl (fun hc => ?_) (fun hc => ?_)
  · have h := hl_pos hc h
    have h := Option.some.inj h
    subst h
    exact hl_loc (k2 s rfl) ⟨rfl, trivial⟩
  · have h := hl_neg hc h
    refine hl_aload_n (i := 0) d280_96 rfl rfl (by decide) ?_
    obtain ⟨x17, hx17, h⟩ := hl_bind h
    refine hl_cVv (D := (D + 2)) (z := y271) (n := 0) (av := []) (st := []) d280_97 mlM_494 rfl (Nat.le_of_ble_eq_true rfl) (Nat.le_of_ble_eq_true rfl) rc64 ((p_M_qDrops D s hx17).dle (by omega)) ?_
    refine hl_goto (tg := 87) d280_100 rfl ?_
    have h := Option.some.inj h
    subst h
    exact hl_loc (k1 x17 rfl) ⟨rfl, trivial⟩
set_option maxRecDepth 20000 in
theorem p_M_qGoesOnTest {X : hl_X} (D : Nat) (σ : hl_M) {r : Int32} {τ : hl_M} (h : f_M_qGoesOnTest σ = some (r, τ)) : hl_R X (D + 3) y280 0 [(0, .ref 64)] [] σ (some (.int r)) τ := by
  unfold f_M_qGoesOnTest at h
  obtain ⟨x7, hx7, h⟩ := hl_bind h
  refine hl_R.loc (ls' := [(0, .ref 64)]) ⟨rfl, trivial⟩ ?_
  refine hl_lp_run1 (P := fun (c0 : hl_M) => hl_R X (D + 3) y280 0 [(0, .ref 64)] [] c0 (some (.int r)) τ) (fun x : hl_M => hl_R X (D + 3) y280 76 [(0, .ref 64)] [] x (some (.int r)) τ) (fun c0 o ho h1 h2 => p_M_qGoesOnTest_L0 D c0 ho h1 (fun a0 e => h2 a0 e)) hl_big σ x7 hx7 ?_
  refine hl_aload_n (i := 0) d280_76 rfl rfl (by decide) ?_
  refine hl_aload_n (i := 0) d280_77 rfl rfl (by decide) ?_
  refine hl_gr d280_78 gM_122_64 ?_
  obtain ⟨x8, hx8, h⟩ := hl_bind h
  refine hl_cVi (D := (D + 2)) (z := y63) (n := 1) (av := [.ref 98]) (st := []) d280_81 mlM_200 rfl (Nat.le_of_ble_eq_true rfl) (Nat.le_of_ble_eq_true rfl) rc64 ((p_M_takes D 98 (by decide) x7 hx8).dle (by omega)) ?_
  refine hl_if_eq (tg := 126) d280_84 rfl (fun hc => ?_) (fun hc => ?_)
  · have h := hl_pos hc h
    refine hl_aload_n (i := 0) d280_126 rfl rfl (by decide) ?_
    refine hl_aload_n (i := 0) d280_127 rfl rfl (by decide) ?_
    refine hl_gr d280_128 gM_125_64 ?_
    obtain ⟨x9, hx9, h⟩ := hl_bind h
    refine hl_cVi (D := (D + 2)) (z := y63) (n := 1) (av := [.ref 99]) (st := []) d280_131 mlM_200 rfl (Nat.le_of_ble_eq_true rfl) (Nat.le_of_ble_eq_true rfl) rc64 ((p_M_takes D 99 (by decide) x8.2 hx9).dle (by omega)) ?_
    refine hl_if_eq (tg := 185) d280_134 rfl (fun hc => ?_) (fun hc => ?_)
    · have h := hl_pos hc h
      refine hl_aload_n (i := 0) d280_185 rfl rfl (by decide) ?_
      refine hl_gi d280_186 gM_173_64 ?_
      refine hl_if_ne (tg := 208) d280_189 rfl (fun hc => ?_) (fun hc => ?_)
      · have h := hl_neg hc h
        refine hl_iconst d280_208 ki0 ?_
        obtain ⟨e1, e2⟩ := hl_some2 h
        subst e1; subst e2
        exact hl_zret d280_209 rfl (by decide)
      · have h := hl_pos hc h
        refine hl_aload_n (i := 0) d280_192 rfl rfl (by decide) ?_
        obtain ⟨x10, hx10, h⟩ := hl_bind h
        refine hl_cVi (D := (D + 2)) (z := y281) (n := 0) (av := []) (st := []) d280_193 mlM_539 rfl (Nat.le_of_ble_eq_true rfl) (Nat.le_of_ble_eq_true rfl) rc64 ((p_M_qHasSquare D x9.2 hx10).dle (by omega)) ?_
        refine hl_if_eq (tg := 208) d280_196 rfl (fun hc => ?_) (fun hc => ?_)
        · have h := hl_pos hc h
          refine hl_iconst d280_208 ki0 ?_
          obtain ⟨e1, e2⟩ := hl_some2 h
          subst e1; subst e2
          exact hl_zret d280_209 rfl (by decide)
        · have h := hl_neg hc h
          refine hl_aload_n (i := 0) d280_199 rfl rfl (by decide) ?_
          refine hl_iconst d280_200 ki1 ?_
          refine hl_aload_n (i := 0) d280_201 rfl rfl (by decide) ?_
          refine hl_gi d280_202 gM_179_64 ?_
          refine hl_cVv (D := (D + 2)) (z := y67) (n := 2) (av := [.int 1, .int (x9.2.1 64 2)]) (st := []) d280_205 mlM_203 rfl (Nat.le_of_ble_eq_true rfl) (Nat.le_of_ble_eq_true rfl) rc64 ((p_M_fail D 1 (x9.2.1 64 2) x9.2 rfl).dle (by omega)) ?_
          refine hl_iconst d280_208 ki0 ?_
          obtain ⟨e1, e2⟩ := hl_some2 h
          subst e1; subst e2
          exact hl_zret d280_209 rfl (by decide)
    · have h := hl_neg hc h
      obtain ⟨x14, hx14, h⟩ := hl_bind h
      refine hl_R.loc (ls' := [(0, .ref 64)]) ⟨rfl, trivial⟩ ?_
      refine hl_lp_run1 (P := fun (c0 : hl_M) => hl_R X (D + 3) y280 137 [(0, .ref 64)] [] c0 (some (.int r)) τ) (fun x : hl_M => hl_R X (D + 3) y280 162 [(0, .ref 64)] [] x (some (.int r)) τ) (fun c0 o ho h1 h2 => p_M_qGoesOnTest_L137 D c0 ho h1 (fun a0 e => h2 a0 e)) hl_big x9.2 x14 hx14 ?_
      refine hl_aload_n (i := 0) d280_162 rfl rfl (by decide) ?_
      refine hl_gr d280_163 gM_161_64 ?_
      refine hl_aload_n (i := 0) d280_166 rfl rfl (by decide) ?_
      refine hl_gi d280_167 gM_482_64 ?_
      refine hl_bipush d280_170 kb11 ?_
      obtain ⟨hb, h⟩ := hl_gd h
      refine hl_iast (q := 111) d280_172 sh111 (hl_b_in hb) ?_
      refine hl_aload_n (i := 0) d280_173 rfl rfl (by decide) ?_
      refine hl_dup d280_174 rfl ?_
      refine hl_gi d280_175 gM_482_64 ?_
      refine hl_iconst d280_178 ki1 ?_
      refine hl_iadd d280_179 ?_
      refine hl_pi d280_180 qM_482_64 ?_
      refine hl_nmm h (fun σ15 h => ?_)
      refine hl_iconst d280_183 ki1 ?_
      obtain ⟨e1, e2⟩ := hl_some2 h
      subst e1; subst e2
      exact hl_zret d280_184 rfl (by decide)
  · have h := hl_neg hc h
    obtain ⟨x18, hx18, h⟩ := hl_bind h
    refine hl_R.loc (ls' := [(0, .ref 64)]) ⟨rfl, trivial⟩ ?_
    refine hl_lp_run1 (P := fun (c0 : hl_M) => hl_R X (D + 3) y280 87 [(0, .ref 64)] [] c0 (some (.int r)) τ) (fun x : hl_M => hl_R X (D + 3) y280 103 [(0, .ref 64)] [] x (some (.int r)) τ) (fun c0 o ho h1 h2 => p_M_qGoesOnTest_L87 D c0 ho h1 (fun a0 e => h2 a0 e)) hl_big x8.2 x18 hx18 ?_
    refine hl_aload_n (i := 0) d280_103 rfl rfl (by decide) ?_
    refine hl_gr d280_104 gM_161_64 ?_
    refine hl_aload_n (i := 0) d280_107 rfl rfl (by decide) ?_
    refine hl_gi d280_108 gM_482_64 ?_
    refine hl_bipush d280_111 kb10 ?_
    obtain ⟨hb, h⟩ := hl_gd h
    refine hl_iast (q := 111) d280_113 sh111 (hl_b_in hb) ?_
    refine hl_aload_n (i := 0) d280_114 rfl rfl (by decide) ?_
    refine hl_dup d280_115 rfl ?_
    refine hl_gi d280_116 gM_482_64 ?_
    refine hl_iconst d280_119 ki1 ?_
    refine hl_iadd d280_120 ?_
    refine hl_pi d280_121 qM_482_64 ?_
    refine hl_nmm h (fun σ19 h => ?_)
    refine hl_iconst d280_124 ki1 ?_
    obtain ⟨e1, e2⟩ := hl_some2 h
    subst e1; subst e2
    exact hl_zret d280_125 rfl (by decide)
def f_M_qTest_L2 (s : Int32 × hl_M) : Option ((Int32 × hl_M) ⊕ (hl_M)) :=
  if s.1 = 0 then
  some (.inr s.2) else
  if (s.2.1 64 5) = 0 then
  (f_M_look s.2).bind fun x1 =>
  if x1.1 = 91 then
  (f_M_qOpens 25 (x1.2.1 64 2) x1.2).bind fun x8 =>
  some (.inl ((s.1, hl_si x8 64 2 ((x8.1 64 2) + 1)))) else
  (f_M_isHere 97 x1.2).bind fun x2 =>
  if x2.1 = 0 then
  (f_M_qFact x2.2).bind fun x3 =>
  (f_M_qDropsNots x3).bind fun x4 =>
  if (x4.1 64 5) = 0 then
  (f_M_qGoesOnTest x4).bind fun x5 =>
  if x5.1 = 0 then
  some (.inl ((0, x5.2))) else
  some (.inl ((1, x5.2))) else
  some (.inl ((0, x4))) else
  (f_M_qOpens 12 (x2.2.1 64 2) x2.2).bind fun x6 =>
  (f_M_asks 97 x6).bind fun x7 =>
  some (.inl ((s.1, x7))) else
  some (.inr s.2)
def f_M_qTest_L110 (s : hl_M) : Option ((hl_M) ⊕ (hl_M)) :=
  if (s.1 64 5) = 0 then
  if (s.1 64 74) ≤ 0 then
  some (.inr s) else
  (f_M_qDrops s).bind fun x10 =>
  some (.inl x10) else
  some (.inr s)
def f_M_qTest (σ : hl_M) : Option (hl_M) :=
  (hl_lp (f_M_qTest_L2) hl_big ((1, σ))).bind fun x9 =>
  (hl_lp (f_M_qTest_L110) hl_big x9).bind fun x11 =>
  some x11
set_option maxRecDepth 20000 in
theorem p_M_qTest_L2 {X : hl_X} (D : Nat) (s : Int32 × hl_M) {o : (Int32 × hl_M) ⊕ (hl_M)} {v : Option Value} {τ : hl_M} (h : f_M_qTest_L2 s = some o) (k1 : ∀ (c0 : Int32) (c1 : hl_M), o = .inl ((c0, c1)) → hl_R X (D + 8) y277 2 [(0, .ref 64), (1, .int c0)] [] c1 v τ) (k2 : ∀ (a0 : hl_M), o = .inr a0 → hl_R X (D + 8) y277 110 [(0, .ref 64)] [] a0 v τ) : hl_R X (D + 8) y277 2 [(0, .ref 64), (1, .int s.1)] [] s.2 v τ := by
  unfold f_M_qTest_L2 at h
  refine hl_iload_n (i := 1) d277_2 rfl rfl ?_
  refine hl_if_eq (tg := 110) d277_3 rfl (fun hc => ?_) (fun hc => ?_)
  · have h := hl_pos hc h
    have h := Option.some.inj h
    subst h
    exact hl_loc (k2 s.2 rfl) ⟨rfl, trivial⟩
  · have h := hl_neg hc h
    refine hl_aload_n (i := 0) d277_6 rfl rfl (by decide) ?_
    refine hl_gi d277_7 gM_173_64 ?_
    refine hl_if_ne (tg := 110) d277_10 rfl (fun hc => ?_) (fun hc => ?_)
    · have h := hl_neg hc h
      have h := Option.some.inj h
      subst h
      exact hl_loc (k2 s.2 rfl) ⟨rfl, trivial⟩
    · have h := hl_pos hc h
      refine hl_aload_n (i := 0) d277_13 rfl rfl (by decide) ?_
      obtain ⟨x1, hx1, h⟩ := hl_bind h
      refine hl_cVi (D := (D + 7)) (z := y65) (n := 0) (av := []) (st := []) d277_14 mlM_185 rfl (Nat.le_of_ble_eq_true rfl) (Nat.le_of_ble_eq_true rfl) rc64 ((p_M_look D s.2 hx1).dle (by omega)) ?_
      refine hl_istore_n (i := 2) (ls2 := [(2, .int x1.1), (0, .ref 64), (1, .int s.1)]) d277_17 rfl (by decide) rfl ?_
      refine hl_iload_n (i := 2) d277_18 rfl rfl ?_
      refine hl_bipush d277_19 kb91 ?_
      refine hl_icmp_ne (tg := 47) d277_21 rfl (fun hc => ?_) (fun hc => ?_)
      · have h := hl_neg hc h
        refine hl_aload_n (i := 0) d277_47 rfl rfl (by decide) ?_
        refine hl_aload_n (i := 0) d277_48 rfl rfl (by decide) ?_
        refine hl_gr d277_49 gM_119_64 ?_
        obtain ⟨x2, hx2, h⟩ := hl_bind h
        refine hl_cVi (D := (D + 7)) (z := y64) (n := 1) (av := [.ref 97]) (st := []) d277_52 mlM_196 rfl (Nat.le_of_ble_eq_true rfl) (Nat.le_of_ble_eq_true rfl) rc64 ((p_M_isHere D 97 (by decide) x1.2 hx2).dle (by omega)) ?_
        refine hl_if_eq (tg := 79) d277_55 rfl (fun hc => ?_) (fun hc => ?_)
        · have h := hl_pos hc h
          refine hl_aload_n (i := 0) d277_79 rfl rfl (by decide) ?_
          obtain ⟨x3, hx3, h⟩ := hl_bind h
          refine hl_cVv (D := (D + 7)) (z := y278) (n := 0) (av := []) (st := []) d277_80 mlM_530 rfl (Nat.le_of_ble_eq_true rfl) (Nat.le_of_ble_eq_true rfl) rc64 ((p_M_qFact D x2.2 hx3).dle (by omega)) ?_
          refine hl_aload_n (i := 0) d277_83 rfl rfl (by decide) ?_
          obtain ⟨x4, hx4, h⟩ := hl_bind h
          refine hl_cVv (D := (D + 7)) (z := y279) (n := 0) (av := []) (st := []) d277_84 mlM_533 rfl (Nat.le_of_ble_eq_true rfl) (Nat.le_of_ble_eq_true rfl) rc64 ((p_M_qDropsNots D x3 hx4).dle (by omega)) ?_
          refine hl_aload_n (i := 0) d277_87 rfl rfl (by decide) ?_
          refine hl_gi d277_88 gM_173_64 ?_
          refine hl_if_ne (tg := 105) d277_91 rfl (fun hc => ?_) (fun hc => ?_)
          · have h := hl_neg hc h
            refine hl_iconst d277_105 ki0 ?_
            refine hl_istore_n (i := 1) (ls2 := [(1, .int 0), (2, .int x1.1), (0, .ref 64)]) d277_106 rfl (by decide) rfl ?_
            refine hl_goto (tg := 2) d277_107 rfl ?_
            have h := Option.some.inj h
            subst h
            exact hl_loc (k1 0 x4 rfl) ⟨rfl, rfl, trivial⟩
          · have h := hl_pos hc h
            refine hl_aload_n (i := 0) d277_94 rfl rfl (by decide) ?_
            obtain ⟨x5, hx5, h⟩ := hl_bind h
            refine hl_cVi (D := (D + 7)) (z := y280) (n := 0) (av := []) (st := []) d277_95 mlM_536 rfl (Nat.le_of_ble_eq_true rfl) (Nat.le_of_ble_eq_true rfl) rc64 ((p_M_qGoesOnTest D x4 hx5).dle (by omega)) ?_
            refine hl_if_eq (tg := 105) d277_98 rfl (fun hc => ?_) (fun hc => ?_)
            · have h := hl_pos hc h
              refine hl_iconst d277_105 ki0 ?_
              refine hl_istore_n (i := 1) (ls2 := [(1, .int 0), (2, .int x1.1), (0, .ref 64)]) d277_106 rfl (by decide) rfl ?_
              refine hl_goto (tg := 2) d277_107 rfl ?_
              have h := Option.some.inj h
              subst h
              exact hl_loc (k1 0 x5.2 rfl) ⟨rfl, rfl, trivial⟩
            · have h := hl_neg hc h
              refine hl_iconst d277_101 ki1 ?_
              refine hl_goto (tg := 106) d277_102 rfl ?_
              refine hl_istore_n (i := 1) (ls2 := [(1, .int 1), (2, .int x1.1), (0, .ref 64)]) d277_106 rfl (by decide) rfl ?_
              refine hl_goto (tg := 2) d277_107 rfl ?_
              have h := Option.some.inj h
              subst h
              exact hl_loc (k1 1 x5.2 rfl) ⟨rfl, rfl, trivial⟩
        · have h := hl_neg hc h
          refine hl_aload_n (i := 0) d277_58 rfl rfl (by decide) ?_
          refine hl_bipush d277_59 kb12 ?_
          refine hl_aload_n (i := 0) d277_61 rfl rfl (by decide) ?_
          refine hl_gi d277_62 gM_179_64 ?_
          obtain ⟨x6, hx6, h⟩ := hl_bind h
          refine hl_cVv (D := (D + 7)) (z := y267) (n := 2) (av := [.int 12, .int (x2.2.1 64 2)]) (st := []) d277_65 mlM_503 rfl (Nat.le_of_ble_eq_true rfl) (Nat.le_of_ble_eq_true rfl) rc64 ((p_M_qOpens D 12 (x2.2.1 64 2) x2.2 hx6).dle (by omega)) ?_
          refine hl_aload_n (i := 0) d277_68 rfl rfl (by decide) ?_
          refine hl_aload_n (i := 0) d277_69 rfl rfl (by decide) ?_
          refine hl_gr d277_70 gM_119_64 ?_
          obtain ⟨x7, hx7, h⟩ := hl_bind h
          refine hl_cVv (D := (D + 7)) (z := y62) (n := 1) (av := [.ref 97]) (st := []) d277_73 mlM_260 rfl (Nat.le_of_ble_eq_true rfl) (Nat.le_of_ble_eq_true rfl) rc64 ((p_M_asks D 97 (by decide) x6 hx7).dle (by omega)) ?_
          refine hl_goto (tg := 2) d277_76 rfl ?_
          have h := Option.some.inj h
          subst h
          exact hl_loc (k1 s.1 x7 rfl) ⟨rfl, rfl, trivial⟩
      · have h := hl_pos hc h
        refine hl_aload_n (i := 0) d277_24 rfl rfl (by decide) ?_
        refine hl_bipush d277_25 kb25 ?_
        refine hl_aload_n (i := 0) d277_27 rfl rfl (by decide) ?_
        refine hl_gi d277_28 gM_179_64 ?_
        obtain ⟨x8, hx8, h⟩ := hl_bind h
        refine hl_cVv (D := (D + 7)) (z := y267) (n := 2) (av := [.int 25, .int (x1.2.1 64 2)]) (st := []) d277_31 mlM_503 rfl (Nat.le_of_ble_eq_true rfl) (Nat.le_of_ble_eq_true rfl) rc64 ((p_M_qOpens D 25 (x1.2.1 64 2) x1.2 hx8).dle (by omega)) ?_
        refine hl_aload_n (i := 0) d277_34 rfl rfl (by decide) ?_
        refine hl_dup d277_35 rfl ?_
        refine hl_gi d277_36 gM_179_64 ?_
        refine hl_iconst d277_39 ki1 ?_
        refine hl_iadd d277_40 ?_
        refine hl_pi d277_41 qM_179_64 ?_
        refine hl_goto (tg := 2) d277_44 rfl ?_
        have h := Option.some.inj h
        subst h
        exact hl_loc (k1 s.1 (hl_si x8 64 2 ((x8.1 64 2) + 1)) rfl) ⟨rfl, rfl, trivial⟩
set_option maxRecDepth 20000 in
theorem p_M_qTest_L110 {X : hl_X} (D : Nat) (s : hl_M) {o : (hl_M) ⊕ (hl_M)} {v : Option Value} {τ : hl_M} (h : f_M_qTest_L110 s = some o) (k1 : ∀ (c0 : hl_M), o = .inl c0 → hl_R X (D + 8) y277 110 [(0, .ref 64)] [] c0 v τ) (k2 : ∀ (a0 : hl_M), o = .inr a0 → hl_R X (D + 8) y277 131 [] [] a0 v τ) : hl_R X (D + 8) y277 110 [(0, .ref 64)] [] s v τ := by
  unfold f_M_qTest_L110 at h
  refine hl_aload_n (i := 0) d277_110 rfl rfl (by decide) ?_
  refine hl_gi d277_111 gM_173_64 ?_
  refine hl_if_ne (tg := 131) d277_114 rfl (fun hc => ?_) (fun hc => ?_)
  · have h := hl_neg hc h
    have h := Option.some.inj h
    subst h
    exact hl_loc (k2 s rfl) trivial
  · have h := hl_pos hc h
    refine hl_aload_n (i := 0) d277_117 rfl rfl (by decide) ?_
    refine hl_gi d277_118 gM_482_64 ?_
    refine hl_if_le (tg := 131) d277_121 rfl (fun hc => ?_) (fun hc => ?_)
    · have h := hl_pos hc h
      have h := Option.some.inj h
      subst h
      exact hl_loc (k2 s rfl) trivial
    · have h := hl_neg hc h
      refine hl_aload_n (i := 0) d277_124 rfl rfl (by decide) ?_
      obtain ⟨x10, hx10, h⟩ := hl_bind h
      refine hl_cVv (D := (D + 7)) (z := y271) (n := 0) (av := []) (st := []) d277_125 mlM_494 rfl (Nat.le_of_ble_eq_true rfl) (Nat.le_of_ble_eq_true rfl) rc64 ((p_M_qDrops D s hx10).dle (by omega)) ?_
      refine hl_goto (tg := 110) d277_128 rfl ?_
      have h := Option.some.inj h
      subst h
      exact hl_loc (k1 x10 rfl) ⟨rfl, trivial⟩
set_option maxRecDepth 20000 in
theorem p_M_qTest {X : hl_X} (D : Nat) (σ : hl_M) {τ : hl_M} (h : f_M_qTest σ = some τ) : hl_R X (D + 8) y277 0 [(0, .ref 64)] [] σ none τ := by
  unfold f_M_qTest at h
  refine hl_iconst d277_0 ki1 ?_
  refine hl_istore_n (i := 1) (ls2 := [(1, .int 1), (0, .ref 64)]) d277_1 rfl (by decide) rfl ?_
  obtain ⟨x9, hx9, h⟩ := hl_bind h
  refine hl_R.loc (ls' := [(0, .ref 64), (1, .int 1)]) ⟨rfl, rfl, trivial⟩ ?_
  refine hl_lp_run2 (P := fun (c0 : Int32) (c1 : hl_M) => hl_R X (D + 8) y277 2 [(0, .ref 64), (1, .int c0)] [] c1 none τ) (fun x : hl_M => hl_R X (D + 8) y277 110 [(0, .ref 64)] [] x none τ) (fun c0 c1 o ho h1 h2 => p_M_qTest_L2 D (c0, c1) ho h1 (fun a0 e => h2 a0 e)) hl_big 1 σ x9 hx9 ?_
  obtain ⟨x11, hx11, h⟩ := hl_bind h
  refine hl_R.loc (ls' := [(0, .ref 64)]) ⟨rfl, trivial⟩ ?_
  refine hl_lp_run1 (P := fun (c0 : hl_M) => hl_R X (D + 8) y277 110 [(0, .ref 64)] [] c0 none τ) (fun x : hl_M => hl_R X (D + 8) y277 131 [] [] x none τ) (fun c0 o ho h1 h2 => p_M_qTest_L110 D c0 ho h1 (fun a0 e => h2 a0 e)) hl_big x9 x11 hx11 ?_
  have h := Option.some.inj h
  subst h
  exact hl_vret d277_131 rfl
def f_M_ask_L178 (v1 : Int32) (s : Int32 × hl_M) : Option ((Int32 × hl_M) ⊕ (hl_M)) :=
  if 100 ≤ s.1 then
  some (.inr s.2) else
  (f_M_qTold s.1 s.2).bind fun x3 =>
  some (.inl ((s.1 + 1, f_M_qTakes v1 x3.1 s.1 x3.2)))
def f_M_ask_j168 (v1 : Int32) (s0 : Int64) (σ : hl_M) : Option (Int64 × hl_M) :=
  (hl_lp (f_M_ask_L178 v1) hl_big ((0, hl_si (hl_sl σ 64 79 s0) 64 80 1))).bind fun x4 =>
  some ((x4.2 64 79, x4))
def f_M_ask_j128 (v1 : Int32) (σ : hl_M) : Option (Int64 × hl_M) :=
  if ((hl_si (hl_si σ 64 7 (σ.1 64 5)) 64 8 ((hl_si σ 64 7 (σ.1 64 5)).1 64 6)).1 64 5) = 0 then
  if 2 ≤ v1 then
  f_M_ask_j168 v1 0 (hl_si (hl_si σ 64 7 (σ.1 64 5)) 64 8 ((hl_si σ 64 7 (σ.1 64 5)).1 64 6)) else
  f_M_ask_j168 v1 ((-1)) (hl_si (hl_si σ 64 7 (σ.1 64 5)) 64 8 ((hl_si σ 64 7 (σ.1 64 5)).1 64 6)) else
  some (((-1000000000000000), hl_si (hl_si σ 64 7 (σ.1 64 5)) 64 8 ((hl_si σ 64 7 (σ.1 64 5)).1 64 6)))
def f_M_ask_j104 (v1 : Int32) (σ : hl_M) : Option (Int64 × hl_M) :=
  if (σ.1 64 5) = 0 then
  (f_M_look σ).bind fun x5 =>
  if x5.1 = ((-1)) then
  f_M_ask_j128 v1 x5.2 else
  f_M_ask_j128 v1 (f_M_fail 1 (x5.2.1 64 2) x5.2) else
  f_M_ask_j128 v1 σ
def f_M_ask_j93 (v1 : Int32) (σ : hl_M) : Option (Int64 × hl_M) :=
  if (σ.1 64 5) = 0 then
  (f_M_qSums σ).bind fun x6 =>
  f_M_ask_j104 v1 x6 else
  f_M_ask_j104 v1 σ
def f_M_ask (σ : hl_M) : Option (Int64 × hl_M) :=
  if (σ.1 64 30) = 0 then
  some (((-1000000000000000), hl_si σ 64 1 0)) else
  hl_let (hl_si (hl_si (hl_si (hl_si (hl_si (hl_si (hl_si σ 64 3 (σ.1 64 1)) 64 1 0) 64 2 0) 64 4 ((-1))) 64 5 0) 64 6 ((-1))) 64 72 0) (fun σ1 =>
  (f_M_qKind (hl_si (hl_si (hl_si σ1 64 74 0) 64 75 0) 64 76 0)).bind fun x2 =>
  if (x2.2.1 64 5) = 0 then
  if 3 ≤ x2.1 then
  f_M_ask_j93 x2.1 x2.2 else
  (f_M_qTest x2.2).bind fun x7 =>
  f_M_ask_j104 x2.1 x7 else
  f_M_ask_j93 x2.1 x2.2)
set_option maxRecDepth 20000 in
theorem p_M_ask_L178 {X : hl_X} (D : Nat) (v1 : Int32) (s : Int32 × hl_M) {o : (Int32 × hl_M) ⊕ (hl_M)} {v : Option Value} {τ : hl_M} (h : f_M_ask_L178 v1 s = some o) (k1 : ∀ (c0 : Int32) (c1 : hl_M), o = .inl ((c0, c1)) → hl_R X (D + 9) y253 178 [(0, .ref 64), (1, .int v1), (2, .int c0)] [] c1 v τ) (k2 : ∀ (a0 : hl_M), o = .inr a0 → hl_R X (D + 9) y253 201 [(0, .ref 64)] [] a0 v τ) : hl_R X (D + 9) y253 178 [(0, .ref 64), (1, .int v1), (2, .int s.1)] [] s.2 v τ := by
  unfold f_M_ask_L178 at h
  refine hl_iload_n (i := 2) d253_178 rfl rfl ?_
  refine hl_bipush d253_179 kb100 ?_
  refine hl_icmp_ge (tg := 201) d253_181 rfl (fun hc => ?_) (fun hc => ?_)
  · have h := hl_pos hc h
    have h := Option.some.inj h
    subst h
    exact hl_loc (k2 s.2 rfl) ⟨rfl, trivial⟩
  · have h := hl_neg hc h
    refine hl_aload_n (i := 0) d253_184 rfl rfl (by decide) ?_
    refine hl_iload_n (i := 1) d253_185 rfl rfl ?_
    refine hl_aload_n (i := 0) d253_186 rfl rfl (by decide) ?_
    refine hl_iload_n (i := 2) d253_187 rfl rfl ?_
    obtain ⟨x3, hx3, h⟩ := hl_bind h
    refine hl_cVl (D := (D + 8)) (z := y255) (n := 1) (av := [.int s.1]) (st := [.int v1, .ref 64]) d253_188 mlM_589 rfl (Nat.le_of_ble_eq_true rfl) (Nat.le_of_ble_eq_true rfl) rc64 ((p_M_qTold D s.1 s.2 hx3).dle (by omega)) ?_
    refine hl_iload_n (i := 2) d253_191 rfl rfl ?_
    refine hl_cVv (D := (D + 8)) (z := y262) (n := 3) (av := [.int v1, .long x3.1, .int s.1]) (st := []) d253_192 mlM_593 rfl (Nat.le_of_ble_eq_true rfl) (Nat.le_of_ble_eq_true rfl) rc64 ((p_M_qTakes D v1 x3.1 s.1 x3.2 rfl).dle (by omega)) ?_
    refine hl_iinc (ls2 := [(2, .int (s.1 + 1)), (0, .ref 64), (1, .int v1)]) d253_195 rfl kx1 (by decide) rfl ?_
    refine hl_goto (tg := 178) d253_198 rfl ?_
    have h := Option.some.inj h
    subst h
    exact hl_loc (k1 (s.1 + 1) (f_M_qTakes v1 x3.1 s.1 x3.2) rfl) ⟨rfl, rfl, rfl, trivial⟩
set_option maxRecDepth 20000 in
theorem p_M_ask_j168 {X : hl_X} (D : Nat) (v1 : Int32) (s0 : Int64) (σ : hl_M) {r : Int64} {τ : hl_M} (h : f_M_ask_j168 v1 s0 σ = some (r, τ)) : hl_R X (D + 9) y253 168 [(0, .ref 64), (1, .int v1)] [.long s0, .ref 64] σ (some (.long r)) τ := by
  unfold f_M_ask_j168 at h
  refine hl_pl d253_168 qM_572_64 ?_
  refine hl_aload_n (i := 0) d253_171 rfl rfl (by decide) ?_
  refine hl_iconst d253_172 ki1 ?_
  refine hl_pz d253_173 qM_578_64 (Or.inr rfl) ?_
  refine hl_iconst d253_176 ki0 ?_
  refine hl_istore_n (i := 2) (ls2 := [(2, .int 0), (0, .ref 64), (1, .int v1)]) d253_177 rfl (by decide) rfl ?_
  obtain ⟨x4, hx4, h⟩ := hl_bind h
  refine hl_R.loc (ls' := [(0, .ref 64), (1, .int v1), (2, .int 0)]) ⟨rfl, rfl, rfl, trivial⟩ ?_
  refine hl_lp_run2 (P := fun (c0 : Int32) (c1 : hl_M) => hl_R X (D + 9) y253 178 [(0, .ref 64), (1, .int v1), (2, .int c0)] [] c1 (some (.long r)) τ) (fun x : hl_M => hl_R X (D + 9) y253 201 [(0, .ref 64)] [] x (some (.long r)) τ) (fun c0 c1 o ho h1 h2 => p_M_ask_L178 D v1 (c0, c1) ho h1 (fun a0 e => h2 a0 e)) hl_big 0 (hl_si (hl_sl σ 64 79 s0) 64 80 1) x4 hx4 ?_
  refine hl_aload_n (i := 0) d253_201 rfl rfl (by decide) ?_
  refine hl_gl d253_202 gM_572_64 ?_
  obtain ⟨e1, e2⟩ := hl_some2 h
  subst e1; subst e2
  exact hl_lret d253_205 rfl
set_option maxRecDepth 20000 in
theorem p_M_ask_j128 {X : hl_X} (D : Nat) (v1 : Int32) (σ : hl_M) {r : Int64} {τ : hl_M} (h : f_M_ask_j128 v1 σ = some (r, τ)) : hl_R X (D + 9) y253 128 [(0, .ref 64), (1, .int v1)] [] σ (some (.long r)) τ := by
  unfold f_M_ask_j128 at h
  refine hl_aload_n (i := 0) d253_128 rfl rfl (by decide) ?_
  refine hl_aload_n (i := 0) d253_129 rfl rfl (by decide) ?_
  refine hl_gi d253_130 gM_173_64 ?_
  refine hl_pi d253_133 qM_301_64 ?_
  refine hl_aload_n (i := 0) d253_136 rfl rfl (by decide) ?_
  refine hl_aload_n (i := 0) d253_137 rfl rfl (by decide) ?_
  refine hl_gi d253_138 gM_176_64 ?_
  refine hl_pi d253_141 qM_13_64 ?_
  refine hl_aload_n (i := 0) d253_144 rfl rfl (by decide) ?_
  refine hl_gi d253_145 gM_173_64 ?_
  refine hl_if_eq (tg := 155) d253_148 rfl (fun hc => ?_) (fun hc => ?_)
  · have h := hl_pos hc h
    refine hl_aload_n (i := 0) d253_155 rfl rfl (by decide) ?_
    refine hl_iload_n (i := 1) d253_156 rfl rfl ?_
    refine hl_iconst d253_157 ki2 ?_
    refine hl_icmp_ge (tg := 167) d253_158 rfl (fun hc => ?_) (fun hc => ?_)
    · have h := hl_pos hc h
      refine hl_lconst (x := 0) d253_167 (by decide) ?_
      exact hl_loc (p_M_ask_j168 D v1 0 (hl_si (hl_si σ 64 7 (σ.1 64 5)) 64 8 ((hl_si σ 64 7 (σ.1 64 5)).1 64 6)) h) ⟨rfl, rfl, trivial⟩
    · have h := hl_neg hc h
      refine hl_ldc2 d253_161 wlM_576 ?_
      refine hl_goto (tg := 168) d253_164 rfl ?_
      exact hl_loc (p_M_ask_j168 D v1 ((-1)) (hl_si (hl_si σ 64 7 (σ.1 64 5)) 64 8 ((hl_si σ 64 7 (σ.1 64 5)).1 64 6)) h) ⟨rfl, rfl, trivial⟩
  · have h := hl_neg hc h
    refine hl_ldc2 d253_151 wlM_581 ?_
    obtain ⟨e1, e2⟩ := hl_some2 h
    subst e1; subst e2
    exact hl_lret d253_154 rfl
set_option maxRecDepth 20000 in
theorem p_M_ask_j104 {X : hl_X} (D : Nat) (v1 : Int32) (σ : hl_M) {r : Int64} {τ : hl_M} (h : f_M_ask_j104 v1 σ = some (r, τ)) : hl_R X (D + 9) y253 104 [(0, .ref 64), (1, .int v1)] [] σ (some (.long r)) τ := by
  unfold f_M_ask_j104 at h
  refine hl_aload_n (i := 0) d253_104 rfl rfl (by decide) ?_
  refine hl_gi d253_105 gM_173_64 ?_
  refine hl_if_ne (tg := 128) d253_108 rfl (fun hc => ?_) (fun hc => ?_)
  · have h := hl_neg hc h
    exact hl_loc (p_M_ask_j128 D v1 σ h) ⟨rfl, rfl, trivial⟩
  · have h := hl_pos hc h
    refine hl_aload_n (i := 0) d253_111 rfl rfl (by decide) ?_
    obtain ⟨x5, hx5, h⟩ := hl_bind h
    refine hl_cVi (D := (D + 8)) (z := y65) (n := 0) (av := []) (st := []) d253_112 mlM_185 rfl (Nat.le_of_ble_eq_true rfl) (Nat.le_of_ble_eq_true rfl) rc64 ((p_M_look D σ hx5).dle (by omega)) ?_
    refine hl_iconst d253_115 kim1 ?_
    refine hl_icmp_eq (tg := 128) d253_116 rfl (fun hc => ?_) (fun hc => ?_)
    · have h := hl_pos hc h
      exact hl_loc (p_M_ask_j128 D v1 x5.2 h) ⟨rfl, rfl, trivial⟩
    · have h := hl_neg hc h
      refine hl_aload_n (i := 0) d253_119 rfl rfl (by decide) ?_
      refine hl_iconst d253_120 ki1 ?_
      refine hl_aload_n (i := 0) d253_121 rfl rfl (by decide) ?_
      refine hl_gi d253_122 gM_179_64 ?_
      refine hl_cVv (D := (D + 8)) (z := y67) (n := 2) (av := [.int 1, .int (x5.2.1 64 2)]) (st := []) d253_125 mlM_203 rfl (Nat.le_of_ble_eq_true rfl) (Nat.le_of_ble_eq_true rfl) rc64 ((p_M_fail D 1 (x5.2.1 64 2) x5.2 rfl).dle (by omega)) ?_
      exact hl_loc (p_M_ask_j128 D v1 (f_M_fail 1 (x5.2.1 64 2) x5.2) h) ⟨rfl, rfl, trivial⟩
set_option maxRecDepth 20000 in
theorem p_M_ask_j93 {X : hl_X} (D : Nat) (v1 : Int32) (σ : hl_M) {r : Int64} {τ : hl_M} (h : f_M_ask_j93 v1 σ = some (r, τ)) : hl_R X (D + 9) y253 93 [(0, .ref 64), (1, .int v1)] [] σ (some (.long r)) τ := by
  unfold f_M_ask_j93 at h
  refine hl_aload_n (i := 0) d253_93 rfl rfl (by decide) ?_
  refine hl_gi d253_94 gM_173_64 ?_
  refine hl_if_ne (tg := 104) d253_97 rfl (fun hc => ?_) (fun hc => ?_)
  · have h := hl_neg hc h
    exact hl_loc (p_M_ask_j104 D v1 σ h) ⟨rfl, rfl, trivial⟩
  · have h := hl_pos hc h
    refine hl_aload_n (i := 0) d253_100 rfl rfl (by decide) ?_
    obtain ⟨x6, hx6, h⟩ := hl_bind h
    refine hl_cVv (D := (D + 8)) (z := y263) (n := 0) (av := []) (st := []) d253_101 mlM_527 rfl (Nat.le_of_ble_eq_true rfl) (Nat.le_of_ble_eq_true rfl) rc64 ((p_M_qSums D σ hx6).dle (by omega)) ?_
    exact hl_loc (p_M_ask_j104 D v1 x6 h) ⟨rfl, rfl, trivial⟩
set_option maxRecDepth 20000 in
theorem p_M_ask {X : hl_X} (D : Nat) (σ : hl_M) {r : Int64} {τ : hl_M} (h : f_M_ask σ = some (r, τ)) : hl_R X (D + 9) y253 0 [(0, .ref 64)] [] σ (some (.long r)) τ := by
  unfold f_M_ask at h
  refine hl_aload_n (i := 0) d253_0 rfl rfl (by decide) ?_
  refine hl_gi d253_1 gM_307_64 ?_
  refine hl_if_ne (tg := 16) d253_4 rfl (fun hc => ?_) (fun hc => ?_)
  · have h := hl_neg hc h
    refine hl_aload_n (i := 0) d253_16 rfl rfl (by decide) ?_
    refine hl_aload_n (i := 0) d253_17 rfl rfl (by decide) ?_
    refine hl_gi d253_18 gM_170_64 ?_
    refine hl_pi d253_21 qM_182_64 ?_
    refine hl_aload_n (i := 0) d253_24 rfl rfl (by decide) ?_
    refine hl_iconst d253_25 ki0 ?_
    refine hl_pi d253_26 qM_170_64 ?_
    refine hl_aload_n (i := 0) d253_29 rfl rfl (by decide) ?_
    refine hl_iconst d253_30 ki0 ?_
    refine hl_pi d253_31 qM_179_64 ?_
    refine hl_aload_n (i := 0) d253_34 rfl rfl (by decide) ?_
    refine hl_iconst d253_35 kim1 ?_
    refine hl_pi d253_36 qM_193_64 ?_
    refine hl_aload_n (i := 0) d253_39 rfl rfl (by decide) ?_
    refine hl_iconst d253_40 ki0 ?_
    refine hl_pi d253_41 qM_173_64 ?_
    refine hl_aload_n (i := 0) d253_44 rfl rfl (by decide) ?_
    refine hl_iconst d253_45 kim1 ?_
    refine hl_pi d253_46 qM_176_64 ?_
    refine hl_aload_n (i := 0) d253_49 rfl rfl (by decide) ?_
    refine hl_iconst d253_50 ki0 ?_
    refine hl_pi d253_51 qM_476_64 ?_
    refine hl_nmm h (fun σ1 h => ?_)
    refine hl_aload_n (i := 0) d253_54 rfl rfl (by decide) ?_
    refine hl_iconst d253_55 ki0 ?_
    refine hl_pi d253_56 qM_482_64 ?_
    refine hl_aload_n (i := 0) d253_59 rfl rfl (by decide) ?_
    refine hl_iconst d253_60 ki0 ?_
    refine hl_pi d253_61 qM_479_64 ?_
    refine hl_aload_n (i := 0) d253_64 rfl rfl (by decide) ?_
    refine hl_iconst d253_65 ki0 ?_
    refine hl_pi d253_66 qM_488_64 ?_
    refine hl_aload_n (i := 0) d253_69 rfl rfl (by decide) ?_
    obtain ⟨x2, hx2, h⟩ := hl_bind h
    refine hl_cVi (D := (D + 8)) (z := y254) (n := 0) (av := []) (st := []) d253_70 mlM_583 rfl (Nat.le_of_ble_eq_true rfl) (Nat.le_of_ble_eq_true rfl) rc64 ((p_M_qKind D (hl_si (hl_si (hl_si σ1 64 74 0) 64 75 0) 64 76 0) hx2).dle (by omega)) ?_
    refine hl_istore_n (i := 1) (ls2 := [(1, .int x2.1), (0, .ref 64)]) d253_73 rfl (by decide) rfl ?_
    refine hl_aload_n (i := 0) d253_74 rfl rfl (by decide) ?_
    refine hl_gi d253_75 gM_173_64 ?_
    refine hl_if_ne (tg := 93) d253_78 rfl (fun hc => ?_) (fun hc => ?_)
    · have h := hl_neg hc h
      exact hl_loc (p_M_ask_j93 D x2.1 x2.2 h) ⟨rfl, rfl, trivial⟩
    · have h := hl_pos hc h
      refine hl_iload_n (i := 1) d253_81 rfl rfl ?_
      refine hl_iconst d253_82 ki3 ?_
      refine hl_icmp_ge (tg := 93) d253_83 rfl (fun hc => ?_) (fun hc => ?_)
      · have h := hl_pos hc h
        exact hl_loc (p_M_ask_j93 D x2.1 x2.2 h) ⟨rfl, rfl, trivial⟩
      · have h := hl_neg hc h
        refine hl_aload_n (i := 0) d253_86 rfl rfl (by decide) ?_
        obtain ⟨x7, hx7, h⟩ := hl_bind h
        refine hl_cVv (D := (D + 8)) (z := y277) (n := 0) (av := []) (st := []) d253_87 mlM_586 rfl (Nat.le_of_ble_eq_true rfl) (Nat.le_of_ble_eq_true rfl) rc64 ((p_M_qTest D x2.2 hx7).dle (by omega)) ?_
        refine hl_goto (tg := 104) d253_90 rfl ?_
        exact hl_loc (p_M_ask_j104 D x2.1 x7 h) ⟨rfl, rfl, trivial⟩
  · have h := hl_pos hc h
    refine hl_aload_n (i := 0) d253_7 rfl rfl (by decide) ?_
    refine hl_iconst d253_8 ki0 ?_
    refine hl_pi d253_9 qM_170_64 ?_
    refine hl_ldc2 d253_12 wlM_581 ?_
    obtain ⟨e1, e2⟩ := hl_some2 h
    subst e1; subst e2
    exact hl_lret d253_15 rfl
def f_Im_summed (v0 : Int32) (v1 : Int32) : Int32 :=
  ((3 * v0) + v1) - ((3 * v0) + v1) / 251 * 251
set_option maxRecDepth 20000 in
theorem p_Im_summed {X : hl_X} (D : Nat) (v0 : Int32) (v1 : Int32) (σ : hl_M) {r : Int32} (h : f_Im_summed v0 v1 = r) : hl_R X D y285 0 [(0, .int v0), (1, .int v1)] [] σ (some (.int r)) σ := by
  unfold f_Im_summed at h
  refine hl_iconst d285_0 ki3 ?_
  refine hl_iload_n (i := 0) d285_1 rfl rfl ?_
  refine hl_imul d285_2 ?_
  refine hl_iload_n (i := 1) d285_3 rfl rfl ?_
  refine hl_iadd d285_4 ?_
  refine hl_sipush d285_5 ks251 ?_
  refine hl_irem d285_8 (by decide) ?_
  subst h
  exact hl_iret d285_9 rfl
def f_Im_put_j35 (v1 : Int32) (v2 : Int32) (σ : hl_M) : Option (Int32 × hl_M) :=
  some ((f_Im_summed v2 v1, σ))
def f_Im_put (v1 : Int32) (v2 : Int32) (σ : hl_M) : Option (Int32 × hl_M) :=
  if (f_X_within (σ.1 62 2) 141) = 0 then
  f_Im_put_j35 v1 v2 σ else
  if hl_b (σ.1 62 2) 141 then
  f_Im_put_j35 v1 v2 (hl_si (hl_si σ 63 (σ.1 62 2).toNatClampNeg v1) 62 2 (((hl_si σ 63 (σ.1 62 2).toNatClampNeg v1).1 62 2) + 1)) else none
set_option maxRecDepth 20000 in
theorem p_Im_put_j35 {X : hl_X} (D : Nat) (v1 : Int32) (v2 : Int32) (σ : hl_M) {r : Int32} {τ : hl_M} (h : f_Im_put_j35 v1 v2 σ = some (r, τ)) : hl_R X (D + 1) y284 35 [(1, .int v1), (2, .int v2)] [] σ (some (.int r)) τ := by
  unfold f_Im_put_j35 at h
  refine hl_iload_n (i := 2) d284_35 rfl rfl ?_
  refine hl_iload_n (i := 1) d284_36 rfl rfl ?_
  refine hl_cSi (D := D) (z := y285) (n := 2) (av := [.int v2, .int v1]) (st := []) d284_37 mlIm_51 rfl (Nat.le_of_ble_eq_true rfl) (Nat.le_of_ble_eq_true rfl) ((p_Im_summed D v2 v1 σ rfl).dle (by omega)) ?_
  obtain ⟨e1, e2⟩ := hl_some2 h
  subst e1; subst e2
  exact hl_iret d284_40 rfl
set_option maxRecDepth 20000 in
theorem p_Im_put {X : hl_X} (D : Nat) (v1 : Int32) (v2 : Int32) (σ : hl_M) {r : Int32} {τ : hl_M} (h : f_Im_put v1 v2 σ = some (r, τ)) : hl_R X (D + 1) y284 0 [(0, .ref 62), (1, .int v1), (2, .int v2)] [] σ (some (.int r)) τ := by
  unfold f_Im_put at h
  refine hl_aload_n (i := 0) d284_0 rfl rfl (by decide) ?_
  refine hl_gi d284_1 gIm_19_62 ?_
  refine hl_aload_n (i := 0) d284_4 rfl rfl (by decide) ?_
  refine hl_gr d284_5 gIm_9_62 ?_
  refine hl_alen d284_8 sh63 (by decide) kn141 ?_
  refine hl_cNi (D := D) (z := y2) (n := 2) (av := [.int (σ.1 62 2), .int 141]) (st := []) d284_9 mlIm_47 rfl (Nat.le_of_ble_eq_true rfl) (Nat.le_of_ble_eq_true rfl) ((p_X_within D (σ.1 62 2) 141 σ rfl).dle (by omega)) ?_
  refine hl_if_eq (tg := 35) d284_12 rfl (fun hc => ?_) (fun hc => ?_)
  · have h := hl_pos hc h
    exact hl_loc (p_Im_put_j35 D v1 v2 σ h) ⟨rfl, rfl, trivial⟩
  · have h := hl_neg hc h
    refine hl_aload_n (i := 0) d284_15 rfl rfl (by decide) ?_
    refine hl_gr d284_16 gIm_9_62 ?_
    refine hl_aload_n (i := 0) d284_19 rfl rfl (by decide) ?_
    refine hl_gi d284_20 gIm_19_62 ?_
    refine hl_iload_n (i := 1) d284_23 rfl rfl ?_
    obtain ⟨hb, h⟩ := hl_gd h
    refine hl_iast (q := 63) d284_24 sh63 (hl_b_in hb) ?_
    refine hl_aload_n (i := 0) d284_25 rfl rfl (by decide) ?_
    refine hl_dup d284_26 rfl ?_
    refine hl_gi d284_27 gIm_19_62 ?_
    refine hl_iconst d284_30 ki1 ?_
    refine hl_iadd d284_31 ?_
    refine hl_pi d284_32 qIm_19_62 ?_
    exact hl_loc (p_Im_put_j35 D v1 v2 (hl_si (hl_si σ 63 (σ.1 62 2).toNatClampNeg v1) 62 2 (((hl_si σ 63 (σ.1 62 2).toNatClampNeg v1).1 62 2) + 1)) h) ⟨rfl, rfl, trivial⟩
def f_Im_write_L63 (v2 : Int32) (v3 : Int64) (v5 : Int32) (s : Int32 × Int32 × hl_M) : Option ((Int32 × Int32 × hl_M) ⊕ (Int32 × hl_M)) :=
  if v5 ≤ s.2.1 then
  some (.inr (((s.1, s.2.2)))) else
  (f_Im_put (f_X_stepIn v3 s.2.1) s.1 s.2.2).bind fun x3 =>
  some (.inl ((x3.1, s.2.1 + 1, x3.2)))
def f_Im_write_L10 (s : Int32 × Int32 × hl_M) : Option ((Int32 × Int32 × hl_M) ⊕ (Int32 × hl_M)) :=
  if (s.2.2.1 4 3) ≤ s.2.1 then
  some (.inr (((s.1, s.2.2)))) else
  if hl_b s.2.1 10 then
  if hl_b s.2.1 10 then
  (f_Im_put (s.2.2.1 7 s.2.1.toNatClampNeg) s.1 s.2.2).bind fun x1 =>
  (f_Im_put (f_X_countOf (s.2.2.2 8 s.2.1.toNatClampNeg)) x1.1 x1.2).bind fun x2 =>
  (hl_lp (f_Im_write_L63 s.2.1 (s.2.2.2 8 s.2.1.toNatClampNeg) (f_X_countOf (s.2.2.2 8 s.2.1.toNatClampNeg))) hl_big ((x2.1, 0, x2.2))).bind fun x4 =>
  some (.inl ((x4.1, s.2.1 + 1, x4.2))) else none else none
def f_Im_write (σ : hl_M) : Option (hl_M) :=
  (hl_lp (f_Im_write_L10) hl_big ((109, 0, hl_si σ 62 2 0))).bind fun x5 =>
  (f_Im_put x5.1 0 x5.2).bind fun x6 =>
  some x6.2
set_option maxRecDepth 20000 in
theorem p_Im_write_L63 {X : hl_X} (D : Nat) (v2 : Int32) (v3 : Int64) (v5 : Int32) (s : Int32 × Int32 × hl_M) {o : (Int32 × Int32 × hl_M) ⊕ (Int32 × hl_M)} {v : Option Value} {τ : hl_M} (h : f_Im_write_L63 v2 v3 v5 s = some o) (k1 : ∀ (c0 : Int32) (c1 : Int32) (c2 : hl_M), o = .inl ((c0, c1, c2)) → hl_R X (D + 2) y283 63 [(0, .ref 62), (1, .int c0), (2, .int v2), (3, .long v3), (5, .int v5), (6, .int c1)] [] c2 v τ) (k2 : ∀ (a0 : Int32) (a1 : hl_M), o = .inr ((a0, a1)) → hl_R X (D + 2) y283 88 [(0, .ref 62), (1, .int a0), (2, .int v2)] [] a1 v τ) : hl_R X (D + 2) y283 63 [(0, .ref 62), (1, .int s.1), (2, .int v2), (3, .long v3), (5, .int v5), (6, .int s.2.1)] [] s.2.2 v τ := by
  unfold f_Im_write_L63 at h
  refine hl_iload d283_63 rfl ?_
  refine hl_iload d283_65 rfl ?_
  refine hl_icmp_ge (tg := 88) d283_67 rfl (fun hc => ?_) (fun hc => ?_)
  · have h := hl_pos hc h
    have h := Option.some.inj h
    subst h
    exact hl_loc (k2 s.1 s.2.2 rfl) ⟨rfl, rfl, rfl, trivial⟩
  · have h := hl_neg hc h
    refine hl_aload_n (i := 0) d283_70 rfl rfl (by decide) ?_
    refine hl_lload_n (i := 3) d283_71 rfl rfl ?_
    refine hl_iload d283_72 rfl ?_
    refine hl_cNi (D := (D + 1)) (z := y59) (n := 2) (av := [.long v3, .int s.2.1]) (st := [.ref 62]) d283_74 mlIm_43 rfl (Nat.le_of_ble_eq_true rfl) (Nat.le_of_ble_eq_true rfl) ((p_X_stepIn D v3 s.2.1 s.2.2 rfl).dle (by omega)) ?_
    refine hl_iload_n (i := 1) d283_77 rfl rfl ?_
    obtain ⟨x3, hx3, h⟩ := hl_bind h
    refine hl_cVi (D := (D + 1)) (z := y284) (n := 2) (av := [.int (f_X_stepIn v3 s.2.1), .int s.1]) (st := []) d283_78 mlIm_39 rfl (Nat.le_of_ble_eq_true rfl) (Nat.le_of_ble_eq_true rfl) rc62 ((p_Im_put D (f_X_stepIn v3 s.2.1) s.1 s.2.2 hx3).dle (by omega)) ?_
    refine hl_istore_n (i := 1) (ls2 := [(1, .int x3.1), (0, .ref 62), (2, .int v2), (3, .long v3), (5, .int v5), (6, .int s.2.1)]) d283_81 rfl (by decide) rfl ?_
    refine hl_iinc (ls2 := [(6, .int (s.2.1 + 1)), (1, .int x3.1), (0, .ref 62), (2, .int v2), (3, .long v3), (5, .int v5)]) d283_82 rfl kx1 (by decide) rfl ?_
    refine hl_goto (tg := 63) d283_85 rfl ?_
    have h := Option.some.inj h
    subst h
    exact hl_loc (k1 x3.1 (s.2.1 + 1) x3.2 rfl) ⟨rfl, rfl, rfl, rfl, rfl, rfl, trivial⟩
set_option maxRecDepth 20000 in
theorem p_Im_write_L10 {X : hl_X} (D : Nat) (s : Int32 × Int32 × hl_M) {o : (Int32 × Int32 × hl_M) ⊕ (Int32 × hl_M)} {v : Option Value} {τ : hl_M} (h : f_Im_write_L10 s = some o) (k1 : ∀ (c0 : Int32) (c1 : Int32) (c2 : hl_M), o = .inl ((c0, c1, c2)) → hl_R X (D + 2) y283 10 [(0, .ref 62), (1, .int c0), (2, .int c1)] [] c2 v τ) (k2 : ∀ (a0 : Int32) (a1 : hl_M), o = .inr ((a0, a1)) → hl_R X (D + 2) y283 94 [(0, .ref 62), (1, .int a0)] [] a1 v τ) : hl_R X (D + 2) y283 10 [(0, .ref 62), (1, .int s.1), (2, .int s.2.1)] [] s.2.2 v τ := by
  unfold f_Im_write_L10 at h
  refine hl_iload_n (i := 2) d283_10 rfl rfl ?_
  refine hl_aload_n (i := 0) d283_11 rfl rfl (by decide) ?_
  refine hl_gr d283_12 gIm_15_62 ?_
  refine hl_gi d283_15 gIm_23_4 ?_
  refine hl_icmp_ge (tg := 94) d283_18 rfl (fun hc => ?_) (fun hc => ?_)
  · have h := hl_pos hc h
    have h := Option.some.inj h
    subst h
    exact hl_loc (k2 s.1 s.2.2 rfl) ⟨rfl, rfl, trivial⟩
  · have h := hl_neg hc h
    refine hl_aload_n (i := 0) d283_21 rfl rfl (by decide) ?_
    refine hl_gr d283_22 gIm_15_62 ?_
    refine hl_gr d283_25 gIm_28_4 ?_
    refine hl_iload_n (i := 2) d283_28 rfl rfl ?_
    obtain ⟨hb, h⟩ := hl_gd h
    refine hl_lald d283_29 sh8 (hl_b_in hb) ?_
    refine hl_lstore_n (i := 3) (ls2 := [(3, .long (s.2.2.2 8 s.2.1.toNatClampNeg)), (0, .ref 62), (1, .int s.1), (2, .int s.2.1)]) d283_30 rfl (by decide) rfl ?_
    refine hl_lload_n (i := 3) d283_31 rfl rfl ?_
    refine hl_cNi (D := (D + 1)) (z := y58) (n := 1) (av := [.long (s.2.2.2 8 s.2.1.toNatClampNeg)]) (st := []) d283_32 mlIm_32 rfl (Nat.le_of_ble_eq_true rfl) (Nat.le_of_ble_eq_true rfl) ((p_X_countOf D (s.2.2.2 8 s.2.1.toNatClampNeg) s.2.2 rfl).dle (by omega)) ?_
    refine hl_istore (ls2 := [(5, .int (f_X_countOf (s.2.2.2 8 s.2.1.toNatClampNeg))), (3, .long (s.2.2.2 8 s.2.1.toNatClampNeg)), (0, .ref 62), (1, .int s.1), (2, .int s.2.1)]) d283_35 (by decide) rfl ?_
    refine hl_aload_n (i := 0) d283_37 rfl rfl (by decide) ?_
    refine hl_aload_n (i := 0) d283_38 rfl rfl (by decide) ?_
    refine hl_gr d283_39 gIm_15_62 ?_
    refine hl_gr d283_42 gIm_36_4 ?_
    refine hl_iload_n (i := 2) d283_45 rfl rfl ?_
    obtain ⟨hb, h⟩ := hl_gd h
    refine hl_iald d283_46 sh7 (hl_b_in hb) ?_
    refine hl_iload_n (i := 1) d283_47 rfl rfl ?_
    obtain ⟨x1, hx1, h⟩ := hl_bind h
    refine hl_cVi (D := (D + 1)) (z := y284) (n := 2) (av := [.int (s.2.2.1 7 s.2.1.toNatClampNeg), .int s.1]) (st := []) d283_48 mlIm_39 rfl (Nat.le_of_ble_eq_true rfl) (Nat.le_of_ble_eq_true rfl) rc62 ((p_Im_put D (s.2.2.1 7 s.2.1.toNatClampNeg) s.1 s.2.2 hx1).dle (by omega)) ?_
    refine hl_istore_n (i := 1) (ls2 := [(1, .int x1.1), (5, .int (f_X_countOf (s.2.2.2 8 s.2.1.toNatClampNeg))), (3, .long (s.2.2.2 8 s.2.1.toNatClampNeg)), (0, .ref 62), (2, .int s.2.1)]) d283_51 rfl (by decide) rfl ?_
    refine hl_aload_n (i := 0) d283_52 rfl rfl (by decide) ?_
    refine hl_iload d283_53 rfl ?_
    refine hl_iload_n (i := 1) d283_55 rfl rfl ?_
    obtain ⟨x2, hx2, h⟩ := hl_bind h
    refine hl_cVi (D := (D + 1)) (z := y284) (n := 2) (av := [.int (f_X_countOf (s.2.2.2 8 s.2.1.toNatClampNeg)), .int x1.1]) (st := []) d283_56 mlIm_39 rfl (Nat.le_of_ble_eq_true rfl) (Nat.le_of_ble_eq_true rfl) rc62 ((p_Im_put D (f_X_countOf (s.2.2.2 8 s.2.1.toNatClampNeg)) x1.1 x1.2 hx2).dle (by omega)) ?_
    refine hl_istore_n (i := 1) (ls2 := [(1, .int x2.1), (5, .int (f_X_countOf (s.2.2.2 8 s.2.1.toNatClampNeg))), (3, .long (s.2.2.2 8 s.2.1.toNatClampNeg)), (0, .ref 62), (2, .int s.2.1)]) d283_59 rfl (by decide) rfl ?_
    refine hl_iconst d283_60 ki0 ?_
    refine hl_istore (ls2 := [(6, .int 0), (1, .int x2.1), (5, .int (f_X_countOf (s.2.2.2 8 s.2.1.toNatClampNeg))), (3, .long (s.2.2.2 8 s.2.1.toNatClampNeg)), (0, .ref 62), (2, .int s.2.1)]) d283_61 (by decide) rfl ?_
    obtain ⟨x4, hx4, h⟩ := hl_bind h
    refine hl_R.loc (ls' := [(0, .ref 62), (1, .int x2.1), (2, .int s.2.1), (3, .long (s.2.2.2 8 s.2.1.toNatClampNeg)), (5, .int (f_X_countOf (s.2.2.2 8 s.2.1.toNatClampNeg))), (6, .int 0)]) ⟨rfl, rfl, rfl, rfl, rfl, rfl, trivial⟩ ?_
    refine hl_lp_run3 (P := fun (c0 : Int32) (c1 : Int32) (c2 : hl_M) => hl_R X (D + 2) y283 63 [(0, .ref 62), (1, .int c0), (2, .int s.2.1), (3, .long (s.2.2.2 8 s.2.1.toNatClampNeg)), (5, .int (f_X_countOf (s.2.2.2 8 s.2.1.toNatClampNeg))), (6, .int c1)] [] c2 v τ) (fun x : Int32 × hl_M => hl_R X (D + 2) y283 88 [(0, .ref 62), (1, .int x.1), (2, .int s.2.1)] [] x.2 v τ) (fun c0 c1 c2 o ho h1 h2 => p_Im_write_L63 D s.2.1 (s.2.2.2 8 s.2.1.toNatClampNeg) (f_X_countOf (s.2.2.2 8 s.2.1.toNatClampNeg)) (c0, c1, c2) ho h1 (fun a0 a1 e => h2 ((a0, a1)) e)) hl_big x2.1 0 x2.2 x4 hx4 ?_
    refine hl_iinc (ls2 := [(2, .int (s.2.1 + 1)), (0, .ref 62), (1, .int x4.1)]) d283_88 rfl kx1 (by decide) rfl ?_
    refine hl_goto (tg := 10) d283_91 rfl ?_
    have h := Option.some.inj h
    subst h
    exact hl_loc (k1 x4.1 (s.2.1 + 1) x4.2 rfl) ⟨rfl, rfl, rfl, trivial⟩
set_option maxRecDepth 20000 in
theorem p_Im_write {X : hl_X} (D : Nat) (σ : hl_M) {τ : hl_M} (h : f_Im_write σ = some τ) : hl_R X (D + 2) y283 0 [(0, .ref 62)] [] σ none τ := by
  unfold f_Im_write at h
  refine hl_aload_n (i := 0) d283_0 rfl rfl (by decide) ?_
  refine hl_iconst d283_1 ki0 ?_
  refine hl_pi d283_2 qIm_19_62 ?_
  refine hl_bipush d283_5 kb109 ?_
  refine hl_istore_n (i := 1) (ls2 := [(1, .int 109), (0, .ref 62)]) d283_7 rfl (by decide) rfl ?_
  refine hl_iconst d283_8 ki0 ?_
  refine hl_istore_n (i := 2) (ls2 := [(2, .int 0), (1, .int 109), (0, .ref 62)]) d283_9 rfl (by decide) rfl ?_
  obtain ⟨x5, hx5, h⟩ := hl_bind h
  refine hl_R.loc (ls' := [(0, .ref 62), (1, .int 109), (2, .int 0)]) ⟨rfl, rfl, rfl, trivial⟩ ?_
  refine hl_lp_run3 (P := fun (c0 : Int32) (c1 : Int32) (c2 : hl_M) => hl_R X (D + 2) y283 10 [(0, .ref 62), (1, .int c0), (2, .int c1)] [] c2 none τ) (fun x : Int32 × hl_M => hl_R X (D + 2) y283 94 [(0, .ref 62), (1, .int x.1)] [] x.2 none τ) (fun c0 c1 c2 o ho h1 h2 => p_Im_write_L10 D (c0, c1, c2) ho h1 (fun a0 a1 e => h2 ((a0, a1)) e)) hl_big 109 0 (hl_si σ 62 2 0) x5 hx5 ?_
  refine hl_aload_n (i := 0) d283_94 rfl rfl (by decide) ?_
  refine hl_iload_n (i := 1) d283_95 rfl rfl ?_
  refine hl_iconst d283_96 ki0 ?_
  obtain ⟨x6, hx6, h⟩ := hl_bind h
  refine hl_cVi (D := (D + 1)) (z := y284) (n := 2) (av := [.int x5.1, .int 0]) (st := []) d283_97 mlIm_39 rfl (Nat.le_of_ble_eq_true rfl) (Nat.le_of_ble_eq_true rfl) rc62 ((p_Im_put D x5.1 0 x5.2 hx6).dle (by omega)) ?_
  refine hl_pop d283_100 rfl ?_
  have h := Option.some.inj h
  subst h
  exact hl_vret d283_101 rfl
def f_X_image (σ : hl_M) : Option (Int32 × hl_M) :=
  (f_Im_write σ).bind fun x1 =>
  some ((x1.1 62 2, x1))
set_option maxRecDepth 20000 in
theorem p_X_image {X : hl_X} (D : Nat) (σ : hl_M) {r : Int32} {τ : hl_M} (h : f_X_image σ = some (r, τ)) : hl_R X (D + 3) y282 0 [(0, .ref 0)] [] σ (some (.int r)) τ := by
  unfold f_X_image at h
  refine hl_aload_n (i := 0) d282_0 rfl rfl (by decide) ?_
  refine hl_gr d282_1 gX_88_0 ?_
  obtain ⟨x1, hx1, h⟩ := hl_bind h
  refine hl_cVv (D := (D + 2)) (z := y283) (n := 0) (av := []) (st := []) d282_4 mlX_325 rfl (Nat.le_of_ble_eq_true rfl) (Nat.le_of_ble_eq_true rfl) rc62 ((p_Im_write D σ hx1).dle (by omega)) ?_
  refine hl_aload_n (i := 0) d282_7 rfl rfl (by decide) ?_
  refine hl_gr d282_8 gX_88_0 ?_
  refine hl_gi d282_11 gX_328_62 ?_
  obtain ⟨e1, e2⟩ := hl_some2 h
  subst e1; subst e2
  exact hl_iret d282_14 rfl
