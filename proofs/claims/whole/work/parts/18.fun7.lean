def f_X_paint_L41 (σ : hl_M) (s : Int32 × Int64 × Int64 × Int32) : Option ((Int32 × Int64 × Int64 × Int32) ⊕ (Int32 × Int64 × Int64)) :=
  if s.1 = 0 then
  some (.inr (((s.1, s.2.1, s.2.2.1)))) else
  if (f_Gr_cells σ) ≤ s.2.2.2 then
  some (.inr (((s.1, s.2.1, s.2.2.1)))) else
  (f_Tape_at s.2.2.2 σ).bind fun x1 =>
  if x1 = 1 then
  some (.inl ((f_X_within x1 3, s.2.1 ||| ((1 : Int64) <<< (s.2.2.2.toInt64 &&& 63)), s.2.2.1, s.2.2.2 + 1))) else
  if x1 = 2 then
  some (.inl ((f_X_within x1 3, s.2.1, s.2.2.1 ||| ((1 : Int64) <<< (s.2.2.2.toInt64 &&& 63)), s.2.2.2 + 1))) else
  some (.inl ((f_X_within x1 3, s.2.1, s.2.2.1, s.2.2.2 + 1)))
def f_X_paint_j32 (s0 : Int32) (σ : hl_M) : Option (Int32 × hl_M) :=
  (hl_lp (f_X_paint_L41 σ) hl_big ((s0, 0, 0, 0))).bind fun x2 =>
  if x2.1 = 0 then
  some ((vp_nar .boolean x2.1, hl_si σ 1 1 0)) else
  some ((vp_nar .boolean x2.1, hl_sl (hl_sl (hl_si (hl_si σ 1 1 0) 0 11 1) 0 12 x2.2.1) 0 13 x2.2.2))
def f_X_paint (σ : hl_M) : Option (Int32 × hl_M) :=
  if (σ.1 4 0) ≤ 0 then
  f_X_paint_j32 0 σ else
  if (σ.1 1 1) = (f_Gr_cells σ) then
  f_X_paint_j32 1 σ else
  f_X_paint_j32 0 σ
set_option maxRecDepth 20000 in
theorem p_X_paint_L41 {X : hl_X} (D : Nat) (σ : hl_M) (s : Int32 × Int64 × Int64 × Int32) {o : (Int32 × Int64 × Int64 × Int32) ⊕ (Int32 × Int64 × Int64)} {v : Option Value} {τ : hl_M} (h : f_X_paint_L41 σ s = some o) (k1 : ∀ (c0 : Int32) (c1 : Int64) (c2 : Int64) (c3 : Int32), o = .inl ((c0, c1, c2, c3)) → hl_R X (D + 1) y203 41 [(0, .ref 0), (1, .int c0), (2, .long c1), (4, .long c2), (6, .int c3)] [] σ v τ) (k2 : ∀ (a0 : Int32) (a1 : Int64) (a2 : Int64), o = .inr ((a0, a1, a2)) → hl_R X (D + 1) y203 112 [(0, .ref 0), (1, .int a0), (2, .long a1), (4, .long a2)] [] σ v τ) : hl_R X (D + 1) y203 41 [(0, .ref 0), (1, .int s.1), (2, .long s.2.1), (4, .long s.2.2.1), (6, .int s.2.2.2)] [] σ v τ := by
  unfold f_X_paint_L41 at h
  refine hl_iload_n (i := 1) d203_41 rfl rfl ?_
  refine hl_if_eq (tg := 112) d203_42 rfl (fun hc => ?_) (fun hc => ?_)
  · have h := hl_pos hc h
    have h := Option.some.inj h
    subst h
    exact hl_loc (k2 s.1 s.2.1 s.2.2.1 rfl) ⟨rfl, rfl, rfl, rfl, trivial⟩
  · have h := hl_neg hc h
    refine hl_iload d203_45 rfl ?_
    refine hl_aload_n (i := 0) d203_47 rfl rfl (by decide) ?_
    refine hl_gr d203_48 gX_28_0 ?_
    refine hl_cVi (D := D) (z := y50) (n := 0) (av := []) (st := [.int s.2.2.2]) d203_51 mlX_200 rfl (Nat.le_of_ble_eq_true rfl) (Nat.le_of_ble_eq_true rfl) rc4 ((p_Gr_cells D σ rfl).dle (by omega)) ?_
    refine hl_icmp_ge (tg := 112) d203_54 rfl (fun hc => ?_) (fun hc => ?_)
    · have h := hl_pos hc h
      have h := Option.some.inj h
      subst h
      exact hl_loc (k2 s.1 s.2.1 s.2.2.1 rfl) ⟨rfl, rfl, rfl, rfl, trivial⟩
    · have h := hl_neg hc h
      refine hl_aload_n (i := 0) d203_57 rfl rfl (by decide) ?_
      refine hl_gr d203_58 gX_10_0 ?_
      refine hl_iload d203_61 rfl ?_
      obtain ⟨x1, hx1, h⟩ := hl_bind h
      refine hl_cVi (D := D) (z := y11) (n := 1) (av := [.int s.2.2.2]) (st := []) d203_63 mlX_276 rfl (Nat.le_of_ble_eq_true rfl) (Nat.le_of_ble_eq_true rfl) rc1 ((p_Tape_at D s.2.2.2 σ hx1).dle (by omega)) ?_
      refine hl_istore (ls2 := [(7, .int x1), (0, .ref 0), (1, .int s.1), (2, .long s.2.1), (4, .long s.2.2.1), (6, .int s.2.2.2)]) d203_66 (by decide) rfl ?_
      refine hl_iload d203_68 rfl ?_
      refine hl_iconst d203_70 ki3 ?_
      refine hl_cSi (D := D) (z := y2) (n := 2) (av := [.int x1, .int 3]) (st := []) d203_71 mlX_154 rfl (Nat.le_of_ble_eq_true rfl) (Nat.le_of_ble_eq_true rfl) ((p_X_within D x1 3 σ rfl).dle (by omega)) ?_
      refine hl_istore_n (i := 1) (ls2 := [(1, .int (f_X_within x1 3)), (7, .int x1), (0, .ref 0), (2, .long s.2.1), (4, .long s.2.2.1), (6, .int s.2.2.2)]) d203_74 rfl (by decide) rfl ?_
      refine hl_iload d203_75 rfl ?_
      refine hl_iconst d203_77 ki1 ?_
      refine hl_icmp_ne (tg := 91) d203_78 rfl (fun hc => ?_) (fun hc => ?_)
      · have h := hl_neg hc h
        refine hl_iload d203_91 rfl ?_
        refine hl_iconst d203_93 ki2 ?_
        refine hl_icmp_ne (tg := 106) d203_94 rfl (fun hc => ?_) (fun hc => ?_)
        · have h := hl_neg hc h
          refine hl_iinc (ls2 := [(6, .int (s.2.2.2 + 1)), (1, .int (f_X_within x1 3)), (7, .int x1), (0, .ref 0), (2, .long s.2.1), (4, .long s.2.2.1)]) d203_106 rfl kx1 (by decide) rfl ?_
          refine hl_goto (tg := 41) d203_109 rfl ?_
          have h := Option.some.inj h
          subst h
          exact hl_loc (k1 (f_X_within x1 3) s.2.1 s.2.2.1 (s.2.2.2 + 1) rfl) ⟨rfl, rfl, rfl, rfl, rfl, trivial⟩
        · have h := hl_pos hc h
          refine hl_lload d203_97 rfl ?_
          refine hl_lconst (x := 1) d203_99 (by decide) ?_
          refine hl_iload d203_100 rfl ?_
          refine hl_lshl d203_102 ?_
          refine hl_lor d203_103 ?_
          refine hl_lstore (ls2 := [(4, .long (s.2.2.1 ||| ((1 : Int64) <<< (s.2.2.2.toInt64 &&& 63)))), (1, .int (f_X_within x1 3)), (7, .int x1), (0, .ref 0), (2, .long s.2.1), (6, .int s.2.2.2)]) d203_104 (by decide) rfl ?_
          refine hl_iinc (ls2 := [(6, .int (s.2.2.2 + 1)), (4, .long (s.2.2.1 ||| ((1 : Int64) <<< (s.2.2.2.toInt64 &&& 63)))), (1, .int (f_X_within x1 3)), (7, .int x1), (0, .ref 0), (2, .long s.2.1)]) d203_106 rfl kx1 (by decide) rfl ?_
          refine hl_goto (tg := 41) d203_109 rfl ?_
          have h := Option.some.inj h
          subst h
          exact hl_loc (k1 (f_X_within x1 3) s.2.1 (s.2.2.1 ||| ((1 : Int64) <<< (s.2.2.2.toInt64 &&& 63))) (s.2.2.2 + 1) rfl) ⟨rfl, rfl, rfl, rfl, rfl, trivial⟩
      · have h := hl_pos hc h
        refine hl_lload_n (i := 2) d203_81 rfl rfl ?_
        refine hl_lconst (x := 1) d203_82 (by decide) ?_
        refine hl_iload d203_83 rfl ?_
        refine hl_lshl d203_85 ?_
        refine hl_lor d203_86 ?_
        refine hl_lstore_n (i := 2) (ls2 := [(2, .long (s.2.1 ||| ((1 : Int64) <<< (s.2.2.2.toInt64 &&& 63)))), (1, .int (f_X_within x1 3)), (7, .int x1), (0, .ref 0), (4, .long s.2.2.1), (6, .int s.2.2.2)]) d203_87 rfl (by decide) rfl ?_
        refine hl_goto (tg := 106) d203_88 rfl ?_
        refine hl_iinc (ls2 := [(6, .int (s.2.2.2 + 1)), (2, .long (s.2.1 ||| ((1 : Int64) <<< (s.2.2.2.toInt64 &&& 63)))), (1, .int (f_X_within x1 3)), (7, .int x1), (0, .ref 0), (4, .long s.2.2.1)]) d203_106 rfl kx1 (by decide) rfl ?_
        refine hl_goto (tg := 41) d203_109 rfl ?_
        have h := Option.some.inj h
        subst h
        exact hl_loc (k1 (f_X_within x1 3) (s.2.1 ||| ((1 : Int64) <<< (s.2.2.2.toInt64 &&& 63))) s.2.2.1 (s.2.2.2 + 1) rfl) ⟨rfl, rfl, rfl, rfl, rfl, trivial⟩
set_option maxRecDepth 20000 in
theorem p_X_paint_j32 {X : hl_X} (D : Nat) (s0 : Int32) (σ : hl_M) {r : Int32} {τ : hl_M} (h : f_X_paint_j32 s0 σ = some (r, τ)) : hl_R X (D + 1) y203 32 [(0, .ref 0)] [.int s0] σ (some (.int r)) τ := by
  unfold f_X_paint_j32 at h
  refine hl_istore_n (i := 1) (ls2 := [(1, .int s0), (0, .ref 0)]) d203_32 rfl (by decide) rfl ?_
  refine hl_lconst (x := 0) d203_33 (by decide) ?_
  refine hl_lstore_n (i := 2) (ls2 := [(2, .long 0), (1, .int s0), (0, .ref 0)]) d203_34 rfl (by decide) rfl ?_
  refine hl_lconst (x := 0) d203_35 (by decide) ?_
  refine hl_lstore (ls2 := [(4, .long 0), (2, .long 0), (1, .int s0), (0, .ref 0)]) d203_36 (by decide) rfl ?_
  refine hl_iconst d203_38 ki0 ?_
  refine hl_istore (ls2 := [(6, .int 0), (4, .long 0), (2, .long 0), (1, .int s0), (0, .ref 0)]) d203_39 (by decide) rfl ?_
  obtain ⟨x2, hx2, h⟩ := hl_bind h
  refine hl_R.loc (ls' := [(0, .ref 0), (1, .int s0), (2, .long 0), (4, .long 0), (6, .int 0)]) ⟨rfl, rfl, rfl, rfl, rfl, trivial⟩ ?_
  refine hl_lp_run4 (P := fun (c0 : Int32) (c1 : Int64) (c2 : Int64) (c3 : Int32) => hl_R X (D + 1) y203 41 [(0, .ref 0), (1, .int c0), (2, .long c1), (4, .long c2), (6, .int c3)] [] σ (some (.int r)) τ) (fun x : Int32 × Int64 × Int64 => hl_R X (D + 1) y203 112 [(0, .ref 0), (1, .int x.1), (2, .long x.2.1), (4, .long x.2.2)] [] σ (some (.int r)) τ) (fun c0 c1 c2 c3 o ho h1 h2 => p_X_paint_L41 D σ (c0, c1, c2, c3) ho h1 (fun a0 a1 a2 e => h2 ((a0, a1, a2)) e)) hl_big s0 0 0 0 x2 hx2 ?_
  refine hl_aload_n (i := 0) d203_112 rfl rfl (by decide) ?_
  refine hl_gr d203_113 gX_10_0 ?_
  refine hl_iconst d203_116 ki0 ?_
  refine hl_pi d203_117 qX_92_1 ?_
  refine hl_iload_n (i := 1) d203_120 rfl rfl ?_
  refine hl_if_eq (tg := 140) d203_121 rfl (fun hc => ?_) (fun hc => ?_)
  · have h := hl_pos hc h
    refine hl_iload_n (i := 1) d203_140 rfl rfl ?_
    obtain ⟨e1, e2⟩ := hl_some2 h
    subst e1; subst e2
    exact hl_zret d203_141 rfl rfl
  · have h := hl_neg hc h
    refine hl_aload_n (i := 0) d203_124 rfl rfl (by decide) ?_
    refine hl_iconst d203_125 ki1 ?_
    refine hl_pz d203_126 qX_113_0 (Or.inr rfl) ?_
    refine hl_aload_n (i := 0) d203_129 rfl rfl (by decide) ?_
    refine hl_lload_n (i := 2) d203_130 rfl rfl ?_
    refine hl_pl d203_131 qX_279_0 ?_
    refine hl_aload_n (i := 0) d203_134 rfl rfl (by decide) ?_
    refine hl_lload d203_135 rfl ?_
    refine hl_pl d203_137 qX_282_0 ?_
    refine hl_iload_n (i := 1) d203_140 rfl rfl ?_
    obtain ⟨e1, e2⟩ := hl_some2 h
    subst e1; subst e2
    exact hl_zret d203_141 rfl rfl
set_option maxRecDepth 20000 in
theorem p_X_paint {X : hl_X} (D : Nat) (σ : hl_M) {r : Int32} {τ : hl_M} (h : f_X_paint σ = some (r, τ)) : hl_R X (D + 1) y203 0 [(0, .ref 0)] [] σ (some (.int r)) τ := by
  unfold f_X_paint at h
  refine hl_aload_n (i := 0) d203_0 rfl rfl (by decide) ?_
  refine hl_gr d203_1 gX_28_0 ?_
  refine hl_gi d203_4 gX_123_4 ?_
  refine hl_if_le (tg := 31) d203_7 rfl (fun hc => ?_) (fun hc => ?_)
  · have h := hl_pos hc h
    refine hl_iconst d203_31 ki0 ?_
    exact hl_loc (p_X_paint_j32 D 0 σ h) ⟨rfl, trivial⟩
  · have h := hl_neg hc h
    refine hl_aload_n (i := 0) d203_10 rfl rfl (by decide) ?_
    refine hl_gr d203_11 gX_10_0 ?_
    refine hl_gi d203_14 gX_92_1 ?_
    refine hl_aload_n (i := 0) d203_17 rfl rfl (by decide) ?_
    refine hl_gr d203_18 gX_28_0 ?_
    refine hl_cVi (D := D) (z := y50) (n := 0) (av := []) (st := [.int (σ.1 1 1)]) d203_21 mlX_200 rfl (Nat.le_of_ble_eq_true rfl) (Nat.le_of_ble_eq_true rfl) rc4 ((p_Gr_cells D σ rfl).dle (by omega)) ?_
    refine hl_icmp_ne (tg := 31) d203_24 rfl (fun hc => ?_) (fun hc => ?_)
    · have h := hl_neg hc h
      refine hl_iconst d203_31 ki0 ?_
      exact hl_loc (p_X_paint_j32 D 0 σ h) ⟨rfl, trivial⟩
    · have h := hl_pos hc h
      refine hl_iconst d203_27 ki1 ?_
      refine hl_goto (tg := 32) d203_28 rfl ?_
      exact hl_loc (p_X_paint_j32 D 1 σ h) ⟨rfl, trivial⟩
def f_M_paint_L29 (v1 : Int32) (σ : hl_M) (s : Int32) : Option ((Int32) ⊕ ((Unit) ⊕ (Int32 × hl_M))) :=
  if v1 ≤ s then
  some (.inr (.inl (()))) else
  if hl_b s 1600 then
  if (σ.1 65 s.toNatClampNeg) ≤ 2 then
  some (.inl (s + 1)) else
  some (.inr (.inr (((0, σ))))) else none
def f_M_paint_L54 (v1 : Int32) (s : Int32 × hl_M) : Option ((Int32 × hl_M) ⊕ (hl_M)) :=
  if v1 ≤ s.1 then
  some (.inr s.2) else
  if hl_b s.1 1600 then
  if hl_b s.1 54 then
  some (.inl ((s.1 + 1, hl_si s.2 89 s.1.toNatClampNeg (s.2.1 65 s.1.toNatClampNeg)))) else none else none
def f_M_paint (σ : hl_M) : Option (Int32 × hl_M) :=
  if ((hl_si σ 64 1 0).1 64 30) = 0 then
  some ((0, hl_si σ 64 1 0)) else
  if (σ.1 64 1) = (f_M_cells (hl_si σ 64 1 0)) then
  (hl_lp (f_M_paint_L29 (σ.1 64 1) (hl_si σ 64 1 0)) hl_big 0).bind fun x1 =>
  Sum.elim (fun x2 =>
  (hl_lp (f_M_paint_L54 (σ.1 64 1)) hl_big ((0, hl_si σ 64 1 0))).bind fun x3 =>
  some ((1, hl_si x3 64 47 1))) (fun x4 =>
  some x4) x1 else
  some ((0, hl_si σ 64 1 0))
set_option maxRecDepth 20000 in
theorem p_M_paint_L29 {X : hl_X} (D : Nat) (v1 : Int32) (σ : hl_M) (s : Int32) {o : (Int32) ⊕ ((Unit) ⊕ (Int32 × hl_M))} {v : Option Value} {τ : hl_M} (h : f_M_paint_L29 v1 σ s = some o) (k1 : ∀ (c0 : Int32), o = .inl c0 → hl_R X (D + 1) y204 29 [(0, .ref 64), (1, .int v1), (2, .int c0)] [] σ v τ) (k2 : o = .inr (.inl ()) → hl_R X (D + 1) y204 52 [(0, .ref 64), (1, .int v1)] [] σ v τ) (kr : ∀ (a : Int32) (b : hl_M), o = .inr (.inr ((a, b))) → v = some (.int a) ∧ τ = b) : hl_R X (D + 1) y204 29 [(0, .ref 64), (1, .int v1), (2, .int s)] [] σ v τ := by
  unfold f_M_paint_L29 at h
  refine hl_iload_n (i := 2) d204_29 rfl rfl ?_
  refine hl_iload_n (i := 1) d204_30 rfl rfl ?_
  refine hl_icmp_ge (tg := 52) d204_31 rfl (fun hc => ?_) (fun hc => ?_)
  · have h := hl_pos hc h
    have h := Option.some.inj h
    subst h
    exact hl_loc (k2 rfl) ⟨rfl, rfl, trivial⟩
  · have h := hl_neg hc h
    refine hl_aload_n (i := 0) d204_34 rfl rfl (by decide) ?_
    refine hl_gr d204_35 gM_7_64 ?_
    refine hl_iload_n (i := 2) d204_38 rfl rfl ?_
    obtain ⟨hb, h⟩ := hl_gd h
    refine hl_iald d204_39 sh65 (hl_b_in hb) ?_
    refine hl_iconst d204_40 ki2 ?_
    refine hl_icmp_le (tg := 46) d204_41 rfl (fun hc => ?_) (fun hc => ?_)
    · have h := hl_pos hc h
      refine hl_iinc (ls2 := [(2, .int (s + 1)), (0, .ref 64), (1, .int v1)]) d204_46 rfl kx1 (by decide) rfl ?_
      refine hl_goto (tg := 29) d204_49 rfl ?_
      have h := Option.some.inj h
      subst h
      exact hl_loc (k1 (s + 1) rfl) ⟨rfl, rfl, rfl, trivial⟩
    · have h := hl_neg hc h
      refine hl_iconst d204_44 ki0 ?_
      have h := Option.some.inj h
      subst h
      obtain ⟨e1, e2⟩ := kr 0 σ rfl
      subst e1; subst e2
      exact hl_zret d204_45 rfl (by decide)
set_option maxRecDepth 20000 in
theorem p_M_paint_L54 {X : hl_X} (D : Nat) (v1 : Int32) (s : Int32 × hl_M) {o : (Int32 × hl_M) ⊕ (hl_M)} {v : Option Value} {τ : hl_M} (h : f_M_paint_L54 v1 s = some o) (k1 : ∀ (c0 : Int32) (c1 : hl_M), o = .inl ((c0, c1)) → hl_R X (D + 1) y204 54 [(0, .ref 64), (1, .int v1), (2, .int c0)] [] c1 v τ) (k2 : ∀ (a0 : hl_M), o = .inr a0 → hl_R X (D + 1) y204 77 [(0, .ref 64)] [] a0 v τ) : hl_R X (D + 1) y204 54 [(0, .ref 64), (1, .int v1), (2, .int s.1)] [] s.2 v τ := by
  unfold f_M_paint_L54 at h
  refine hl_iload_n (i := 2) d204_54 rfl rfl ?_
  refine hl_iload_n (i := 1) d204_55 rfl rfl ?_
  refine hl_icmp_ge (tg := 77) d204_56 rfl (fun hc => ?_) (fun hc => ?_)
  · have h := hl_pos hc h
    have h := Option.some.inj h
    subst h
    exact hl_loc (k2 s.2 rfl) ⟨rfl, trivial⟩
  · have h := hl_neg hc h
    refine hl_aload_n (i := 0) d204_59 rfl rfl (by decide) ?_
    refine hl_gr d204_60 gM_95_64 ?_
    refine hl_iload_n (i := 2) d204_63 rfl rfl ?_
    refine hl_aload_n (i := 0) d204_64 rfl rfl (by decide) ?_
    refine hl_gr d204_65 gM_7_64 ?_
    refine hl_iload_n (i := 2) d204_68 rfl rfl ?_
    obtain ⟨hb, h⟩ := hl_gd h
    refine hl_iald d204_69 sh65 (hl_b_in hb) ?_
    obtain ⟨hb, h⟩ := hl_gd h
    refine hl_iast (q := 89) d204_70 sh89 (hl_b_in hb) ?_
    refine hl_iinc (ls2 := [(2, .int (s.1 + 1)), (0, .ref 64), (1, .int v1)]) d204_71 rfl kx1 (by decide) rfl ?_
    refine hl_goto (tg := 54) d204_74 rfl ?_
    have h := Option.some.inj h
    subst h
    exact hl_loc (k1 (s.1 + 1) (hl_si s.2 89 s.1.toNatClampNeg (s.2.1 65 s.1.toNatClampNeg)) rfl) ⟨rfl, rfl, rfl, trivial⟩
set_option maxRecDepth 20000 in
theorem p_M_paint {X : hl_X} (D : Nat) (σ : hl_M) {r : Int32} {τ : hl_M} (h : f_M_paint σ = some (r, τ)) : hl_R X (D + 1) y204 0 [(0, .ref 64)] [] σ (some (.int r)) τ := by
  unfold f_M_paint at h
  refine hl_aload_n (i := 0) d204_0 rfl rfl (by decide) ?_
  refine hl_gi d204_1 gM_170_64 ?_
  refine hl_istore_n (i := 1) (ls2 := [(1, .int (σ.1 64 1)), (0, .ref 64)]) d204_4 rfl (by decide) rfl ?_
  refine hl_aload_n (i := 0) d204_5 rfl rfl (by decide) ?_
  refine hl_iconst d204_6 ki0 ?_
  refine hl_pi d204_7 qM_170_64 ?_
  refine hl_aload_n (i := 0) d204_10 rfl rfl (by decide) ?_
  refine hl_gi d204_11 gM_307_64 ?_
  refine hl_if_eq (tg := 25) d204_14 rfl (fun hc => ?_) (fun hc => ?_)
  · have h := hl_pos hc h
    refine hl_iconst d204_25 ki0 ?_
    obtain ⟨e1, e2⟩ := hl_some2 h
    subst e1; subst e2
    exact hl_zret d204_26 rfl (by decide)
  · have h := hl_neg hc h
    refine hl_iload_n (i := 1) d204_17 rfl rfl ?_
    refine hl_aload_n (i := 0) d204_18 rfl rfl (by decide) ?_
    refine hl_cVi (D := D) (z := y89) (n := 0) (av := []) (st := [.int (σ.1 64 1)]) d204_19 mlM_320 rfl (Nat.le_of_ble_eq_true rfl) (Nat.le_of_ble_eq_true rfl) rc64 ((p_M_cells D (hl_si σ 64 1 0) rfl).dle (by omega)) ?_
    refine hl_icmp_eq (tg := 27) d204_22 rfl (fun hc => ?_) (fun hc => ?_)
    · have h := hl_pos hc h
      refine hl_iconst d204_27 ki0 ?_
      refine hl_istore_n (i := 2) (ls2 := [(2, .int 0), (1, .int (σ.1 64 1)), (0, .ref 64)]) d204_28 rfl (by decide) rfl ?_
      obtain ⟨x1, hx1, h⟩ := hl_bind h
      refine hl_R.loc (ls' := [(0, .ref 64), (1, .int (σ.1 64 1)), (2, .int 0)]) ⟨rfl, rfl, rfl, trivial⟩ ?_
      refine hl_lp_run1 (P := fun (c0 : Int32) => hl_R X (D + 1) y204 29 [(0, .ref 64), (1, .int (σ.1 64 1)), (2, .int c0)] [] (hl_si σ 64 1 0) (some (.int r)) τ) (Sum.elim (fun x : Unit => hl_R X (D + 1) y204 52 [(0, .ref 64), (1, .int (σ.1 64 1))] [] (hl_si σ 64 1 0) (some (.int r)) τ) (fun a : Int32 × hl_M => ((some (.int r)) : Option Value) = some (.int a.1) ∧ τ = a.2)) (fun c0 o ho h1 h2 => p_M_paint_L29 D (σ.1 64 1) (hl_si σ 64 1 0) c0 ho h1 (fun e => h2 (.inl ()) e) (fun a b e => h2 (.inr ((a, b))) e)) hl_big 0 x1 hx1 ?_
      rcases hl_sum h with ⟨x2, e_x2, h⟩ | ⟨x4, e_x4, h⟩
      · subst e_x2
        refine hl_iconst d204_52 ki0 ?_
        refine hl_istore_n (i := 2) (ls2 := [(2, .int 0), (0, .ref 64), (1, .int (σ.1 64 1))]) d204_53 rfl (by decide) rfl ?_
        obtain ⟨x3, hx3, h⟩ := hl_bind h
        refine hl_R.loc (ls' := [(0, .ref 64), (1, .int (σ.1 64 1)), (2, .int 0)]) ⟨rfl, rfl, rfl, trivial⟩ ?_
        refine hl_lp_run2 (P := fun (c0 : Int32) (c1 : hl_M) => hl_R X (D + 1) y204 54 [(0, .ref 64), (1, .int (σ.1 64 1)), (2, .int c0)] [] c1 (some (.int r)) τ) (fun x : hl_M => hl_R X (D + 1) y204 77 [(0, .ref 64)] [] x (some (.int r)) τ) (fun c0 c1 o ho h1 h2 => p_M_paint_L54 D (σ.1 64 1) (c0, c1) ho h1 (fun a0 e => h2 a0 e)) hl_big 0 (hl_si σ 64 1 0) x3 hx3 ?_
        refine hl_aload_n (i := 0) d204_77 rfl rfl (by decide) ?_
        refine hl_iconst d204_78 ki1 ?_
        refine hl_pz d204_79 qM_316_64 (Or.inr rfl) ?_
        refine hl_iconst d204_82 ki1 ?_
        obtain ⟨e1, e2⟩ := hl_some2 h
        subst e1; subst e2
        exact hl_zret d204_83 rfl (by decide)
      · subst e_x4
        cases h
        exact ⟨rfl, rfl⟩
    · have h := hl_neg hc h
      refine hl_iconst d204_25 ki0 ?_
      obtain ⟨e1, e2⟩ := hl_some2 h
      subst e1; subst e2
      exact hl_zret d204_26 rfl (by decide)
def f_Wk_cellWithout_L15 (v1 : Int32) (v3 : Int32) (σ : hl_M) (s : Int32 × Int32) : Option ((Int32 × Int32) ⊕ (Int32)) :=
  if v3 < s.2 then
  some (.inr s.1) else
  if 100 ≤ s.2 then
  some (.inr s.1) else
  (f_Gr_stepFor v1 s.2 σ).bind fun x2 =>
  (f_Gr_nextCell s.1 x2 σ).bind fun x3 =>
  some (.inl ((x3, s.2 + 1)))
def f_Wk_cellWithout (v1 : Int32) (v2 : Int32) (v3 : Int32) (σ : hl_M) : Option (Int32) :=
  (f_Wk_cellOf v1 (v2 - 1) σ).bind fun x1 =>
  (hl_lp (f_Wk_cellWithout_L15 v1 v3 σ) hl_big ((x1, v2 + 1))).bind fun x4 =>
  some x4
set_option maxRecDepth 20000 in
theorem p_Wk_cellWithout_L15 {X : hl_X} (D : Nat) (v1 : Int32) (v3 : Int32) (σ : hl_M) (s : Int32 × Int32) {o : (Int32 × Int32) ⊕ (Int32)} {v : Option Value} (h : f_Wk_cellWithout_L15 v1 v3 σ s = some o) (k1 : ∀ (c0 : Int32) (c1 : Int32), o = .inl ((c0, c1)) → hl_R X (D + 3) y207 15 [(0, .ref 25), (1, .int v1), (3, .int v3), (4, .int c0), (5, .int c1)] [] σ v σ) (k2 : ∀ (a0 : Int32), o = .inr a0 → hl_R X (D + 3) y207 55 [(4, .int a0)] [] σ v σ) : hl_R X (D + 3) y207 15 [(0, .ref 25), (1, .int v1), (3, .int v3), (4, .int s.1), (5, .int s.2)] [] σ v σ := by
  unfold f_Wk_cellWithout_L15 at h
  refine hl_iload d207_15 rfl ?_
  refine hl_iload_n (i := 3) d207_17 rfl rfl ?_
  refine hl_icmp_gt (tg := 55) d207_18 rfl (fun hc => ?_) (fun hc => ?_)
  · have h := hl_pos hc h
    have h := Option.some.inj h
    subst h
    exact hl_loc (k2 s.1 rfl) ⟨rfl, trivial⟩
  · have h := hl_neg hc h
    refine hl_iload d207_21 rfl ?_
    refine hl_bipush d207_23 kb100 ?_
    refine hl_icmp_ge (tg := 55) d207_25 rfl (fun hc => ?_) (fun hc => ?_)
    · have h := hl_pos hc h
      have h := Option.some.inj h
      subst h
      exact hl_loc (k2 s.1 rfl) ⟨rfl, trivial⟩
    · have h := hl_neg hc h
      refine hl_aload_n (i := 0) d207_28 rfl rfl (by decide) ?_
      refine hl_gr d207_29 gWk_16_25 ?_
      refine hl_iload d207_32 rfl ?_
      refine hl_aload_n (i := 0) d207_34 rfl rfl (by decide) ?_
      refine hl_gr d207_35 gWk_16_25 ?_
      refine hl_iload_n (i := 1) d207_38 rfl rfl ?_
      refine hl_iload d207_39 rfl ?_
      obtain ⟨x2, hx2, h⟩ := hl_bind h
      refine hl_cVi (D := (D + 2)) (z := y57) (n := 2) (av := [.int v1, .int s.2]) (st := [.int s.1, .ref 4]) d207_41 mlWk_38 rfl (Nat.le_of_ble_eq_true rfl) (Nat.le_of_ble_eq_true rfl) rc4 ((p_Gr_stepFor D v1 s.2 σ hx2).dle (by omega)) ?_
      obtain ⟨x3, hx3, h⟩ := hl_bind h
      refine hl_cVi (D := (D + 2)) (z := y60) (n := 2) (av := [.int s.1, .int x2]) (st := []) d207_44 mlWk_42 rfl (Nat.le_of_ble_eq_true rfl) (Nat.le_of_ble_eq_true rfl) rc4 ((p_Gr_nextCell D s.1 x2 σ hx3).dle (by omega)) ?_
      refine hl_istore (ls2 := [(4, .int x3), (0, .ref 25), (1, .int v1), (3, .int v3), (5, .int s.2)]) d207_47 (by decide) rfl ?_
      refine hl_iinc (ls2 := [(5, .int (s.2 + 1)), (4, .int x3), (0, .ref 25), (1, .int v1), (3, .int v3)]) d207_49 rfl kx1 (by decide) rfl ?_
      refine hl_goto (tg := 15) d207_52 rfl ?_
      have h := Option.some.inj h
      subst h
      exact hl_loc (k1 x3 (s.2 + 1) rfl) ⟨rfl, rfl, rfl, rfl, rfl, trivial⟩
set_option maxRecDepth 20000 in
theorem p_Wk_cellWithout {X : hl_X} (D : Nat) (v1 : Int32) (v2 : Int32) (v3 : Int32) (σ : hl_M) {r : Int32} (h : f_Wk_cellWithout v1 v2 v3 σ = some r) : hl_R X (D + 3) y207 0 [(0, .ref 25), (1, .int v1), (2, .int v2), (3, .int v3)] [] σ (some (.int r)) σ := by
  unfold f_Wk_cellWithout at h
  refine hl_aload_n (i := 0) d207_0 rfl rfl (by decide) ?_
  refine hl_iload_n (i := 1) d207_1 rfl rfl ?_
  refine hl_iload_n (i := 2) d207_2 rfl rfl ?_
  refine hl_iconst d207_3 ki1 ?_
  refine hl_isub d207_4 ?_
  obtain ⟨x1, hx1, h⟩ := hl_bind h
  refine hl_cVi (D := (D + 2)) (z := y104) (n := 2) (av := [.int v1, .int (v2 - 1)]) (st := []) d207_5 mlWk_45 rfl (Nat.le_of_ble_eq_true rfl) (Nat.le_of_ble_eq_true rfl) rc25 ((p_Wk_cellOf D v1 (v2 - 1) σ hx1).dle (by omega)) ?_
  refine hl_istore (ls2 := [(4, .int x1), (0, .ref 25), (1, .int v1), (2, .int v2), (3, .int v3)]) d207_8 (by decide) rfl ?_
  refine hl_iload_n (i := 2) d207_10 rfl rfl ?_
  refine hl_iconst d207_11 ki1 ?_
  refine hl_iadd d207_12 ?_
  refine hl_istore (ls2 := [(5, .int (v2 + 1)), (4, .int x1), (0, .ref 25), (1, .int v1), (2, .int v2), (3, .int v3)]) d207_13 (by decide) rfl ?_
  obtain ⟨x4, hx4, h⟩ := hl_bind h
  refine hl_R.loc (ls' := [(0, .ref 25), (1, .int v1), (3, .int v3), (4, .int x1), (5, .int (v2 + 1))]) ⟨rfl, rfl, rfl, rfl, rfl, trivial⟩ ?_
  refine hl_lp_run2 (P := fun (c0 : Int32) (c1 : Int32) => hl_R X (D + 3) y207 15 [(0, .ref 25), (1, .int v1), (3, .int v3), (4, .int c0), (5, .int c1)] [] σ (some (.int r)) σ) (fun x : Int32 => hl_R X (D + 3) y207 55 [(4, .int x)] [] σ (some (.int r)) σ) (fun c0 c1 o ho h1 h2 => p_Wk_cellWithout_L15 D v1 v3 σ (c0, c1) ho h1 (fun a0 e => h2 a0 e)) hl_big x1 (v2 + 1) x4 hx4 ?_
  refine hl_iload d207_55 rfl ?_
  have h := Option.some.inj h
  subst h
  exact hl_iret d207_57 rfl
def f_X_explains (v1 : Int32) (v2 : Int32) (v3 : Int32) (σ : hl_M) : Option (Int32 × hl_M) :=
  if (f_X_within v1 (σ.1 4 3)) = 0 then
  some ((0, σ)) else
  (f_Wk_movesIn v1 v2 σ).bind fun x1 =>
  if x1 = 0 then
  some ((0, σ)) else
  (f_Vw_look v3 v1 σ).bind fun x2 =>
  (f_Wk_cellWithout v1 v2 v3 x2).bind fun x3 =>
  if hl_b v1 10 then
  if ((f_Vw_addLamp x3 (x2.1 7 v1.toNatClampNeg) x2).2 37 2) = ((f_Vw_addLamp x3 (x2.1 7 v1.toNatClampNeg) x2).2 0 12) then
  if ((f_Vw_addLamp x3 (x2.1 7 v1.toNatClampNeg) x2).2 37 3) = ((f_Vw_addLamp x3 (x2.1 7 v1.toNatClampNeg) x2).2 0 13) then
  some ((1, f_Vw_addLamp x3 (x2.1 7 v1.toNatClampNeg) x2)) else
  some ((0, f_Vw_addLamp x3 (x2.1 7 v1.toNatClampNeg) x2)) else
  some ((0, f_Vw_addLamp x3 (x2.1 7 v1.toNatClampNeg) x2)) else none
set_option maxRecDepth 20000 in
theorem p_X_explains {X : hl_X} (D : Nat) (v1 : Int32) (v2 : Int32) (v3 : Int32) (σ : hl_M) {r : Int32} {τ : hl_M} (h : f_X_explains v1 v2 v3 σ = some (r, τ)) : hl_R X (D + 4) y206 0 [(0, .ref 0), (1, .int v1), (2, .int v2), (3, .int v3)] [] σ (some (.int r)) τ := by
  unfold f_X_explains at h
  refine hl_iload_n (i := 1) d206_0 rfl rfl ?_
  refine hl_aload_n (i := 0) d206_1 rfl rfl (by decide) ?_
  refine hl_gr d206_2 gX_28_0 ?_
  refine hl_gi d206_5 gX_139_4 ?_
  refine hl_cSi (D := (D + 3)) (z := y2) (n := 2) (av := [.int v1, .int (σ.1 4 3)]) (st := []) d206_8 mlX_154 rfl (Nat.le_of_ble_eq_true rfl) (Nat.le_of_ble_eq_true rfl) ((p_X_within D v1 (σ.1 4 3) σ rfl).dle (by omega)) ?_
  refine hl_if_eq (tg := 26) d206_11 rfl (fun hc => ?_) (fun hc => ?_)
  · have h := hl_pos hc h
    refine hl_iconst d206_26 ki0 ?_
    obtain ⟨e1, e2⟩ := hl_some2 h
    subst e1; subst e2
    exact hl_zret d206_27 rfl (by decide)
  · have h := hl_neg hc h
    refine hl_aload_n (i := 0) d206_14 rfl rfl (by decide) ?_
    refine hl_gr d206_15 gX_49_0 ?_
    refine hl_iload_n (i := 1) d206_18 rfl rfl ?_
    refine hl_iload_n (i := 2) d206_19 rfl rfl ?_
    obtain ⟨x1, hx1, h⟩ := hl_bind h
    refine hl_cVi (D := (D + 3)) (z := y152) (n := 2) (av := [.int v1, .int v2]) (st := []) d206_20 mlX_229 rfl (Nat.le_of_ble_eq_true rfl) (Nat.le_of_ble_eq_true rfl) rc25 ((p_Wk_movesIn D v1 v2 σ hx1).dle (by omega)) ?_
    refine hl_if_ne (tg := 28) d206_23 rfl (fun hc => ?_) (fun hc => ?_)
    · have h := hl_neg hc h
      refine hl_aload_n (i := 0) d206_28 rfl rfl (by decide) ?_
      refine hl_gr d206_29 gX_58_0 ?_
      refine hl_iload_n (i := 3) d206_32 rfl rfl ?_
      refine hl_iload_n (i := 1) d206_33 rfl rfl ?_
      obtain ⟨x2, hx2, h⟩ := hl_bind h
      refine hl_cVv (D := (D + 3)) (z := y103) (n := 2) (av := [.int v3, .int v1]) (st := []) d206_34 mlX_219 rfl (Nat.le_of_ble_eq_true rfl) (Nat.le_of_ble_eq_true rfl) rc37 ((p_Vw_look D v3 v1 σ hx2).dle (by omega)) ?_
      refine hl_aload_n (i := 0) d206_37 rfl rfl (by decide) ?_
      refine hl_gr d206_38 gX_58_0 ?_
      refine hl_aload_n (i := 0) d206_41 rfl rfl (by decide) ?_
      refine hl_gr d206_42 gX_49_0 ?_
      refine hl_iload_n (i := 1) d206_45 rfl rfl ?_
      refine hl_iload_n (i := 2) d206_46 rfl rfl ?_
      refine hl_iload_n (i := 3) d206_47 rfl rfl ?_
      obtain ⟨x3, hx3, h⟩ := hl_bind h
      refine hl_cVi (D := (D + 3)) (z := y207) (n := 3) (av := [.int v1, .int v2, .int v3]) (st := [.ref 37]) d206_48 mlX_342 rfl (Nat.le_of_ble_eq_true rfl) (Nat.le_of_ble_eq_true rfl) rc25 ((p_Wk_cellWithout D v1 v2 v3 x2 hx3).dle (by omega)) ?_
      refine hl_aload_n (i := 0) d206_51 rfl rfl (by decide) ?_
      refine hl_gr d206_52 gX_28_0 ?_
      refine hl_gr d206_55 gX_176_4 ?_
      refine hl_iload_n (i := 1) d206_58 rfl rfl ?_
      obtain ⟨hb, h⟩ := hl_gd h
      refine hl_iald d206_59 sh7 (hl_b_in hb) ?_
      refine hl_cVv (D := (D + 3)) (z := y105) (n := 2) (av := [.int x3, .int (x2.1 7 v1.toNatClampNeg)]) (st := []) d206_60 mlX_346 rfl (Nat.le_of_ble_eq_true rfl) (Nat.le_of_ble_eq_true rfl) rc37 ((p_Vw_addLamp D x3 (x2.1 7 v1.toNatClampNeg) x2 rfl).dle (by omega)) ?_
      refine hl_aload_n (i := 0) d206_63 rfl rfl (by decide) ?_
      refine hl_gr d206_64 gX_58_0 ?_
      refine hl_gl d206_67 gX_349_37 ?_
      refine hl_aload_n (i := 0) d206_70 rfl rfl (by decide) ?_
      refine hl_gl d206_71 gX_279_0 ?_
      refine hl_lc_ne (tg := 97) d206_74 d206_75 rfl (fun hc => ?_) (fun hc => ?_)
      · have h := hl_neg hc h
        refine hl_iconst d206_97 ki0 ?_
        obtain ⟨e1, e2⟩ := hl_some2 h
        subst e1; subst e2
        exact hl_zret d206_98 rfl (by decide)
      · have h := hl_pos hc h
        refine hl_aload_n (i := 0) d206_78 rfl rfl (by decide) ?_
        refine hl_gr d206_79 gX_58_0 ?_
        refine hl_gl d206_82 gX_352_37 ?_
        refine hl_aload_n (i := 0) d206_85 rfl rfl (by decide) ?_
        refine hl_gl d206_86 gX_282_0 ?_
        refine hl_lc_ne (tg := 97) d206_89 d206_90 rfl (fun hc => ?_) (fun hc => ?_)
        · have h := hl_neg hc h
          refine hl_iconst d206_97 ki0 ?_
          obtain ⟨e1, e2⟩ := hl_some2 h
          subst e1; subst e2
          exact hl_zret d206_98 rfl (by decide)
        · have h := hl_pos hc h
          refine hl_iconst d206_93 ki1 ?_
          refine hl_goto (tg := 98) d206_94 rfl ?_
          obtain ⟨e1, e2⟩ := hl_some2 h
          subst e1; subst e2
          exact hl_zret d206_98 rfl (by decide)
    · have h := hl_pos hc h
      refine hl_iconst d206_26 ki0 ?_
      obtain ⟨e1, e2⟩ := hl_some2 h
      subst e1; subst e2
      exact hl_zret d206_27 rfl (by decide)
def f_X_missed_L38 (v1 : Int32) (v2 : Int32) (v4 : Int32) (s : Int32 × Int32 × hl_M) : Option ((Int32 × Int32 × hl_M) ⊕ ((Int32 × hl_M) ⊕ (Int32 × hl_M))) :=
  if v1 < s.2.1 then
  some (.inr (.inl ((s.1, s.2.2)))) else
  (f_X_explains v4 s.2.1 v1 s.2.2).bind fun x1 =>
  if x1.1 = 0 then
  some (.inl ((s.1, s.2.1 + 1, x1.2))) else
  if s.1 = v2 then
  some (.inr (.inr (((s.2.1, x1.2))))) else
  some (.inl ((s.1 + 1, s.2.1 + 1, x1.2)))
def f_X_missed_L23 (v1 : Int32) (v2 : Int32) (s : Int32 × Int32 × hl_M) : Option ((Int32 × Int32 × hl_M) ⊕ ((Int32 × hl_M) ⊕ (Int32 × Int32 × hl_M))) :=
  if (s.2.2.1 4 3) ≤ s.2.1 then
  some (.inr (.inl ((s.1, s.2.2)))) else
  (hl_lp (f_X_missed_L38 v1 v2 s.2.1) hl_big ((s.1, 1, s.2.2))).bind fun x2 =>
  Sum.elim (fun x3 =>
  some (.inl ((x3.1, s.2.1 + 1, x3.2)))) (fun x4 =>
  some (.inr (.inr (((s.2.1, x4.1, x4.2)))))) x2
def f_X_missed (v1 : Int32) (v2 : Int32) (σ : hl_M) : Option (Int32 × hl_M) :=
  if (σ.1 0 11) = 0 then
  some (((-1), σ)) else
  if (f_X_within v1 100) = 0 then
  some (((-1), σ)) else
  (hl_lp (f_X_missed_L23 v1 v2) hl_big ((0, 0, σ))).bind fun x5 =>
  Sum.elim (fun x6 =>
  if v2 = ((-1)) then
  some ((x6.1, x6.2)) else
  some (((-1), x6.2))) (fun x7 =>
  some (((100 * x7.1) + x7.2.1, x7.2.2))) x5
set_option maxRecDepth 20000 in
theorem p_X_missed_L38 {X : hl_X} (D : Nat) (v1 : Int32) (v2 : Int32) (v4 : Int32) (s : Int32 × Int32 × hl_M) {o : (Int32 × Int32 × hl_M) ⊕ ((Int32 × hl_M) ⊕ (Int32 × hl_M))} {v : Option Value} {τ : hl_M} (h : f_X_missed_L38 v1 v2 v4 s = some o) (k1 : ∀ (c0 : Int32) (c1 : Int32) (c2 : hl_M), o = .inl ((c0, c1, c2)) → hl_R X (D + 5) y205 38 [(0, .ref 0), (1, .int v1), (2, .int v2), (3, .int c0), (4, .int v4), (5, .int c1)] [] c2 v τ) (k2 : ∀ (a0 : Int32) (a1 : hl_M), o = .inr (.inl (a0, a1)) → hl_R X (D + 5) y205 79 [(0, .ref 0), (1, .int v1), (2, .int v2), (3, .int a0), (4, .int v4)] [] a1 v τ) (k3 : ∀ (a0 : Int32) (a1 : hl_M), o = .inr (.inr ((a0, a1))) → hl_R X (D + 5) y205 61 [(4, .int v4), (5, .int a0)] [] a1 v τ) : hl_R X (D + 5) y205 38 [(0, .ref 0), (1, .int v1), (2, .int v2), (3, .int s.1), (4, .int v4), (5, .int s.2.1)] [] s.2.2 v τ := by
  unfold f_X_missed_L38 at h
  refine hl_iload d205_38 rfl ?_
  refine hl_iload_n (i := 1) d205_40 rfl rfl ?_
  refine hl_icmp_gt (tg := 79) d205_41 rfl (fun hc => ?_) (fun hc => ?_)
  · have h := hl_pos hc h
    have h := Option.some.inj h
    subst h
    exact hl_loc (k2 s.1 s.2.2 rfl) ⟨rfl, rfl, rfl, rfl, rfl, trivial⟩
  · have h := hl_neg hc h
    refine hl_aload_n (i := 0) d205_44 rfl rfl (by decide) ?_
    refine hl_iload d205_45 rfl ?_
    refine hl_iload d205_47 rfl ?_
    refine hl_iload_n (i := 1) d205_49 rfl rfl ?_
    obtain ⟨x1, hx1, h⟩ := hl_bind h
    refine hl_cVi (D := (D + 4)) (z := y206) (n := 3) (av := [.int v4, .int s.2.1, .int v1]) (st := []) d205_50 mlX_285 rfl (Nat.le_of_ble_eq_true rfl) (Nat.le_of_ble_eq_true rfl) rc0 ((p_X_explains D v4 s.2.1 v1 s.2.2 hx1).dle (by omega)) ?_
    refine hl_if_eq (tg := 73) d205_53 rfl (fun hc => ?_) (fun hc => ?_)
    · have h := hl_pos hc h
      refine hl_iinc (ls2 := [(5, .int (s.2.1 + 1)), (0, .ref 0), (1, .int v1), (2, .int v2), (3, .int s.1), (4, .int v4)]) d205_73 rfl kx1 (by decide) rfl ?_
      refine hl_goto (tg := 38) d205_76 rfl ?_
      have h := Option.some.inj h
      subst h
      exact hl_loc (k1 s.1 (s.2.1 + 1) x1.2 rfl) ⟨rfl, rfl, rfl, rfl, rfl, rfl, trivial⟩
    · have h := hl_neg hc h
      refine hl_iload_n (i := 3) d205_56 rfl rfl ?_
      refine hl_iload_n (i := 2) d205_57 rfl rfl ?_
      refine hl_icmp_ne (tg := 70) d205_58 rfl (fun hc => ?_) (fun hc => ?_)
      · have h := hl_neg hc h
        refine hl_iinc (ls2 := [(3, .int (s.1 + 1)), (0, .ref 0), (1, .int v1), (2, .int v2), (4, .int v4), (5, .int s.2.1)]) d205_70 rfl kx1 (by decide) rfl ?_
        refine hl_iinc (ls2 := [(5, .int (s.2.1 + 1)), (3, .int (s.1 + 1)), (0, .ref 0), (1, .int v1), (2, .int v2), (4, .int v4)]) d205_73 rfl kx1 (by decide) rfl ?_
        refine hl_goto (tg := 38) d205_76 rfl ?_
        have h := Option.some.inj h
        subst h
        exact hl_loc (k1 (s.1 + 1) (s.2.1 + 1) x1.2 rfl) ⟨rfl, rfl, rfl, rfl, rfl, rfl, trivial⟩
      · have h := hl_pos hc h
        have h := Option.some.inj h
        subst h
        exact hl_loc (k3 s.2.1 x1.2 rfl) ⟨rfl, rfl, trivial⟩
set_option maxRecDepth 20000 in
theorem p_X_missed_L23 {X : hl_X} (D : Nat) (v1 : Int32) (v2 : Int32) (s : Int32 × Int32 × hl_M) {o : (Int32 × Int32 × hl_M) ⊕ ((Int32 × hl_M) ⊕ (Int32 × Int32 × hl_M))} {v : Option Value} {τ : hl_M} (h : f_X_missed_L23 v1 v2 s = some o) (k1 : ∀ (c0 : Int32) (c1 : Int32) (c2 : hl_M), o = .inl ((c0, c1, c2)) → hl_R X (D + 5) y205 23 [(0, .ref 0), (1, .int v1), (2, .int v2), (3, .int c0), (4, .int c1)] [] c2 v τ) (k2 : ∀ (a0 : Int32) (a1 : hl_M), o = .inr (.inl (a0, a1)) → hl_R X (D + 5) y205 85 [(2, .int v2), (3, .int a0)] [] a1 v τ) (k3 : ∀ (a0 : Int32) (a1 : Int32) (a2 : hl_M), o = .inr (.inr ((a0, a1, a2))) → hl_R X (D + 5) y205 61 [(4, .int a0), (5, .int a1)] [] a2 v τ) : hl_R X (D + 5) y205 23 [(0, .ref 0), (1, .int v1), (2, .int v2), (3, .int s.1), (4, .int s.2.1)] [] s.2.2 v τ := by
  unfold f_X_missed_L23 at h
  refine hl_iload d205_23 rfl ?_
  refine hl_aload_n (i := 0) d205_25 rfl rfl (by decide) ?_
  refine hl_gr d205_26 gX_28_0 ?_
  refine hl_gi d205_29 gX_139_4 ?_
  refine hl_icmp_ge (tg := 85) d205_32 rfl (fun hc => ?_) (fun hc => ?_)
  · have h := hl_pos hc h
    have h := Option.some.inj h
    subst h
    exact hl_loc (k2 s.1 s.2.2 rfl) ⟨rfl, rfl, trivial⟩
  · have h := hl_neg hc h
    refine hl_iconst d205_35 ki1 ?_
    refine hl_istore (ls2 := [(5, .int 1), (0, .ref 0), (1, .int v1), (2, .int v2), (3, .int s.1), (4, .int s.2.1)]) d205_36 (by decide) rfl ?_
    obtain ⟨x2, hx2, h⟩ := hl_bind h
    refine hl_R.loc (ls' := [(0, .ref 0), (1, .int v1), (2, .int v2), (3, .int s.1), (4, .int s.2.1), (5, .int 1)]) ⟨rfl, rfl, rfl, rfl, rfl, rfl, trivial⟩ ?_
    refine hl_lp_run3 (P := fun (c0 : Int32) (c1 : Int32) (c2 : hl_M) => hl_R X (D + 5) y205 38 [(0, .ref 0), (1, .int v1), (2, .int v2), (3, .int c0), (4, .int s.2.1), (5, .int c1)] [] c2 v τ) (Sum.elim (fun x : Int32 × hl_M => hl_R X (D + 5) y205 79 [(0, .ref 0), (1, .int v1), (2, .int v2), (3, .int x.1), (4, .int s.2.1)] [] x.2 v τ) (fun x : Int32 × hl_M => hl_R X (D + 5) y205 61 [(4, .int s.2.1), (5, .int x.1)] [] x.2 v τ)) (fun c0 c1 c2 o ho h1 h2 => p_X_missed_L38 D v1 v2 s.2.1 (c0, c1, c2) ho h1 (fun a0 a1 e => h2 (.inl (a0, a1)) e) (fun a0 a1 e => h2 (.inr ((a0, a1))) e)) hl_big s.1 1 s.2.2 x2 hx2 ?_
    rcases hl_sum h with ⟨x3, e_x3, h⟩ | ⟨x4, e_x4, h⟩
    · subst e_x3
      refine hl_iinc (ls2 := [(4, .int (s.2.1 + 1)), (0, .ref 0), (1, .int v1), (2, .int v2), (3, .int x3.1)]) d205_79 rfl kx1 (by decide) rfl ?_
      refine hl_goto (tg := 23) d205_82 rfl ?_
      have h := Option.some.inj h
      subst h
      exact hl_loc (k1 x3.1 (s.2.1 + 1) x3.2 rfl) ⟨rfl, rfl, rfl, rfl, rfl, trivial⟩
    · subst e_x4
      have h := Option.some.inj h
      subst h
      exact hl_loc (k3 s.2.1 x4.1 x4.2 rfl) ⟨rfl, rfl, trivial⟩
set_option maxRecDepth 20000 in
theorem p_X_missed {X : hl_X} (D : Nat) (v1 : Int32) (v2 : Int32) (σ : hl_M) {r : Int32} {τ : hl_M} (h : f_X_missed v1 v2 σ = some (r, τ)) : hl_R X (D + 5) y205 0 [(0, .ref 0), (1, .int v1), (2, .int v2)] [] σ (some (.int r)) τ := by
  unfold f_X_missed at h
  refine hl_aload_n (i := 0) d205_0 rfl rfl (by decide) ?_
  refine hl_gz d205_1 gX_113_0 ?_
  refine hl_if_eq (tg := 16) d205_4 rfl (fun hc => ?_) (fun hc => ?_)
  · have h := hl_pos hc h
    refine hl_iconst d205_16 kim1 ?_
    obtain ⟨e1, e2⟩ := hl_some2 h
    subst e1; subst e2
    exact hl_iret d205_17 rfl
  · have h := hl_neg hc h
    refine hl_iload_n (i := 1) d205_7 rfl rfl ?_
    refine hl_bipush d205_8 kb100 ?_
    refine hl_cSi (D := (D + 4)) (z := y2) (n := 2) (av := [.int v1, .int 100]) (st := []) d205_10 mlX_154 rfl (Nat.le_of_ble_eq_true rfl) (Nat.le_of_ble_eq_true rfl) ((p_X_within D v1 100 σ rfl).dle (by omega)) ?_
    refine hl_if_ne (tg := 18) d205_13 rfl (fun hc => ?_) (fun hc => ?_)
    · have h := hl_neg hc h
      refine hl_iconst d205_18 ki0 ?_
      refine hl_istore_n (i := 3) (ls2 := [(3, .int 0), (0, .ref 0), (1, .int v1), (2, .int v2)]) d205_19 rfl (by decide) rfl ?_
      refine hl_iconst d205_20 ki0 ?_
      refine hl_istore (ls2 := [(4, .int 0), (3, .int 0), (0, .ref 0), (1, .int v1), (2, .int v2)]) d205_21 (by decide) rfl ?_
      obtain ⟨x5, hx5, h⟩ := hl_bind h
      refine hl_R.loc (ls' := [(0, .ref 0), (1, .int v1), (2, .int v2), (3, .int 0), (4, .int 0)]) ⟨rfl, rfl, rfl, rfl, rfl, trivial⟩ ?_
      refine hl_lp_run3 (P := fun (c0 : Int32) (c1 : Int32) (c2 : hl_M) => hl_R X (D + 5) y205 23 [(0, .ref 0), (1, .int v1), (2, .int v2), (3, .int c0), (4, .int c1)] [] c2 (some (.int r)) τ) (Sum.elim (fun x : Int32 × hl_M => hl_R X (D + 5) y205 85 [(2, .int v2), (3, .int x.1)] [] x.2 (some (.int r)) τ) (fun x : Int32 × Int32 × hl_M => hl_R X (D + 5) y205 61 [(4, .int x.1), (5, .int x.2.1)] [] x.2.2 (some (.int r)) τ)) (fun c0 c1 c2 o ho h1 h2 => p_X_missed_L23 D v1 v2 (c0, c1, c2) ho h1 (fun a0 a1 e => h2 (.inl (a0, a1)) e) (fun a0 a1 a2 e => h2 (.inr ((a0, a1, a2))) e)) hl_big 0 0 σ x5 hx5 ?_
      rcases hl_sum h with ⟨x6, e_x6, h⟩ | ⟨x7, e_x7, h⟩
      · subst e_x6
        refine hl_iload_n (i := 2) d205_85 rfl rfl ?_
        refine hl_iconst d205_86 kim1 ?_
        refine hl_icmp_ne (tg := 94) d205_87 rfl (fun hc => ?_) (fun hc => ?_)
        · have h := hl_neg hc h
          refine hl_iconst d205_94 kim1 ?_
          obtain ⟨e1, e2⟩ := hl_some2 h
          subst e1; subst e2
          exact hl_iret d205_95 rfl
        · have h := hl_pos hc h
          refine hl_iload_n (i := 3) d205_90 rfl rfl ?_
          refine hl_goto (tg := 95) d205_91 rfl ?_
          obtain ⟨e1, e2⟩ := hl_some2 h
          subst e1; subst e2
          exact hl_iret d205_95 rfl
      · subst e_x7
        refine hl_bipush d205_61 kb100 ?_
        refine hl_iload d205_63 rfl ?_
        refine hl_imul d205_65 ?_
        refine hl_iload d205_66 rfl ?_
        refine hl_iadd d205_68 ?_
        obtain ⟨e1, e2⟩ := hl_some2 h
        subst e1; subst e2
        exact hl_iret d205_69 rfl
    · have h := hl_pos hc h
      refine hl_iconst d205_16 kim1 ?_
      obtain ⟨e1, e2⟩ := hl_some2 h
      subst e1; subst e2
      exact hl_iret d205_17 rfl
def f_M_isPictured_L2 (v1 : Int32) (σ : hl_M) (s : Int32) : Option ((Int32) ⊕ ((Unit) ⊕ (Int32))) :=
  if (f_M_cells σ) ≤ s then
  some (.inr (.inl (()))) else
  (f_M_litIn v1 s σ).bind fun x1 =>
  if hl_b s 54 then
  if x1 = (σ.1 89 s.toNatClampNeg) then
  some (.inl (s + 1)) else
  some (.inr (.inr (0))) else none
def f_M_isPictured (v1 : Int32) (σ : hl_M) : Option (Int32) :=
  (hl_lp (f_M_isPictured_L2 v1 σ) hl_big 0).bind fun x2 =>
  Sum.elim (fun x3 =>
  some 1) (fun x4 =>
  some x4) x2
set_option maxRecDepth 20000 in
theorem p_M_isPictured_L2 {X : hl_X} (D : Nat) (v1 : Int32) (σ : hl_M) (s : Int32) {o : (Int32) ⊕ ((Unit) ⊕ (Int32))} {v : Option Value} (h : f_M_isPictured_L2 v1 σ s = some o) (k1 : ∀ (c0 : Int32), o = .inl c0 → hl_R X (D + 2) y210 2 [(0, .ref 64), (1, .int v1), (2, .int c0)] [] σ v σ) (k2 : o = .inr (.inl ()) → hl_R X (D + 2) y210 33 [] [] σ v σ) (kr : ∀ (a : Int32), o = .inr (.inr (a)) → v = some (.int a)) : hl_R X (D + 2) y210 2 [(0, .ref 64), (1, .int v1), (2, .int s)] [] σ v σ := by
  unfold f_M_isPictured_L2 at h
  refine hl_iload_n (i := 2) d210_2 rfl rfl ?_
  refine hl_aload_n (i := 0) d210_3 rfl rfl (by decide) ?_
  refine hl_cVi (D := (D + 1)) (z := y89) (n := 0) (av := []) (st := [.int s]) d210_4 mlM_320 rfl (Nat.le_of_ble_eq_true rfl) (Nat.le_of_ble_eq_true rfl) rc64 ((p_M_cells D σ rfl).dle (by omega)) ?_
  refine hl_icmp_ge (tg := 33) d210_7 rfl (fun hc => ?_) (fun hc => ?_)
  · have h := hl_pos hc h
    have h := Option.some.inj h
    subst h
    exact hl_loc (k2 rfl) trivial
  · have h := hl_neg hc h
    refine hl_aload_n (i := 0) d210_10 rfl rfl (by decide) ?_
    refine hl_iload_n (i := 1) d210_11 rfl rfl ?_
    refine hl_iload_n (i := 2) d210_12 rfl rfl ?_
    obtain ⟨x1, hx1, h⟩ := hl_bind h
    refine hl_cVi (D := (D + 1)) (z := y116) (n := 2) (av := [.int v1, .int s]) (st := []) d210_13 mlM_361 rfl (Nat.le_of_ble_eq_true rfl) (Nat.le_of_ble_eq_true rfl) rc64 ((p_M_litIn D v1 s σ hx1).dle (by omega)) ?_
    refine hl_aload_n (i := 0) d210_16 rfl rfl (by decide) ?_
    refine hl_gr d210_17 gM_95_64 ?_
    refine hl_iload_n (i := 2) d210_20 rfl rfl ?_
    obtain ⟨hb, h⟩ := hl_gd h
    refine hl_iald d210_21 sh89 (hl_b_in hb) ?_
    refine hl_icmp_eq (tg := 27) d210_22 rfl (fun hc => ?_) (fun hc => ?_)
    · have h := hl_pos hc h
      refine hl_iinc (ls2 := [(2, .int (s + 1)), (0, .ref 64), (1, .int v1)]) d210_27 rfl kx1 (by decide) rfl ?_
      refine hl_goto (tg := 2) d210_30 rfl ?_
      have h := Option.some.inj h
      subst h
      exact hl_loc (k1 (s + 1) rfl) ⟨rfl, rfl, rfl, trivial⟩
    · have h := hl_neg hc h
      refine hl_iconst d210_25 ki0 ?_
      have h := Option.some.inj h
      subst h
      have e1 := kr 0 rfl
      subst e1
      exact hl_zret d210_26 rfl (by decide)
set_option maxRecDepth 20000 in
theorem p_M_isPictured {X : hl_X} (D : Nat) (v1 : Int32) (σ : hl_M) {r : Int32} (h : f_M_isPictured v1 σ = some r) : hl_R X (D + 2) y210 0 [(0, .ref 64), (1, .int v1)] [] σ (some (.int r)) σ := by
  unfold f_M_isPictured at h
  refine hl_iconst d210_0 ki0 ?_
  refine hl_istore_n (i := 2) (ls2 := [(2, .int 0), (0, .ref 64), (1, .int v1)]) d210_1 rfl (by decide) rfl ?_
  obtain ⟨x2, hx2, h⟩ := hl_bind h
  refine hl_R.loc (ls' := [(0, .ref 64), (1, .int v1), (2, .int 0)]) ⟨rfl, rfl, rfl, trivial⟩ ?_
  refine hl_lp_run1 (P := fun (c0 : Int32) => hl_R X (D + 2) y210 2 [(0, .ref 64), (1, .int v1), (2, .int c0)] [] σ (some (.int r)) σ) (Sum.elim (fun x : Unit => hl_R X (D + 2) y210 33 [] [] σ (some (.int r)) σ) (fun a : Int32 => ((some (.int r)) : Option Value) = some (.int a))) (fun c0 o ho h1 h2 => p_M_isPictured_L2 D v1 σ c0 ho h1 (fun e => h2 (.inl ()) e) (fun a e => h2 (.inr (a)) e)) hl_big 0 x2 hx2 ?_
  rcases hl_sum h with ⟨x3, e_x3, h⟩ | ⟨x4, e_x4, h⟩
  · subst e_x3
    refine hl_iconst d210_33 ki1 ?_
    have h := Option.some.inj h
    subst h
    exact hl_zret d210_34 rfl (by decide)
  · subst e_x4
    cases h
    rfl
def f_M_doesMiss_L34 (v1 : Int32) (v3 : Int32) (σ : hl_M) (s : Int32 × Int32) : Option ((Int32 × Int32) ⊕ (Int32)) :=
  if v3 < s.2 then
  some (.inr s.1) else
  (f_M_stepIn v1 s.2 σ).bind fun x4 =>
  (f_M_stepped s.1 x4 σ).bind fun x5 =>
  some (.inl ((x5, s.2 + 1)))
def f_M_doesMiss (v1 : Int32) (v2 : Int32) (v3 : Int32) (σ : hl_M) : Option (Int32 × hl_M) :=
  (f_M_whereIn v1 v2 σ).bind fun x1 =>
  (f_M_whereIn v1 (v2 - 1) σ).bind fun x2 =>
  if x1 = x2 then
  some ((0, σ)) else
  (f_M_whereIn v1 (v2 - 1) σ).bind fun x3 =>
  (hl_lp (f_M_doesMiss_L34 v1 v3 σ) hl_big ((x3, v2 + 1))).bind fun x6 =>
  (f_M_isPictured v3 (hl_si (hl_si σ 64 36 v1) 64 37 x6)).bind fun x7 =>
  some ((vp_nar .boolean x7, hl_si (hl_si (hl_si σ 64 36 v1) 64 37 x6) 64 36 ((-1))))
set_option maxRecDepth 20000 in
theorem p_M_doesMiss_L34 {X : hl_X} (D : Nat) (v1 : Int32) (v3 : Int32) (σ : hl_M) (s : Int32 × Int32) {o : (Int32 × Int32) ⊕ (Int32)} {v : Option Value} {τ : hl_M} (h : f_M_doesMiss_L34 v1 v3 σ s = some o) (k1 : ∀ (c0 : Int32) (c1 : Int32), o = .inl ((c0, c1)) → hl_R X (D + 3) y209 34 [(0, .ref 64), (1, .int v1), (3, .int v3), (4, .int c0), (5, .int c1)] [] σ v τ) (k2 : ∀ (a0 : Int32), o = .inr a0 → hl_R X (D + 3) y209 61 [(0, .ref 64), (1, .int v1), (3, .int v3), (4, .int a0)] [] σ v τ) : hl_R X (D + 3) y209 34 [(0, .ref 64), (1, .int v1), (3, .int v3), (4, .int s.1), (5, .int s.2)] [] σ v τ := by
  unfold f_M_doesMiss_L34 at h
  refine hl_iload d209_34 rfl ?_
  refine hl_iload_n (i := 3) d209_36 rfl rfl ?_
  refine hl_icmp_gt (tg := 61) d209_37 rfl (fun hc => ?_) (fun hc => ?_)
  · have h := hl_pos hc h
    have h := Option.some.inj h
    subst h
    exact hl_loc (k2 s.1 rfl) ⟨rfl, rfl, rfl, rfl, trivial⟩
  · have h := hl_neg hc h
    refine hl_aload_n (i := 0) d209_40 rfl rfl (by decide) ?_
    refine hl_iload d209_41 rfl ?_
    refine hl_aload_n (i := 0) d209_43 rfl rfl (by decide) ?_
    refine hl_iload_n (i := 1) d209_44 rfl rfl ?_
    refine hl_iload d209_45 rfl ?_
    obtain ⟨x4, hx4, h⟩ := hl_bind h
    refine hl_cVi (D := (D + 2)) (z := y94) (n := 2) (av := [.int v1, .int s.2]) (st := [.int s.1, .ref 64]) d209_47 mlM_346 rfl (Nat.le_of_ble_eq_true rfl) (Nat.le_of_ble_eq_true rfl) rc64 ((p_M_stepIn D v1 s.2 σ hx4).dle (by omega)) ?_
    obtain ⟨x5, hx5, h⟩ := hl_bind h
    refine hl_cVi (D := (D + 2)) (z := y91) (n := 2) (av := [.int s.1, .int x4]) (st := []) d209_50 mlM_329 rfl (Nat.le_of_ble_eq_true rfl) (Nat.le_of_ble_eq_true rfl) rc64 ((p_M_stepped D s.1 x4 σ hx5).dle (by omega)) ?_
    refine hl_istore (ls2 := [(4, .int x5), (0, .ref 64), (1, .int v1), (3, .int v3), (5, .int s.2)]) d209_53 (by decide) rfl ?_
    refine hl_iinc (ls2 := [(5, .int (s.2 + 1)), (4, .int x5), (0, .ref 64), (1, .int v1), (3, .int v3)]) d209_55 rfl kx1 (by decide) rfl ?_
    refine hl_goto (tg := 34) d209_58 rfl ?_
    have h := Option.some.inj h
    subst h
    exact hl_loc (k1 x5 (s.2 + 1) rfl) ⟨rfl, rfl, rfl, rfl, rfl, trivial⟩
set_option maxRecDepth 20000 in
theorem p_M_doesMiss {X : hl_X} (D : Nat) (v1 : Int32) (v2 : Int32) (v3 : Int32) (σ : hl_M) {r : Int32} {τ : hl_M} (h : f_M_doesMiss v1 v2 v3 σ = some (r, τ)) : hl_R X (D + 3) y209 0 [(0, .ref 64), (1, .int v1), (2, .int v2), (3, .int v3)] [] σ (some (.int r)) τ := by
  unfold f_M_doesMiss at h
  refine hl_aload_n (i := 0) d209_0 rfl rfl (by decide) ?_
  refine hl_iload_n (i := 1) d209_1 rfl rfl ?_
  refine hl_iload_n (i := 2) d209_2 rfl rfl ?_
  obtain ⟨x1, hx1, h⟩ := hl_bind h
  refine hl_cVi (D := (D + 2)) (z := y117) (n := 2) (av := [.int v1, .int v2]) (st := []) d209_3 mlM_349 rfl (Nat.le_of_ble_eq_true rfl) (Nat.le_of_ble_eq_true rfl) rc64 ((p_M_whereIn D v1 v2 σ hx1).dle (by omega)) ?_
  refine hl_aload_n (i := 0) d209_6 rfl rfl (by decide) ?_
  refine hl_iload_n (i := 1) d209_7 rfl rfl ?_
  refine hl_iload_n (i := 2) d209_8 rfl rfl ?_
  refine hl_iconst d209_9 ki1 ?_
  refine hl_isub d209_10 ?_
  obtain ⟨x2, hx2, h⟩ := hl_bind h
  refine hl_cVi (D := (D + 2)) (z := y117) (n := 2) (av := [.int v1, .int (v2 - 1)]) (st := [.int x1]) d209_11 mlM_349 rfl (Nat.le_of_ble_eq_true rfl) (Nat.le_of_ble_eq_true rfl) rc64 ((p_M_whereIn D v1 (v2 - 1) σ hx2).dle (by omega)) ?_
  refine hl_icmp_ne (tg := 19) d209_14 rfl (fun hc => ?_) (fun hc => ?_)
  · have h := hl_neg hc h
    refine hl_aload_n (i := 0) d209_19 rfl rfl (by decide) ?_
    refine hl_iload_n (i := 1) d209_20 rfl rfl ?_
    refine hl_iload_n (i := 2) d209_21 rfl rfl ?_
    refine hl_iconst d209_22 ki1 ?_
    refine hl_isub d209_23 ?_
    obtain ⟨x3, hx3, h⟩ := hl_bind h
    refine hl_cVi (D := (D + 2)) (z := y117) (n := 2) (av := [.int v1, .int (v2 - 1)]) (st := []) d209_24 mlM_349 rfl (Nat.le_of_ble_eq_true rfl) (Nat.le_of_ble_eq_true rfl) rc64 ((p_M_whereIn D v1 (v2 - 1) σ hx3).dle (by omega)) ?_
    refine hl_istore (ls2 := [(4, .int x3), (0, .ref 64), (1, .int v1), (2, .int v2), (3, .int v3)]) d209_27 (by decide) rfl ?_
    refine hl_iload_n (i := 2) d209_29 rfl rfl ?_
    refine hl_iconst d209_30 ki1 ?_
    refine hl_iadd d209_31 ?_
    refine hl_istore (ls2 := [(5, .int (v2 + 1)), (4, .int x3), (0, .ref 64), (1, .int v1), (2, .int v2), (3, .int v3)]) d209_32 (by decide) rfl ?_
    obtain ⟨x6, hx6, h⟩ := hl_bind h
    refine hl_R.loc (ls' := [(0, .ref 64), (1, .int v1), (3, .int v3), (4, .int x3), (5, .int (v2 + 1))]) ⟨rfl, rfl, rfl, rfl, rfl, trivial⟩ ?_
    refine hl_lp_run2 (P := fun (c0 : Int32) (c1 : Int32) => hl_R X (D + 3) y209 34 [(0, .ref 64), (1, .int v1), (3, .int v3), (4, .int c0), (5, .int c1)] [] σ (some (.int r)) τ) (fun x : Int32 => hl_R X (D + 3) y209 61 [(0, .ref 64), (1, .int v1), (3, .int v3), (4, .int x)] [] σ (some (.int r)) τ) (fun c0 c1 o ho h1 h2 => p_M_doesMiss_L34 D v1 v3 σ (c0, c1) ho h1 (fun a0 e => h2 a0 e)) hl_big x3 (v2 + 1) x6 hx6 ?_
    refine hl_aload_n (i := 0) d209_61 rfl rfl (by decide) ?_
    refine hl_iload_n (i := 1) d209_62 rfl rfl ?_
    refine hl_pi d209_63 qM_77_64 ?_
    refine hl_aload_n (i := 0) d209_66 rfl rfl (by decide) ?_
    refine hl_iload d209_67 rfl ?_
    refine hl_pi d209_69 qM_355_64 ?_
    refine hl_aload_n (i := 0) d209_72 rfl rfl (by decide) ?_
    refine hl_iload_n (i := 3) d209_73 rfl rfl ?_
    obtain ⟨x7, hx7, h⟩ := hl_bind h
    refine hl_cVi (D := (D + 2)) (z := y210) (n := 1) (av := [.int v3]) (st := []) d209_74 mlM_459 rfl (Nat.le_of_ble_eq_true rfl) (Nat.le_of_ble_eq_true rfl) rc64 ((p_M_isPictured D v3 (hl_si (hl_si σ 64 36 v1) 64 37 x6) hx7).dle (by omega)) ?_
    refine hl_istore (ls2 := [(5, .int x7), (0, .ref 64), (1, .int v1), (3, .int v3), (4, .int x6)]) d209_77 (by decide) rfl ?_
    refine hl_aload_n (i := 0) d209_79 rfl rfl (by decide) ?_
    refine hl_iconst d209_80 kim1 ?_
    refine hl_pi d209_81 qM_77_64 ?_
    refine hl_iload d209_84 rfl ?_
    obtain ⟨e1, e2⟩ := hl_some2 h
    subst e1; subst e2
    exact hl_zret d209_86 rfl rfl
  · have h := hl_pos hc h
    refine hl_iconst d209_17 ki0 ?_
    obtain ⟨e1, e2⟩ := hl_some2 h
    subst e1; subst e2
    exact hl_zret d209_18 rfl (by decide)
def f_M_missed_L33 (v1 : Int32) (v2 : Int32) (v4 : Int32) (s : Int32 × Int32 × hl_M) : Option ((Int32 × Int32 × hl_M) ⊕ ((Int32 × hl_M) ⊕ (Int32 × hl_M))) :=
  if v1 < s.2.1 then
  some (.inr (.inl ((s.1, s.2.2)))) else
  (f_M_doesMiss v4 s.2.1 v1 s.2.2).bind fun x2 =>
  if x2.1 = 0 then
  some (.inl ((s.1, s.2.1 + 1, x2.2))) else
  if s.1 = v2 then
  some (.inr (.inr (((s.2.1, x2.2))))) else
  some (.inl ((s.1 + 1, s.2.1 + 1, x2.2)))
def f_M_missed_L21 (v1 : Int32) (v2 : Int32) (s : Int32 × Int32 × hl_M) : Option ((Int32 × Int32 × hl_M) ⊕ ((Int32 × hl_M) ⊕ (Int32 × Int32 × hl_M))) :=
  (f_M_personMany s.2.2).bind fun x1 =>
  if x1 ≤ s.2.1 then
  some (.inr (.inl ((s.1, s.2.2)))) else
  (hl_lp (f_M_missed_L33 v1 v2 s.2.1) hl_big ((s.1, 1, s.2.2))).bind fun x3 =>
  Sum.elim (fun x4 =>
  some (.inl ((x4.1, s.2.1 + 1, x4.2)))) (fun x5 =>
  some (.inr (.inr (((s.2.1, x5.1, x5.2)))))) x3
def f_M_missed (v1 : Int32) (v2 : Int32) (σ : hl_M) : Option (Int32 × hl_M) :=
  if (f_M_isBeat v1) = 0 then
  some (((-1), σ)) else
  if (σ.1 64 47) = 0 then
  some (((-1), σ)) else
  (hl_lp (f_M_missed_L21 v1 v2) hl_big ((0, 0, σ))).bind fun x6 =>
  Sum.elim (fun x7 =>
  if v2 = ((-1)) then
  some ((x7.1, x7.2)) else
  some (((-1), x7.2))) (fun x8 =>
  some (((100 * x8.1) + x8.2.1, x8.2.2))) x6
set_option maxRecDepth 20000 in
theorem p_M_missed_L33 {X : hl_X} (D : Nat) (v1 : Int32) (v2 : Int32) (v4 : Int32) (s : Int32 × Int32 × hl_M) {o : (Int32 × Int32 × hl_M) ⊕ ((Int32 × hl_M) ⊕ (Int32 × hl_M))} {v : Option Value} {τ : hl_M} (h : f_M_missed_L33 v1 v2 v4 s = some o) (k1 : ∀ (c0 : Int32) (c1 : Int32) (c2 : hl_M), o = .inl ((c0, c1, c2)) → hl_R X (D + 4) y208 33 [(0, .ref 64), (1, .int v1), (2, .int v2), (3, .int c0), (4, .int v4), (5, .int c1)] [] c2 v τ) (k2 : ∀ (a0 : Int32) (a1 : hl_M), o = .inr (.inl (a0, a1)) → hl_R X (D + 4) y208 77 [(0, .ref 64), (1, .int v1), (2, .int v2), (3, .int a0), (4, .int v4)] [] a1 v τ) (k3 : ∀ (a0 : Int32) (a1 : hl_M), o = .inr (.inr ((a0, a1))) → hl_R X (D + 4) y208 59 [(4, .int v4), (5, .int a0)] [] a1 v τ) : hl_R X (D + 4) y208 33 [(0, .ref 64), (1, .int v1), (2, .int v2), (3, .int s.1), (4, .int v4), (5, .int s.2.1)] [] s.2.2 v τ := by
  unfold f_M_missed_L33 at h
  refine hl_iload d208_33 rfl ?_
  refine hl_iload_n (i := 1) d208_35 rfl rfl ?_
  refine hl_icmp_gt (tg := 77) d208_36 rfl (fun hc => ?_) (fun hc => ?_)
  · have h := hl_pos hc h
    have h := Option.some.inj h
    subst h
    exact hl_loc (k2 s.1 s.2.2 rfl) ⟨rfl, rfl, rfl, rfl, rfl, trivial⟩
  · have h := hl_neg hc h
    refine hl_aload_n (i := 0) d208_39 rfl rfl (by decide) ?_
    refine hl_iload d208_40 rfl ?_
    refine hl_iload d208_42 rfl ?_
    refine hl_iload_n (i := 1) d208_44 rfl rfl ?_
    obtain ⟨x2, hx2, h⟩ := hl_bind h
    refine hl_cVi (D := (D + 3)) (z := y209) (n := 3) (av := [.int v4, .int s.2.1, .int v1]) (st := []) d208_45 mlM_462 rfl (Nat.le_of_ble_eq_true rfl) (Nat.le_of_ble_eq_true rfl) rc64 ((p_M_doesMiss D v4 s.2.1 v1 s.2.2 hx2).dle (by omega)) ?_
    refine hl_if_ne (tg := 54) d208_48 rfl (fun hc => ?_) (fun hc => ?_)
    · have h := hl_neg hc h
      refine hl_iload_n (i := 3) d208_54 rfl rfl ?_
      refine hl_iload_n (i := 2) d208_55 rfl rfl ?_
      refine hl_icmp_ne (tg := 68) d208_56 rfl (fun hc => ?_) (fun hc => ?_)
      · have h := hl_neg hc h
        refine hl_iinc (ls2 := [(3, .int (s.1 + 1)), (0, .ref 64), (1, .int v1), (2, .int v2), (4, .int v4), (5, .int s.2.1)]) d208_68 rfl kx1 (by decide) rfl ?_
        refine hl_iinc (ls2 := [(5, .int (s.2.1 + 1)), (3, .int (s.1 + 1)), (0, .ref 64), (1, .int v1), (2, .int v2), (4, .int v4)]) d208_71 rfl kx1 (by decide) rfl ?_
        refine hl_goto (tg := 33) d208_74 rfl ?_
        have h := Option.some.inj h
        subst h
        exact hl_loc (k1 (s.1 + 1) (s.2.1 + 1) x2.2 rfl) ⟨rfl, rfl, rfl, rfl, rfl, rfl, trivial⟩
      · have h := hl_pos hc h
        have h := Option.some.inj h
        subst h
        exact hl_loc (k3 s.2.1 x2.2 rfl) ⟨rfl, rfl, trivial⟩
    · have h := hl_pos hc h
      refine hl_goto (tg := 71) d208_51 rfl ?_
      refine hl_iinc (ls2 := [(5, .int (s.2.1 + 1)), (0, .ref 64), (1, .int v1), (2, .int v2), (3, .int s.1), (4, .int v4)]) d208_71 rfl kx1 (by decide) rfl ?_
      refine hl_goto (tg := 33) d208_74 rfl ?_
      have h := Option.some.inj h
      subst h
      exact hl_loc (k1 s.1 (s.2.1 + 1) x2.2 rfl) ⟨rfl, rfl, rfl, rfl, rfl, rfl, trivial⟩
set_option maxRecDepth 20000 in
theorem p_M_missed_L21 {X : hl_X} (D : Nat) (v1 : Int32) (v2 : Int32) (s : Int32 × Int32 × hl_M) {o : (Int32 × Int32 × hl_M) ⊕ ((Int32 × hl_M) ⊕ (Int32 × Int32 × hl_M))} {v : Option Value} {τ : hl_M} (h : f_M_missed_L21 v1 v2 s = some o) (k1 : ∀ (c0 : Int32) (c1 : Int32) (c2 : hl_M), o = .inl ((c0, c1, c2)) → hl_R X (D + 4) y208 21 [(0, .ref 64), (1, .int v1), (2, .int v2), (3, .int c0), (4, .int c1)] [] c2 v τ) (k2 : ∀ (a0 : Int32) (a1 : hl_M), o = .inr (.inl (a0, a1)) → hl_R X (D + 4) y208 83 [(2, .int v2), (3, .int a0)] [] a1 v τ) (k3 : ∀ (a0 : Int32) (a1 : Int32) (a2 : hl_M), o = .inr (.inr ((a0, a1, a2))) → hl_R X (D + 4) y208 59 [(4, .int a0), (5, .int a1)] [] a2 v τ) : hl_R X (D + 4) y208 21 [(0, .ref 64), (1, .int v1), (2, .int v2), (3, .int s.1), (4, .int s.2.1)] [] s.2.2 v τ := by
  unfold f_M_missed_L21 at h
  refine hl_iload d208_21 rfl ?_
  refine hl_aload_n (i := 0) d208_23 rfl rfl (by decide) ?_
  obtain ⟨x1, hx1, h⟩ := hl_bind h
  refine hl_cVi (D := (D + 3)) (z := y93) (n := 0) (av := []) (st := [.int s.2.1]) d208_24 mlM_335 rfl (Nat.le_of_ble_eq_true rfl) (Nat.le_of_ble_eq_true rfl) rc64 ((p_M_personMany D s.2.2 hx1).dle (by omega)) ?_
  refine hl_icmp_ge (tg := 83) d208_27 rfl (fun hc => ?_) (fun hc => ?_)
  · have h := hl_pos hc h
    have h := Option.some.inj h
    subst h
    exact hl_loc (k2 s.1 s.2.2 rfl) ⟨rfl, rfl, trivial⟩
  · have h := hl_neg hc h
    refine hl_iconst d208_30 ki1 ?_
    refine hl_istore (ls2 := [(5, .int 1), (0, .ref 64), (1, .int v1), (2, .int v2), (3, .int s.1), (4, .int s.2.1)]) d208_31 (by decide) rfl ?_
    obtain ⟨x3, hx3, h⟩ := hl_bind h
    refine hl_R.loc (ls' := [(0, .ref 64), (1, .int v1), (2, .int v2), (3, .int s.1), (4, .int s.2.1), (5, .int 1)]) ⟨rfl, rfl, rfl, rfl, rfl, rfl, trivial⟩ ?_
    refine hl_lp_run3 (P := fun (c0 : Int32) (c1 : Int32) (c2 : hl_M) => hl_R X (D + 4) y208 33 [(0, .ref 64), (1, .int v1), (2, .int v2), (3, .int c0), (4, .int s.2.1), (5, .int c1)] [] c2 v τ) (Sum.elim (fun x : Int32 × hl_M => hl_R X (D + 4) y208 77 [(0, .ref 64), (1, .int v1), (2, .int v2), (3, .int x.1), (4, .int s.2.1)] [] x.2 v τ) (fun x : Int32 × hl_M => hl_R X (D + 4) y208 59 [(4, .int s.2.1), (5, .int x.1)] [] x.2 v τ)) (fun c0 c1 c2 o ho h1 h2 => p_M_missed_L33 D v1 v2 s.2.1 (c0, c1, c2) ho h1 (fun a0 a1 e => h2 (.inl (a0, a1)) e) (fun a0 a1 e => h2 (.inr ((a0, a1))) e)) hl_big s.1 1 s.2.2 x3 hx3 ?_
    rcases hl_sum h with ⟨x4, e_x4, h⟩ | ⟨x5, e_x5, h⟩
    · subst e_x4
      refine hl_iinc (ls2 := [(4, .int (s.2.1 + 1)), (0, .ref 64), (1, .int v1), (2, .int v2), (3, .int x4.1)]) d208_77 rfl kx1 (by decide) rfl ?_
      refine hl_goto (tg := 21) d208_80 rfl ?_
      have h := Option.some.inj h
      subst h
      exact hl_loc (k1 x4.1 (s.2.1 + 1) x4.2 rfl) ⟨rfl, rfl, rfl, rfl, rfl, trivial⟩
    · subst e_x5
      have h := Option.some.inj h
      subst h
      exact hl_loc (k3 s.2.1 x5.1 x5.2 rfl) ⟨rfl, rfl, trivial⟩
set_option maxRecDepth 20000 in
theorem p_M_missed {X : hl_X} (D : Nat) (v1 : Int32) (v2 : Int32) (σ : hl_M) {r : Int32} {τ : hl_M} (h : f_M_missed v1 v2 σ = some (r, τ)) : hl_R X (D + 4) y208 0 [(0, .ref 64), (1, .int v1), (2, .int v2)] [] σ (some (.int r)) τ := by
  unfold f_M_missed at h
  refine hl_iload_n (i := 1) d208_0 rfl rfl ?_
  refine hl_cSi (D := (D + 3)) (z := y139) (n := 1) (av := [.int v1]) (st := []) d208_1 mlM_409 rfl (Nat.le_of_ble_eq_true rfl) (Nat.le_of_ble_eq_true rfl) ((p_M_isBeat D v1 σ rfl).dle (by omega)) ?_
  refine hl_if_eq (tg := 14) d208_4 rfl (fun hc => ?_) (fun hc => ?_)
  · have h := hl_pos hc h
    refine hl_iconst d208_14 kim1 ?_
    obtain ⟨e1, e2⟩ := hl_some2 h
    subst e1; subst e2
    exact hl_iret d208_15 rfl
  · have h := hl_neg hc h
    refine hl_aload_n (i := 0) d208_7 rfl rfl (by decide) ?_
    refine hl_gz d208_8 gM_316_64 ?_
    refine hl_if_ne (tg := 16) d208_11 rfl (fun hc => ?_) (fun hc => ?_)
    · have h := hl_neg hc h
      refine hl_iconst d208_16 ki0 ?_
      refine hl_istore_n (i := 3) (ls2 := [(3, .int 0), (0, .ref 64), (1, .int v1), (2, .int v2)]) d208_17 rfl (by decide) rfl ?_
      refine hl_iconst d208_18 ki0 ?_
      refine hl_istore (ls2 := [(4, .int 0), (3, .int 0), (0, .ref 64), (1, .int v1), (2, .int v2)]) d208_19 (by decide) rfl ?_
      obtain ⟨x6, hx6, h⟩ := hl_bind h
      refine hl_R.loc (ls' := [(0, .ref 64), (1, .int v1), (2, .int v2), (3, .int 0), (4, .int 0)]) ⟨rfl, rfl, rfl, rfl, rfl, trivial⟩ ?_
      refine hl_lp_run3 (P := fun (c0 : Int32) (c1 : Int32) (c2 : hl_M) => hl_R X (D + 4) y208 21 [(0, .ref 64), (1, .int v1), (2, .int v2), (3, .int c0), (4, .int c1)] [] c2 (some (.int r)) τ) (Sum.elim (fun x : Int32 × hl_M => hl_R X (D + 4) y208 83 [(2, .int v2), (3, .int x.1)] [] x.2 (some (.int r)) τ) (fun x : Int32 × Int32 × hl_M => hl_R X (D + 4) y208 59 [(4, .int x.1), (5, .int x.2.1)] [] x.2.2 (some (.int r)) τ)) (fun c0 c1 c2 o ho h1 h2 => p_M_missed_L21 D v1 v2 (c0, c1, c2) ho h1 (fun a0 a1 e => h2 (.inl (a0, a1)) e) (fun a0 a1 a2 e => h2 (.inr ((a0, a1, a2))) e)) hl_big 0 0 σ x6 hx6 ?_
      rcases hl_sum h with ⟨x7, e_x7, h⟩ | ⟨x8, e_x8, h⟩
      · subst e_x7
        refine hl_iload_n (i := 2) d208_83 rfl rfl ?_
        refine hl_iconst d208_84 kim1 ?_
        refine hl_icmp_ne (tg := 92) d208_85 rfl (fun hc => ?_) (fun hc => ?_)
        · have h := hl_neg hc h
          refine hl_iconst d208_92 kim1 ?_
          obtain ⟨e1, e2⟩ := hl_some2 h
          subst e1; subst e2
          exact hl_iret d208_93 rfl
        · have h := hl_pos hc h
          refine hl_iload_n (i := 3) d208_88 rfl rfl ?_
          refine hl_goto (tg := 93) d208_89 rfl ?_
          obtain ⟨e1, e2⟩ := hl_some2 h
          subst e1; subst e2
          exact hl_iret d208_93 rfl
      · subst e_x8
        refine hl_bipush d208_59 kb100 ?_
        refine hl_iload d208_61 rfl ?_
        refine hl_imul d208_63 ?_
        refine hl_iload d208_64 rfl ?_
        refine hl_iadd d208_66 ?_
        obtain ⟨e1, e2⟩ := hl_some2 h
        subst e1; subst e2
        exact hl_iret d208_67 rfl
    · have h := hl_pos hc h
      refine hl_iconst d208_14 kim1 ?_
      obtain ⟨e1, e2⟩ := hl_some2 h
      subst e1; subst e2
      exact hl_iret d208_15 rfl
def f_X_alikeAhead_L33 (v2 : Int32) (v4 : Int64) (σ : hl_M) (s : Int32 × Int32) : Option ((Int32 × Int32) ⊕ (Int32)) :=
  if v2 ≤ s.2 then
  some (.inr s.1) else
  if (σ.1 4 3) ≤ s.2 then
  some (.inr s.1) else
  if hl_b s.2 10 then
  (f_X_rhymeOf (σ.2 8 s.2.toNatClampNeg)).bind fun x2 =>
  if x2 = v4 then
  some (.inl ((s.1 + 1, s.2 + 1))) else
  some (.inl ((s.1, s.2 + 1))) else none
def f_X_alikeAhead (v1 : Int32) (v2 : Int32) (σ : hl_M) : Option (Int32) :=
  if (f_X_within v1 (σ.1 4 3)) = 0 then
  some 0 else
  if hl_b v1 10 then
  (f_X_rhymeOf (σ.2 8 v1.toNatClampNeg)).bind fun x1 =>
  (hl_lp (f_X_alikeAhead_L33 v2 x1 σ) hl_big ((0, 0))).bind fun x3 =>
  some x3 else none
set_option maxRecDepth 20000 in
theorem p_X_alikeAhead_L33 {X : hl_X} (D : Nat) (v2 : Int32) (v4 : Int64) (σ : hl_M) (s : Int32 × Int32) {o : (Int32 × Int32) ⊕ (Int32)} {v : Option Value} (h : f_X_alikeAhead_L33 v2 v4 σ s = some o) (k1 : ∀ (c0 : Int32) (c1 : Int32), o = .inl ((c0, c1)) → hl_R X (D + 3) y212 33 [(0, .ref 0), (2, .int v2), (3, .int c0), (4, .long v4), (6, .int c1)] [] σ v σ) (k2 : ∀ (a0 : Int32), o = .inr a0 → hl_R X (D + 3) y212 79 [(3, .int a0)] [] σ v σ) : hl_R X (D + 3) y212 33 [(0, .ref 0), (2, .int v2), (3, .int s.1), (4, .long v4), (6, .int s.2)] [] σ v σ := by
  unfold f_X_alikeAhead_L33 at h
  refine hl_iload d212_33 rfl ?_
  refine hl_iload_n (i := 2) d212_35 rfl rfl ?_
  refine hl_icmp_ge (tg := 79) d212_36 rfl (fun hc => ?_) (fun hc => ?_)
  · have h := hl_pos hc h
    have h := Option.some.inj h
    subst h
    exact hl_loc (k2 s.1 rfl) ⟨rfl, trivial⟩
  · have h := hl_neg hc h
    refine hl_iload d212_39 rfl ?_
    refine hl_aload_n (i := 0) d212_41 rfl rfl (by decide) ?_
    refine hl_gr d212_42 gX_28_0 ?_
    refine hl_gi d212_45 gX_139_4 ?_
    refine hl_icmp_ge (tg := 79) d212_48 rfl (fun hc => ?_) (fun hc => ?_)
    · have h := hl_pos hc h
      have h := Option.some.inj h
      subst h
      exact hl_loc (k2 s.1 rfl) ⟨rfl, trivial⟩
    · have h := hl_neg hc h
      refine hl_aload_n (i := 0) d212_51 rfl rfl (by decide) ?_
      refine hl_gr d212_52 gX_28_0 ?_
      refine hl_gr d212_55 gX_169_4 ?_
      refine hl_iload d212_58 rfl ?_
      obtain ⟨hb, h⟩ := hl_gd h
      refine hl_lald d212_60 sh8 (hl_b_in hb) ?_
      obtain ⟨x2, hx2, h⟩ := hl_bind h
      refine hl_cSl (D := (D + 2)) (z := y122) (n := 1) (av := [.long (σ.2 8 s.2.toNatClampNeg)]) (st := []) d212_61 mlX_182 rfl (Nat.le_of_ble_eq_true rfl) (Nat.le_of_ble_eq_true rfl) ((p_X_rhymeOf D (σ.2 8 s.2.toNatClampNeg) σ hx2).dle (by omega)) ?_
      refine hl_lload d212_64 rfl ?_
      refine hl_lc_ne (tg := 73) d212_66 d212_67 rfl (fun hc => ?_) (fun hc => ?_)
      · have h := hl_neg hc h
        refine hl_iinc (ls2 := [(6, .int (s.2 + 1)), (0, .ref 0), (2, .int v2), (3, .int s.1), (4, .long v4)]) d212_73 rfl kx1 (by decide) rfl ?_
        refine hl_goto (tg := 33) d212_76 rfl ?_
        have h := Option.some.inj h
        subst h
        exact hl_loc (k1 s.1 (s.2 + 1) rfl) ⟨rfl, rfl, rfl, rfl, rfl, trivial⟩
      · have h := hl_pos hc h
        refine hl_iinc (ls2 := [(3, .int (s.1 + 1)), (0, .ref 0), (2, .int v2), (4, .long v4), (6, .int s.2)]) d212_70 rfl kx1 (by decide) rfl ?_
        refine hl_iinc (ls2 := [(6, .int (s.2 + 1)), (3, .int (s.1 + 1)), (0, .ref 0), (2, .int v2), (4, .long v4)]) d212_73 rfl kx1 (by decide) rfl ?_
        refine hl_goto (tg := 33) d212_76 rfl ?_
        have h := Option.some.inj h
        subst h
        exact hl_loc (k1 (s.1 + 1) (s.2 + 1) rfl) ⟨rfl, rfl, rfl, rfl, rfl, trivial⟩
set_option maxRecDepth 20000 in
theorem p_X_alikeAhead {X : hl_X} (D : Nat) (v1 : Int32) (v2 : Int32) (σ : hl_M) {r : Int32} (h : f_X_alikeAhead v1 v2 σ = some r) : hl_R X (D + 3) y212 0 [(0, .ref 0), (1, .int v1), (2, .int v2)] [] σ (some (.int r)) σ := by
  unfold f_X_alikeAhead at h
  refine hl_iconst d212_0 ki0 ?_
  refine hl_istore_n (i := 3) (ls2 := [(3, .int 0), (0, .ref 0), (1, .int v1), (2, .int v2)]) d212_1 rfl (by decide) rfl ?_
  refine hl_iload_n (i := 1) d212_2 rfl rfl ?_
  refine hl_aload_n (i := 0) d212_3 rfl rfl (by decide) ?_
  refine hl_gr d212_4 gX_28_0 ?_
  refine hl_gi d212_7 gX_139_4 ?_
  refine hl_cSi (D := (D + 2)) (z := y2) (n := 2) (av := [.int v1, .int (σ.1 4 3)]) (st := []) d212_10 mlX_154 rfl (Nat.le_of_ble_eq_true rfl) (Nat.le_of_ble_eq_true rfl) ((p_X_within D v1 (σ.1 4 3) σ rfl).dle (by omega)) ?_
  refine hl_if_eq (tg := 79) d212_13 rfl (fun hc => ?_) (fun hc => ?_)
  · have h := hl_pos hc h
    refine hl_iload_n (i := 3) d212_79 rfl rfl ?_
    have h := Option.some.inj h
    subst h
    exact hl_iret d212_80 rfl
  · have h := hl_neg hc h
    refine hl_aload_n (i := 0) d212_16 rfl rfl (by decide) ?_
    refine hl_gr d212_17 gX_28_0 ?_
    refine hl_gr d212_20 gX_169_4 ?_
    refine hl_iload_n (i := 1) d212_23 rfl rfl ?_
    obtain ⟨hb, h⟩ := hl_gd h
    refine hl_lald d212_24 sh8 (hl_b_in hb) ?_
    obtain ⟨x1, hx1, h⟩ := hl_bind h
    refine hl_cSl (D := (D + 2)) (z := y122) (n := 1) (av := [.long (σ.2 8 v1.toNatClampNeg)]) (st := []) d212_25 mlX_182 rfl (Nat.le_of_ble_eq_true rfl) (Nat.le_of_ble_eq_true rfl) ((p_X_rhymeOf D (σ.2 8 v1.toNatClampNeg) σ hx1).dle (by omega)) ?_
    refine hl_lstore (ls2 := [(4, .long x1), (3, .int 0), (0, .ref 0), (1, .int v1), (2, .int v2)]) d212_28 (by decide) rfl ?_
    refine hl_iconst d212_30 ki0 ?_
    refine hl_istore (ls2 := [(6, .int 0), (4, .long x1), (3, .int 0), (0, .ref 0), (1, .int v1), (2, .int v2)]) d212_31 (by decide) rfl ?_
    obtain ⟨x3, hx3, h⟩ := hl_bind h
    refine hl_R.loc (ls' := [(0, .ref 0), (2, .int v2), (3, .int 0), (4, .long x1), (6, .int 0)]) ⟨rfl, rfl, rfl, rfl, rfl, trivial⟩ ?_
    refine hl_lp_run2 (P := fun (c0 : Int32) (c1 : Int32) => hl_R X (D + 3) y212 33 [(0, .ref 0), (2, .int v2), (3, .int c0), (4, .long x1), (6, .int c1)] [] σ (some (.int r)) σ) (fun x : Int32 => hl_R X (D + 3) y212 79 [(3, .int x)] [] σ (some (.int r)) σ) (fun c0 c1 o ho h1 h2 => p_X_alikeAhead_L33 D v2 x1 σ (c0, c1) ho h1 (fun a0 e => h2 a0 e)) hl_big 0 0 x3 hx3 ?_
    refine hl_iload_n (i := 3) d212_79 rfl rfl ?_
    have h := Option.some.inj h
    subst h
    exact hl_iret d212_80 rfl
def f_X_alike_L9 (σ : hl_M) (s : Int32 × Int32) : Option ((Int32 × Int32) ⊕ (Int32)) :=
  if (σ.1 4 3) ≤ s.2 then
  some (.inr s.1) else
  (f_X_alikeAhead s.2 s.2 σ).bind fun x2 =>
  if x2 = 0 then
  some (.inl ((s.1 + 1, s.2 + 1))) else
  some (.inl ((s.1, s.2 + 1)))
def f_X_alike (v1 : Int32) (σ : hl_M) : Option (Int32) :=
  if v1 = ((-1)) then
  (hl_lp (f_X_alike_L9 σ) hl_big ((0, 0))).bind fun x3 =>
  some x3 else
  if (f_X_within v1 (σ.1 4 3)) = 0 then
  some ((-1)) else
  (f_X_alikeAhead v1 (σ.1 4 3) σ).bind fun x1 =>
  some x1
set_option maxRecDepth 20000 in
theorem p_X_alike_L9 {X : hl_X} (D : Nat) (σ : hl_M) (s : Int32 × Int32) {o : (Int32 × Int32) ⊕ (Int32)} {v : Option Value} (h : f_X_alike_L9 σ s = some o) (k1 : ∀ (c0 : Int32) (c1 : Int32), o = .inl ((c0, c1)) → hl_R X (D + 4) y211 9 [(0, .ref 0), (2, .int c0), (3, .int c1)] [] σ v σ) (k2 : ∀ (a0 : Int32), o = .inr a0 → hl_R X (D + 4) y211 38 [(2, .int a0)] [] σ v σ) : hl_R X (D + 4) y211 9 [(0, .ref 0), (2, .int s.1), (3, .int s.2)] [] σ v σ := by
  unfold f_X_alike_L9 at h
  refine hl_iload_n (i := 3) d211_9 rfl rfl ?_
  refine hl_aload_n (i := 0) d211_10 rfl rfl (by decide) ?_
  refine hl_gr d211_11 gX_28_0 ?_
  refine hl_gi d211_14 gX_139_4 ?_
  refine hl_icmp_ge (tg := 38) d211_17 rfl (fun hc => ?_) (fun hc => ?_)
  · have h := hl_pos hc h
    have h := Option.some.inj h
    subst h
    exact hl_loc (k2 s.1 rfl) ⟨rfl, trivial⟩
  · have h := hl_neg hc h
    refine hl_aload_n (i := 0) d211_20 rfl rfl (by decide) ?_
    refine hl_iload_n (i := 3) d211_21 rfl rfl ?_
    refine hl_iload_n (i := 3) d211_22 rfl rfl ?_
    obtain ⟨x2, hx2, h⟩ := hl_bind h
    refine hl_cVi (D := (D + 3)) (z := y212) (n := 2) (av := [.int s.2, .int s.2]) (st := []) d211_23 mlX_289 rfl (Nat.le_of_ble_eq_true rfl) (Nat.le_of_ble_eq_true rfl) rc0 ((p_X_alikeAhead D s.2 s.2 σ hx2).dle (by omega)) ?_
    refine hl_if_ne (tg := 32) d211_26 rfl (fun hc => ?_) (fun hc => ?_)
    · have h := hl_neg hc h
      refine hl_iinc (ls2 := [(3, .int (s.2 + 1)), (0, .ref 0), (2, .int s.1)]) d211_32 rfl kx1 (by decide) rfl ?_
      refine hl_goto (tg := 9) d211_35 rfl ?_
      have h := Option.some.inj h
      subst h
      exact hl_loc (k1 s.1 (s.2 + 1) rfl) ⟨rfl, rfl, rfl, trivial⟩
    · have h := hl_pos hc h
      refine hl_iinc (ls2 := [(2, .int (s.1 + 1)), (0, .ref 0), (3, .int s.2)]) d211_29 rfl kx1 (by decide) rfl ?_
      refine hl_iinc (ls2 := [(3, .int (s.2 + 1)), (2, .int (s.1 + 1)), (0, .ref 0)]) d211_32 rfl kx1 (by decide) rfl ?_
      refine hl_goto (tg := 9) d211_35 rfl ?_
      have h := Option.some.inj h
      subst h
      exact hl_loc (k1 (s.1 + 1) (s.2 + 1) rfl) ⟨rfl, rfl, rfl, trivial⟩
set_option maxRecDepth 20000 in
theorem p_X_alike {X : hl_X} (D : Nat) (v1 : Int32) (σ : hl_M) {r : Int32} (h : f_X_alike v1 σ = some r) : hl_R X (D + 4) y211 0 [(0, .ref 0), (1, .int v1)] [] σ (some (.int r)) σ := by
  unfold f_X_alike at h
  refine hl_iload_n (i := 1) d211_0 rfl rfl ?_
  refine hl_iconst d211_1 kim1 ?_
  refine hl_icmp_ne (tg := 40) d211_2 rfl (fun hc => ?_) (fun hc => ?_)
  · have h := hl_neg hc h
    refine hl_iload_n (i := 1) d211_40 rfl rfl ?_
    refine hl_aload_n (i := 0) d211_41 rfl rfl (by decide) ?_
    refine hl_gr d211_42 gX_28_0 ?_
    refine hl_gi d211_45 gX_139_4 ?_
    refine hl_cSi (D := (D + 3)) (z := y2) (n := 2) (av := [.int v1, .int (σ.1 4 3)]) (st := []) d211_48 mlX_154 rfl (Nat.le_of_ble_eq_true rfl) (Nat.le_of_ble_eq_true rfl) ((p_X_within D v1 (σ.1 4 3) σ rfl).dle (by omega)) ?_
    refine hl_if_eq (tg := 69) d211_51 rfl (fun hc => ?_) (fun hc => ?_)
    · have h := hl_pos hc h
      refine hl_iconst d211_69 kim1 ?_
      have h := Option.some.inj h
      subst h
      exact hl_iret d211_70 rfl
    · have h := hl_neg hc h
      refine hl_aload_n (i := 0) d211_54 rfl rfl (by decide) ?_
      refine hl_iload_n (i := 1) d211_55 rfl rfl ?_
      refine hl_aload_n (i := 0) d211_56 rfl rfl (by decide) ?_
      refine hl_gr d211_57 gX_28_0 ?_
      refine hl_gi d211_60 gX_139_4 ?_
      obtain ⟨x1, hx1, h⟩ := hl_bind h
      refine hl_cVi (D := (D + 3)) (z := y212) (n := 2) (av := [.int v1, .int (σ.1 4 3)]) (st := []) d211_63 mlX_289 rfl (Nat.le_of_ble_eq_true rfl) (Nat.le_of_ble_eq_true rfl) rc0 ((p_X_alikeAhead D v1 (σ.1 4 3) σ hx1).dle (by omega)) ?_
      refine hl_goto (tg := 70) d211_66 rfl ?_
      have h := Option.some.inj h
      subst h
      exact hl_iret d211_70 rfl
  · have h := hl_pos hc h
    refine hl_iconst d211_5 ki0 ?_
    refine hl_istore_n (i := 2) (ls2 := [(2, .int 0), (0, .ref 0), (1, .int v1)]) d211_6 rfl (by decide) rfl ?_
    refine hl_iconst d211_7 ki0 ?_
    refine hl_istore_n (i := 3) (ls2 := [(3, .int 0), (2, .int 0), (0, .ref 0), (1, .int v1)]) d211_8 rfl (by decide) rfl ?_
    obtain ⟨x3, hx3, h⟩ := hl_bind h
    refine hl_R.loc (ls' := [(0, .ref 0), (2, .int 0), (3, .int 0)]) ⟨rfl, rfl, rfl, trivial⟩ ?_
    refine hl_lp_run2 (P := fun (c0 : Int32) (c1 : Int32) => hl_R X (D + 4) y211 9 [(0, .ref 0), (2, .int c0), (3, .int c1)] [] σ (some (.int r)) σ) (fun x : Int32 => hl_R X (D + 4) y211 38 [(2, .int x)] [] σ (some (.int r)) σ) (fun c0 c1 o ho h1 h2 => p_X_alike_L9 D σ (c0, c1) ho h1 (fun a0 e => h2 a0 e)) hl_big 0 0 x3 hx3 ?_
    refine hl_iload_n (i := 2) d211_38 rfl rfl ?_
    have h := Option.some.inj h
    subst h
    exact hl_iret d211_39 rfl
def f_M_areAlike_L20 (v1 : Int32) (v2 : Int32) (v3 : Int32) (σ : hl_M) (s : Int32) : Option ((Int32) ⊕ ((Unit) ⊕ (Int32))) :=
  if v3 < s then
  some (.inr (.inl (()))) else
  (f_M_stepIn v1 s σ).bind fun x3 =>
  (f_M_stepIn v2 s σ).bind fun x4 =>
  if x3 = x4 then
  some (.inl (s + 1)) else
  some (.inr (.inr (0)))
def f_M_areAlike (v1 : Int32) (v2 : Int32) (σ : hl_M) : Option (Int32) :=
  (f_M_rhymeOf v1 σ).bind fun x1 =>
  (f_M_rhymeOf v2 σ).bind fun x2 =>
  if x2 = x1 then
  (hl_lp (f_M_areAlike_L20 v1 v2 x1 σ) hl_big 1).bind fun x5 =>
  Sum.elim (fun x6 =>
  some 1) (fun x7 =>
  some x7) x5 else
  some 0
set_option maxRecDepth 20000 in
theorem p_M_areAlike_L20 {X : hl_X} (D : Nat) (v1 : Int32) (v2 : Int32) (v3 : Int32) (σ : hl_M) (s : Int32) {o : (Int32) ⊕ ((Unit) ⊕ (Int32))} {v : Option Value} (h : f_M_areAlike_L20 v1 v2 v3 σ s = some o) (k1 : ∀ (c0 : Int32), o = .inl c0 → hl_R X (D + 4) y214 20 [(0, .ref 64), (1, .int v1), (2, .int v2), (3, .int v3), (4, .int c0)] [] σ v σ) (k2 : o = .inr (.inl ()) → hl_R X (D + 4) y214 51 [] [] σ v σ) (kr : ∀ (a : Int32), o = .inr (.inr (a)) → v = some (.int a)) : hl_R X (D + 4) y214 20 [(0, .ref 64), (1, .int v1), (2, .int v2), (3, .int v3), (4, .int s)] [] σ v σ := by
  unfold f_M_areAlike_L20 at h
  refine hl_iload d214_20 rfl ?_
  refine hl_iload_n (i := 3) d214_22 rfl rfl ?_
  refine hl_icmp_gt (tg := 51) d214_23 rfl (fun hc => ?_) (fun hc => ?_)
  · have h := hl_pos hc h
    have h := Option.some.inj h
    subst h
    exact hl_loc (k2 rfl) trivial
  · have h := hl_neg hc h
    refine hl_aload_n (i := 0) d214_26 rfl rfl (by decide) ?_
    refine hl_iload_n (i := 1) d214_27 rfl rfl ?_
    refine hl_iload d214_28 rfl ?_
    obtain ⟨x3, hx3, h⟩ := hl_bind h
    refine hl_cVi (D := (D + 3)) (z := y94) (n := 2) (av := [.int v1, .int s]) (st := []) d214_30 mlM_346 rfl (Nat.le_of_ble_eq_true rfl) (Nat.le_of_ble_eq_true rfl) rc64 ((p_M_stepIn D v1 s σ hx3).dle (by omega)) ?_
    refine hl_aload_n (i := 0) d214_33 rfl rfl (by decide) ?_
    refine hl_iload_n (i := 2) d214_34 rfl rfl ?_
    refine hl_iload d214_35 rfl ?_
    obtain ⟨x4, hx4, h⟩ := hl_bind h
    refine hl_cVi (D := (D + 3)) (z := y94) (n := 2) (av := [.int v2, .int s]) (st := [.int x3]) d214_37 mlM_346 rfl (Nat.le_of_ble_eq_true rfl) (Nat.le_of_ble_eq_true rfl) rc64 ((p_M_stepIn D v2 s σ hx4).dle (by omega)) ?_
    refine hl_icmp_eq (tg := 45) d214_40 rfl (fun hc => ?_) (fun hc => ?_)
    · have h := hl_pos hc h
      refine hl_iinc (ls2 := [(4, .int (s + 1)), (0, .ref 64), (1, .int v1), (2, .int v2), (3, .int v3)]) d214_45 rfl kx1 (by decide) rfl ?_
      refine hl_goto (tg := 20) d214_48 rfl ?_
      have h := Option.some.inj h
      subst h
      exact hl_loc (k1 (s + 1) rfl) ⟨rfl, rfl, rfl, rfl, rfl, trivial⟩
    · have h := hl_neg hc h
      refine hl_iconst d214_43 ki0 ?_
      have h := Option.some.inj h
      subst h
      have e1 := kr 0 rfl
      subst e1
      exact hl_zret d214_44 rfl (by decide)
set_option maxRecDepth 20000 in
theorem p_M_areAlike {X : hl_X} (D : Nat) (v1 : Int32) (v2 : Int32) (σ : hl_M) {r : Int32} (h : f_M_areAlike v1 v2 σ = some r) : hl_R X (D + 4) y214 0 [(0, .ref 64), (1, .int v1), (2, .int v2)] [] σ (some (.int r)) σ := by
  unfold f_M_areAlike at h
  refine hl_aload_n (i := 0) d214_0 rfl rfl (by decide) ?_
  refine hl_iload_n (i := 1) d214_1 rfl rfl ?_
  obtain ⟨x1, hx1, h⟩ := hl_bind h
  refine hl_cVi (D := (D + 3)) (z := y127) (n := 1) (av := [.int v1]) (st := []) d214_2 mlM_397 rfl (Nat.le_of_ble_eq_true rfl) (Nat.le_of_ble_eq_true rfl) rc64 ((p_M_rhymeOf D v1 σ hx1).dle (by omega)) ?_
  refine hl_istore_n (i := 3) (ls2 := [(3, .int x1), (0, .ref 64), (1, .int v1), (2, .int v2)]) d214_5 rfl (by decide) rfl ?_
  refine hl_aload_n (i := 0) d214_6 rfl rfl (by decide) ?_
  refine hl_iload_n (i := 2) d214_7 rfl rfl ?_
  obtain ⟨x2, hx2, h⟩ := hl_bind h
  refine hl_cVi (D := (D + 3)) (z := y127) (n := 1) (av := [.int v2]) (st := []) d214_8 mlM_397 rfl (Nat.le_of_ble_eq_true rfl) (Nat.le_of_ble_eq_true rfl) rc64 ((p_M_rhymeOf D v2 σ hx2).dle (by omega)) ?_
  refine hl_iload_n (i := 3) d214_11 rfl rfl ?_
  refine hl_icmp_eq (tg := 17) d214_12 rfl (fun hc => ?_) (fun hc => ?_)
  · have h := hl_pos hc h
    refine hl_iconst d214_17 ki1 ?_
    refine hl_istore (ls2 := [(4, .int 1), (3, .int x1), (0, .ref 64), (1, .int v1), (2, .int v2)]) d214_18 (by decide) rfl ?_
    obtain ⟨x5, hx5, h⟩ := hl_bind h
    refine hl_R.loc (ls' := [(0, .ref 64), (1, .int v1), (2, .int v2), (3, .int x1), (4, .int 1)]) ⟨rfl, rfl, rfl, rfl, rfl, trivial⟩ ?_
    refine hl_lp_run1 (P := fun (c0 : Int32) => hl_R X (D + 4) y214 20 [(0, .ref 64), (1, .int v1), (2, .int v2), (3, .int x1), (4, .int c0)] [] σ (some (.int r)) σ) (Sum.elim (fun x : Unit => hl_R X (D + 4) y214 51 [] [] σ (some (.int r)) σ) (fun a : Int32 => ((some (.int r)) : Option Value) = some (.int a))) (fun c0 o ho h1 h2 => p_M_areAlike_L20 D v1 v2 x1 σ c0 ho h1 (fun e => h2 (.inl ()) e) (fun a e => h2 (.inr (a)) e)) hl_big 1 x5 hx5 ?_
    rcases hl_sum h with ⟨x6, e_x6, h⟩ | ⟨x7, e_x7, h⟩
    · subst e_x6
      refine hl_iconst d214_51 ki1 ?_
      have h := Option.some.inj h
      subst h
      exact hl_zret d214_52 rfl (by decide)
    · subst e_x7
      cases h
      rfl
  · have h := hl_neg hc h
    refine hl_iconst d214_15 ki0 ?_
    have h := Option.some.inj h
    subst h
    exact hl_zret d214_16 rfl (by decide)
def f_M_alike_L33 (v1 : Int32) (v2 : Int32) (v3 : Int32) (σ : hl_M) (s : Int32 × Int32) : Option ((Int32 × Int32) ⊕ (Int32)) :=
  if v3 ≤ s.2 then
  some (.inr s.1) else
  if s.1 = 0 then
  some (.inl ((0, s.2 + 1))) else
  (f_M_areAlike v3 s.2 σ).bind fun x2 =>
  if x2 = 0 then
  some (.inl ((1, s.2 + 1))) else
  some (.inl ((0, s.2 + 1)))
def f_M_alike_L19 (v1 : Int32) (σ : hl_M) (s : Int32 × Int32) : Option ((Int32 × Int32) ⊕ (Int32)) :=
  (f_M_personMany σ).bind fun x1 =>
  if x1 ≤ s.2 then
  some (.inr s.1) else
  (hl_lp (f_M_alike_L33 v1 s.1 s.2 σ) hl_big ((1, 0))).bind fun x3 =>
  if v1 = ((-1)) then
  if x3 = 0 then
  some (.inl ((s.1, s.2 + 1))) else
  some (.inl ((s.1 + 1, s.2 + 1))) else
  (f_M_areAlike s.2 v1 σ).bind fun x4 =>
  if x4 = 0 then
  some (.inl ((s.1, s.2 + 1))) else
  some (.inl ((s.1 + 1, s.2 + 1)))
def f_M_alike (v1 : Int32) (σ : hl_M) : Option (Int32) :=
  if v1 = ((-1)) then
  (hl_lp (f_M_alike_L19 v1 σ) hl_big ((0, 0))).bind fun x5 =>
  some x5 else
  (f_M_isPerson v1 σ).bind fun x6 =>
  if x6 = 0 then
  some ((-1)) else
  (hl_lp (f_M_alike_L19 v1 σ) hl_big ((0, 0))).bind fun x7 =>
  some x7
set_option maxRecDepth 20000 in
theorem p_M_alike_L33 {X : hl_X} (D : Nat) (v1 : Int32) (v2 : Int32) (v3 : Int32) (σ : hl_M) (s : Int32 × Int32) {o : (Int32 × Int32) ⊕ (Int32)} {v : Option Value} (h : f_M_alike_L33 v1 v2 v3 σ s = some o) (k1 : ∀ (c0 : Int32) (c1 : Int32), o = .inl ((c0, c1)) → hl_R X (D + 5) y213 33 [(0, .ref 64), (1, .int v1), (2, .int v2), (3, .int v3), (4, .int c0), (5, .int c1)] [] σ v σ) (k2 : ∀ (a0 : Int32), o = .inr a0 → hl_R X (D + 5) y213 67 [(0, .ref 64), (1, .int v1), (2, .int v2), (3, .int v3), (4, .int a0)] [] σ v σ) : hl_R X (D + 5) y213 33 [(0, .ref 64), (1, .int v1), (2, .int v2), (3, .int v3), (4, .int s.1), (5, .int s.2)] [] σ v σ := by
  unfold f_M_alike_L33 at h
  refine hl_iload d213_33 rfl ?_
  refine hl_iload_n (i := 3) d213_35 rfl rfl ?_
  refine hl_icmp_ge (tg := 67) d213_36 rfl (fun hc => ?_) (fun hc => ?_)
  · have h := hl_pos hc h
    have h := Option.some.inj h
    subst h
    exact hl_loc (k2 s.1 rfl) ⟨rfl, rfl, rfl, rfl, rfl, trivial⟩
  · have h := hl_neg hc h
    refine hl_iload d213_39 rfl ?_
    refine hl_if_eq (tg := 58) d213_41 rfl (fun hc => ?_) (fun hc => ?_)
    · have h := hl_pos hc h
      refine hl_iconst d213_58 ki0 ?_
      refine hl_istore (ls2 := [(4, .int 0), (0, .ref 64), (1, .int v1), (2, .int v2), (3, .int v3), (5, .int s.2)]) d213_59 (by decide) rfl ?_
      refine hl_iinc (ls2 := [(5, .int (s.2 + 1)), (4, .int 0), (0, .ref 64), (1, .int v1), (2, .int v2), (3, .int v3)]) d213_61 rfl kx1 (by decide) rfl ?_
      refine hl_goto (tg := 33) d213_64 rfl ?_
      have h := Option.some.inj h
      subst h
      exact hl_loc (k1 0 (s.2 + 1) rfl) ⟨rfl, rfl, rfl, rfl, rfl, rfl, trivial⟩
    · have h := hl_neg hc h
      refine hl_aload_n (i := 0) d213_44 rfl rfl (by decide) ?_
      refine hl_iload_n (i := 3) d213_45 rfl rfl ?_
      refine hl_iload d213_46 rfl ?_
      obtain ⟨x2, hx2, h⟩ := hl_bind h
      refine hl_cVi (D := (D + 4)) (z := y214) (n := 2) (av := [.int v3, .int s.2]) (st := []) d213_48 mlM_465 rfl (Nat.le_of_ble_eq_true rfl) (Nat.le_of_ble_eq_true rfl) rc64 ((p_M_areAlike D v3 s.2 σ hx2).dle (by omega)) ?_
      refine hl_if_ne (tg := 58) d213_51 rfl (fun hc => ?_) (fun hc => ?_)
      · have h := hl_neg hc h
        refine hl_iconst d213_58 ki0 ?_
        refine hl_istore (ls2 := [(4, .int 0), (0, .ref 64), (1, .int v1), (2, .int v2), (3, .int v3), (5, .int s.2)]) d213_59 (by decide) rfl ?_
        refine hl_iinc (ls2 := [(5, .int (s.2 + 1)), (4, .int 0), (0, .ref 64), (1, .int v1), (2, .int v2), (3, .int v3)]) d213_61 rfl kx1 (by decide) rfl ?_
        refine hl_goto (tg := 33) d213_64 rfl ?_
        have h := Option.some.inj h
        subst h
        exact hl_loc (k1 0 (s.2 + 1) rfl) ⟨rfl, rfl, rfl, rfl, rfl, rfl, trivial⟩
      · have h := hl_pos hc h
        refine hl_iconst d213_54 ki1 ?_
        refine hl_goto (tg := 59) d213_55 rfl ?_
        refine hl_istore (ls2 := [(4, .int 1), (0, .ref 64), (1, .int v1), (2, .int v2), (3, .int v3), (5, .int s.2)]) d213_59 (by decide) rfl ?_
        refine hl_iinc (ls2 := [(5, .int (s.2 + 1)), (4, .int 1), (0, .ref 64), (1, .int v1), (2, .int v2), (3, .int v3)]) d213_61 rfl kx1 (by decide) rfl ?_
        refine hl_goto (tg := 33) d213_64 rfl ?_
        have h := Option.some.inj h
        subst h
        exact hl_loc (k1 1 (s.2 + 1) rfl) ⟨rfl, rfl, rfl, rfl, rfl, rfl, trivial⟩
set_option maxRecDepth 20000 in
theorem p_M_alike_L19 {X : hl_X} (D : Nat) (v1 : Int32) (σ : hl_M) (s : Int32 × Int32) {o : (Int32 × Int32) ⊕ (Int32)} {v : Option Value} (h : f_M_alike_L19 v1 σ s = some o) (k1 : ∀ (c0 : Int32) (c1 : Int32), o = .inl ((c0, c1)) → hl_R X (D + 5) y213 19 [(0, .ref 64), (1, .int v1), (2, .int c0), (3, .int c1)] [] σ v σ) (k2 : ∀ (a0 : Int32), o = .inr a0 → hl_R X (D + 5) y213 98 [(2, .int a0)] [] σ v σ) : hl_R X (D + 5) y213 19 [(0, .ref 64), (1, .int v1), (2, .int s.1), (3, .int s.2)] [] σ v σ := by
  unfold f_M_alike_L19 at h
  refine hl_iload_n (i := 3) d213_19 rfl rfl ?_
  refine hl_aload_n (i := 0) d213_20 rfl rfl (by decide) ?_
  obtain ⟨x1, hx1, h⟩ := hl_bind h
  refine hl_cVi (D := (D + 4)) (z := y93) (n := 0) (av := []) (st := [.int s.2]) d213_21 mlM_335 rfl (Nat.le_of_ble_eq_true rfl) (Nat.le_of_ble_eq_true rfl) rc64 ((p_M_personMany D σ hx1).dle (by omega)) ?_
  refine hl_icmp_ge (tg := 98) d213_24 rfl (fun hc => ?_) (fun hc => ?_)
  · have h := hl_pos hc h
    have h := Option.some.inj h
    subst h
    exact hl_loc (k2 s.1 rfl) ⟨rfl, trivial⟩
  · have h := hl_neg hc h
    refine hl_iconst d213_27 ki1 ?_
    refine hl_istore (ls2 := [(4, .int 1), (0, .ref 64), (1, .int v1), (2, .int s.1), (3, .int s.2)]) d213_28 (by decide) rfl ?_
    refine hl_iconst d213_30 ki0 ?_
    refine hl_istore (ls2 := [(5, .int 0), (4, .int 1), (0, .ref 64), (1, .int v1), (2, .int s.1), (3, .int s.2)]) d213_31 (by decide) rfl ?_
    obtain ⟨x3, hx3, h⟩ := hl_bind h
    refine hl_R.loc (ls' := [(0, .ref 64), (1, .int v1), (2, .int s.1), (3, .int s.2), (4, .int 1), (5, .int 0)]) ⟨rfl, rfl, rfl, rfl, rfl, rfl, trivial⟩ ?_
    refine hl_lp_run2 (P := fun (c0 : Int32) (c1 : Int32) => hl_R X (D + 5) y213 33 [(0, .ref 64), (1, .int v1), (2, .int s.1), (3, .int s.2), (4, .int c0), (5, .int c1)] [] σ v σ) (fun x : Int32 => hl_R X (D + 5) y213 67 [(0, .ref 64), (1, .int v1), (2, .int s.1), (3, .int s.2), (4, .int x)] [] σ v σ) (fun c0 c1 o ho h1 h2 => p_M_alike_L33 D v1 s.1 s.2 σ (c0, c1) ho h1 (fun a0 e => h2 a0 e)) hl_big 1 0 x3 hx3 ?_
    refine hl_iload_n (i := 1) d213_67 rfl rfl ?_
    refine hl_iconst d213_68 kim1 ?_
    refine hl_icmp_ne (tg := 80) d213_69 rfl (fun hc => ?_) (fun hc => ?_)
    · have h := hl_neg hc h
      refine hl_aload_n (i := 0) d213_80 rfl rfl (by decide) ?_
      refine hl_iload_n (i := 3) d213_81 rfl rfl ?_
      refine hl_iload_n (i := 1) d213_82 rfl rfl ?_
      obtain ⟨x4, hx4, h⟩ := hl_bind h
      refine hl_cVi (D := (D + 4)) (z := y214) (n := 2) (av := [.int s.2, .int v1]) (st := []) d213_83 mlM_465 rfl (Nat.le_of_ble_eq_true rfl) (Nat.le_of_ble_eq_true rfl) rc64 ((p_M_areAlike D s.2 v1 σ hx4).dle (by omega)) ?_
      refine hl_if_eq (tg := 92) d213_86 rfl (fun hc => ?_) (fun hc => ?_)
      · have h := hl_pos hc h
        refine hl_iinc (ls2 := [(3, .int (s.2 + 1)), (0, .ref 64), (1, .int v1), (2, .int s.1), (4, .int x3)]) d213_92 rfl kx1 (by decide) rfl ?_
        refine hl_goto (tg := 19) d213_95 rfl ?_
        have h := Option.some.inj h
        subst h
        exact hl_loc (k1 s.1 (s.2 + 1) rfl) ⟨rfl, rfl, rfl, rfl, trivial⟩
      · have h := hl_neg hc h
        refine hl_iinc (ls2 := [(2, .int (s.1 + 1)), (0, .ref 64), (1, .int v1), (3, .int s.2), (4, .int x3)]) d213_89 rfl kx1 (by decide) rfl ?_
        refine hl_iinc (ls2 := [(3, .int (s.2 + 1)), (2, .int (s.1 + 1)), (0, .ref 64), (1, .int v1), (4, .int x3)]) d213_92 rfl kx1 (by decide) rfl ?_
        refine hl_goto (tg := 19) d213_95 rfl ?_
        have h := Option.some.inj h
        subst h
        exact hl_loc (k1 (s.1 + 1) (s.2 + 1) rfl) ⟨rfl, rfl, rfl, rfl, trivial⟩
    · have h := hl_pos hc h
      refine hl_iload d213_72 rfl ?_
      refine hl_if_eq (tg := 92) d213_74 rfl (fun hc => ?_) (fun hc => ?_)
      · have h := hl_pos hc h
        refine hl_iinc (ls2 := [(3, .int (s.2 + 1)), (0, .ref 64), (1, .int v1), (2, .int s.1), (4, .int x3)]) d213_92 rfl kx1 (by decide) rfl ?_
        refine hl_goto (tg := 19) d213_95 rfl ?_
        have h := Option.some.inj h
        subst h
        exact hl_loc (k1 s.1 (s.2 + 1) rfl) ⟨rfl, rfl, rfl, rfl, trivial⟩
      · have h := hl_neg hc h
        refine hl_goto (tg := 89) d213_77 rfl ?_
        refine hl_iinc (ls2 := [(2, .int (s.1 + 1)), (0, .ref 64), (1, .int v1), (3, .int s.2), (4, .int x3)]) d213_89 rfl kx1 (by decide) rfl ?_
        refine hl_iinc (ls2 := [(3, .int (s.2 + 1)), (2, .int (s.1 + 1)), (0, .ref 64), (1, .int v1), (4, .int x3)]) d213_92 rfl kx1 (by decide) rfl ?_
        refine hl_goto (tg := 19) d213_95 rfl ?_
        have h := Option.some.inj h
        subst h
        exact hl_loc (k1 (s.1 + 1) (s.2 + 1) rfl) ⟨rfl, rfl, rfl, rfl, trivial⟩
set_option maxRecDepth 20000 in
theorem p_M_alike {X : hl_X} (D : Nat) (v1 : Int32) (σ : hl_M) {r : Int32} (h : f_M_alike v1 σ = some r) : hl_R X (D + 5) y213 0 [(0, .ref 64), (1, .int v1)] [] σ (some (.int r)) σ := by
  unfold f_M_alike at h
  refine hl_iload_n (i := 1) d213_0 rfl rfl ?_
  refine hl_iconst d213_1 kim1 ?_
  refine hl_icmp_eq (tg := 15) d213_2 rfl (fun hc => ?_) (fun hc => ?_)
  · have h := hl_pos hc h
    refine hl_iconst d213_15 ki0 ?_
    refine hl_istore_n (i := 2) (ls2 := [(2, .int 0), (0, .ref 64), (1, .int v1)]) d213_16 rfl (by decide) rfl ?_
    refine hl_iconst d213_17 ki0 ?_
    refine hl_istore_n (i := 3) (ls2 := [(3, .int 0), (2, .int 0), (0, .ref 64), (1, .int v1)]) d213_18 rfl (by decide) rfl ?_
    obtain ⟨x5, hx5, h⟩ := hl_bind h
    refine hl_R.loc (ls' := [(0, .ref 64), (1, .int v1), (2, .int 0), (3, .int 0)]) ⟨rfl, rfl, rfl, rfl, trivial⟩ ?_
    refine hl_lp_run2 (P := fun (c0 : Int32) (c1 : Int32) => hl_R X (D + 5) y213 19 [(0, .ref 64), (1, .int v1), (2, .int c0), (3, .int c1)] [] σ (some (.int r)) σ) (fun x : Int32 => hl_R X (D + 5) y213 98 [(2, .int x)] [] σ (some (.int r)) σ) (fun c0 c1 o ho h1 h2 => p_M_alike_L19 D v1 σ (c0, c1) ho h1 (fun a0 e => h2 a0 e)) hl_big 0 0 x5 hx5 ?_
    refine hl_iload_n (i := 2) d213_98 rfl rfl ?_
    have h := Option.some.inj h
    subst h
    exact hl_iret d213_99 rfl
  · have h := hl_neg hc h
    refine hl_aload_n (i := 0) d213_5 rfl rfl (by decide) ?_
    refine hl_iload_n (i := 1) d213_6 rfl rfl ?_
    obtain ⟨x6, hx6, h⟩ := hl_bind h
    refine hl_cVi (D := (D + 4)) (z := y126) (n := 1) (av := [.int v1]) (st := []) d213_7 mlM_394 rfl (Nat.le_of_ble_eq_true rfl) (Nat.le_of_ble_eq_true rfl) rc64 ((p_M_isPerson D v1 σ hx6).dle (by omega)) ?_
    refine hl_if_ne (tg := 15) d213_10 rfl (fun hc => ?_) (fun hc => ?_)
    · have h := hl_neg hc h
      refine hl_iconst d213_15 ki0 ?_
      refine hl_istore_n (i := 2) (ls2 := [(2, .int 0), (0, .ref 64), (1, .int v1)]) d213_16 rfl (by decide) rfl ?_
      refine hl_iconst d213_17 ki0 ?_
      refine hl_istore_n (i := 3) (ls2 := [(3, .int 0), (2, .int 0), (0, .ref 64), (1, .int v1)]) d213_18 rfl (by decide) rfl ?_
      obtain ⟨x7, hx7, h⟩ := hl_bind h
      refine hl_R.loc (ls' := [(0, .ref 64), (1, .int v1), (2, .int 0), (3, .int 0)]) ⟨rfl, rfl, rfl, rfl, trivial⟩ ?_
      refine hl_lp_run2 (P := fun (c0 : Int32) (c1 : Int32) => hl_R X (D + 5) y213 19 [(0, .ref 64), (1, .int v1), (2, .int c0), (3, .int c1)] [] σ (some (.int r)) σ) (fun x : Int32 => hl_R X (D + 5) y213 98 [(2, .int x)] [] σ (some (.int r)) σ) (fun c0 c1 o ho h1 h2 => p_M_alike_L19 D v1 σ (c0, c1) ho h1 (fun a0 e => h2 a0 e)) hl_big 0 0 x7 hx7 ?_
      refine hl_iload_n (i := 2) d213_98 rfl rfl ?_
      have h := Option.some.inj h
      subst h
      exact hl_iret d213_99 rfl
    · have h := hl_pos hc h
      refine hl_iconst d213_13 kim1 ?_
      have h := Option.some.inj h
      subst h
      exact hl_iret d213_14 rfl
def f_Ac_forgetOldest_L2 (s : Int32 × hl_M) : Option ((Int32 × hl_M) ⊕ (hl_M)) :=
  if 20 ≤ s.1 then
  some (.inr s.2) else
  if hl_b s.1 20 then
  if hl_b (s.1 - 1) 20 then
  if hl_b s.1 20 then
  if hl_b (s.1 - 1) 20 then
  if hl_b s.1 20 then
  if hl_b (s.1 - 1) 20 then
  some (.inl ((s.1 + 1, hl_sl (hl_si (hl_si s.2 59 (s.1 - 1).toNatClampNeg (s.2.1 59 s.1.toNatClampNeg)) 60 (s.1 - 1).toNatClampNeg ((hl_si s.2 59 (s.1 - 1).toNatClampNeg (s.2.1 59 s.1.toNatClampNeg)).1 60 s.1.toNatClampNeg)) 61 (s.1 - 1).toNatClampNeg ((hl_si (hl_si s.2 59 (s.1 - 1).toNatClampNeg (s.2.1 59 s.1.toNatClampNeg)) 60 (s.1 - 1).toNatClampNeg ((hl_si s.2 59 (s.1 - 1).toNatClampNeg (s.2.1 59 s.1.toNatClampNeg)).1 60 s.1.toNatClampNeg)).2 61 s.1.toNatClampNeg)))) else none else none else none else none else none else none
def f_Ac_forgetOldest (σ : hl_M) : Option (hl_M) :=
  (hl_lp (f_Ac_forgetOldest_L2) hl_big ((1, σ))).bind fun x1 =>
  some (hl_si x1 58 3 19)
set_option maxRecDepth 20000 in
theorem p_Ac_forgetOldest_L2 {X : hl_X} (D : Nat) (s : Int32 × hl_M) {o : (Int32 × hl_M) ⊕ (hl_M)} {v : Option Value} {τ : hl_M} (h : f_Ac_forgetOldest_L2 s = some o) (k1 : ∀ (c0 : Int32) (c1 : hl_M), o = .inl ((c0, c1)) → hl_R X D y218 2 [(0, .ref 58), (1, .int c0)] [] c1 v τ) (k2 : ∀ (a0 : hl_M), o = .inr a0 → hl_R X D y218 56 [(0, .ref 58)] [] a0 v τ) : hl_R X D y218 2 [(0, .ref 58), (1, .int s.1)] [] s.2 v τ := by
  unfold f_Ac_forgetOldest_L2 at h
  refine hl_iload_n (i := 1) d218_2 rfl rfl ?_
  refine hl_bipush d218_3 kb20 ?_
  refine hl_icmp_ge (tg := 56) d218_5 rfl (fun hc => ?_) (fun hc => ?_)
  · have h := hl_pos hc h
    have h := Option.some.inj h
    subst h
    exact hl_loc (k2 s.2 rfl) ⟨rfl, trivial⟩
  · have h := hl_neg hc h
    refine hl_aload_n (i := 0) d218_8 rfl rfl (by decide) ?_
    refine hl_gr d218_9 gAc_9_58 ?_
    refine hl_iload_n (i := 1) d218_12 rfl rfl ?_
    refine hl_iconst d218_13 ki1 ?_
    refine hl_isub d218_14 ?_
    refine hl_aload_n (i := 0) d218_15 rfl rfl (by decide) ?_
    refine hl_gr d218_16 gAc_9_58 ?_
    refine hl_iload_n (i := 1) d218_19 rfl rfl ?_
    obtain ⟨hb, h⟩ := hl_gd h
    refine hl_iald d218_20 sh59 (hl_b_in hb) ?_
    obtain ⟨hb, h⟩ := hl_gd h
    refine hl_iast (q := 59) d218_21 sh59 (hl_b_in hb) ?_
    refine hl_aload_n (i := 0) d218_22 rfl rfl (by decide) ?_
    refine hl_gr d218_23 gAc_15_58 ?_
    refine hl_iload_n (i := 1) d218_26 rfl rfl ?_
    refine hl_iconst d218_27 ki1 ?_
    refine hl_isub d218_28 ?_
    refine hl_aload_n (i := 0) d218_29 rfl rfl (by decide) ?_
    refine hl_gr d218_30 gAc_15_58 ?_
    refine hl_iload_n (i := 1) d218_33 rfl rfl ?_
    obtain ⟨hb, h⟩ := hl_gd h
    refine hl_iald d218_34 sh60 (hl_b_in hb) ?_
    obtain ⟨hb, h⟩ := hl_gd h
    refine hl_iast (q := 60) d218_35 sh60 (hl_b_in hb) ?_
    refine hl_aload_n (i := 0) d218_36 rfl rfl (by decide) ?_
    refine hl_gr d218_37 gAc_18_58 ?_
    refine hl_iload_n (i := 1) d218_40 rfl rfl ?_
    refine hl_iconst d218_41 ki1 ?_
    refine hl_isub d218_42 ?_
    refine hl_aload_n (i := 0) d218_43 rfl rfl (by decide) ?_
    refine hl_gr d218_44 gAc_18_58 ?_
    refine hl_iload_n (i := 1) d218_47 rfl rfl ?_
    obtain ⟨hb, h⟩ := hl_gd h
    refine hl_lald d218_48 sh61 (hl_b_in hb) ?_
    obtain ⟨hb, h⟩ := hl_gd h
    refine hl_last (q := 61) d218_49 sh61 (hl_b_in hb) ?_
    refine hl_iinc (ls2 := [(1, .int (s.1 + 1)), (0, .ref 58)]) d218_50 rfl kx1 (by decide) rfl ?_
    refine hl_goto (tg := 2) d218_53 rfl ?_
    have h := Option.some.inj h
    subst h
    exact hl_loc (k1 (s.1 + 1) (hl_sl (hl_si (hl_si s.2 59 (s.1 - 1).toNatClampNeg (s.2.1 59 s.1.toNatClampNeg)) 60 (s.1 - 1).toNatClampNeg ((hl_si s.2 59 (s.1 - 1).toNatClampNeg (s.2.1 59 s.1.toNatClampNeg)).1 60 s.1.toNatClampNeg)) 61 (s.1 - 1).toNatClampNeg ((hl_si (hl_si s.2 59 (s.1 - 1).toNatClampNeg (s.2.1 59 s.1.toNatClampNeg)) 60 (s.1 - 1).toNatClampNeg ((hl_si s.2 59 (s.1 - 1).toNatClampNeg (s.2.1 59 s.1.toNatClampNeg)).1 60 s.1.toNatClampNeg)).2 61 s.1.toNatClampNeg)) rfl) ⟨rfl, rfl, trivial⟩
set_option maxRecDepth 20000 in
theorem p_Ac_forgetOldest {X : hl_X} (D : Nat) (σ : hl_M) {τ : hl_M} (h : f_Ac_forgetOldest σ = some τ) : hl_R X D y218 0 [(0, .ref 58)] [] σ none τ := by
  unfold f_Ac_forgetOldest at h
  refine hl_iconst d218_0 ki1 ?_
  refine hl_istore_n (i := 1) (ls2 := [(1, .int 1), (0, .ref 58)]) d218_1 rfl (by decide) rfl ?_
  obtain ⟨x1, hx1, h⟩ := hl_bind h
  refine hl_R.loc (ls' := [(0, .ref 58), (1, .int 1)]) ⟨rfl, rfl, trivial⟩ ?_
  refine hl_lp_run2 (P := fun (c0 : Int32) (c1 : hl_M) => hl_R X D y218 2 [(0, .ref 58), (1, .int c0)] [] c1 none τ) (fun x : hl_M => hl_R X D y218 56 [(0, .ref 58)] [] x none τ) (fun c0 c1 o ho h1 h2 => p_Ac_forgetOldest_L2 D (c0, c1) ho h1 (fun a0 e => h2 a0 e)) hl_big 1 σ x1 hx1 ?_
  refine hl_aload_n (i := 0) d218_56 rfl rfl (by decide) ?_
  refine hl_bipush d218_57 kb19 ?_
  refine hl_pi d218_59 qAc_22_58 ?_
  have h := Option.some.inj h
  subst h
  exact hl_vret d218_62 rfl
def f_Ac_keep_j13 (v1 : Int32) (v2 : Int32) (v3 : Int64) (σ : hl_M) : Option (hl_M) :=
  if (f_X_within (σ.1 58 3) 20) = 0 then
  some σ else
  if hl_b (σ.1 58 3) 20 then
  if hl_b ((hl_si σ 59 (σ.1 58 3).toNatClampNeg v1).1 58 3) 20 then
  if hl_b ((hl_si (hl_si σ 59 (σ.1 58 3).toNatClampNeg v1) 60 ((hl_si σ 59 (σ.1 58 3).toNatClampNeg v1).1 58 3).toNatClampNeg v2).1 58 3) 20 then
  hl_let (hl_si (hl_sl (hl_si (hl_si σ 59 (σ.1 58 3).toNatClampNeg v1) 60 ((hl_si σ 59 (σ.1 58 3).toNatClampNeg v1).1 58 3).toNatClampNeg v2) 61 ((hl_si (hl_si σ 59 (σ.1 58 3).toNatClampNeg v1) 60 ((hl_si σ 59 (σ.1 58 3).toNatClampNeg v1).1 58 3).toNatClampNeg v2).1 58 3).toNatClampNeg v3) 58 3 (((hl_sl (hl_si (hl_si σ 59 (σ.1 58 3).toNatClampNeg v1) 60 ((hl_si σ 59 (σ.1 58 3).toNatClampNeg v1).1 58 3).toNatClampNeg v2) 61 ((hl_si (hl_si σ 59 (σ.1 58 3).toNatClampNeg v1) 60 ((hl_si σ 59 (σ.1 58 3).toNatClampNeg v1).1 58 3).toNatClampNeg v2).1 58 3).toNatClampNeg v3).1 58 3) + 1)) (fun σ1 =>
  some σ1) else none else none else none
def f_Ac_keep (v1 : Int32) (v2 : Int32) (v3 : Int64) (σ : hl_M) : Option (hl_M) :=
  if (σ.1 58 3) < 20 then
  f_Ac_keep_j13 v1 v2 v3 σ else
  (f_Ac_forgetOldest σ).bind fun x2 =>
  f_Ac_keep_j13 v1 v2 v3 x2
set_option maxRecDepth 20000 in
theorem p_Ac_keep_j13 {X : hl_X} (D : Nat) (v1 : Int32) (v2 : Int32) (v3 : Int64) (σ : hl_M) {τ : hl_M} (h : f_Ac_keep_j13 v1 v2 v3 σ = some τ) : hl_R X (D + 1) y217 13 [(0, .ref 58), (1, .int v1), (2, .int v2), (3, .long v3)] [] σ none τ := by
  unfold f_Ac_keep_j13 at h
  refine hl_aload_n (i := 0) d217_13 rfl rfl (by decide) ?_
  refine hl_gi d217_14 gAc_22_58 ?_
  refine hl_bipush d217_17 kb20 ?_
  refine hl_cNi (D := D) (z := y2) (n := 2) (av := [.int (σ.1 58 3), .int 20]) (st := []) d217_19 mlAc_29 rfl (Nat.le_of_ble_eq_true rfl) (Nat.le_of_ble_eq_true rfl) ((p_X_within D (σ.1 58 3) 20 σ rfl).dle (by omega)) ?_
  refine hl_if_eq (tg := 65) d217_22 rfl (fun hc => ?_) (fun hc => ?_)
  · have h := hl_pos hc h
    have h := Option.some.inj h
    subst h
    exact hl_vret d217_65 rfl
  · have h := hl_neg hc h
    refine hl_aload_n (i := 0) d217_25 rfl rfl (by decide) ?_
    refine hl_gr d217_26 gAc_9_58 ?_
    refine hl_aload_n (i := 0) d217_29 rfl rfl (by decide) ?_
    refine hl_gi d217_30 gAc_22_58 ?_
    refine hl_iload_n (i := 1) d217_33 rfl rfl ?_
    obtain ⟨hb, h⟩ := hl_gd h
    refine hl_iast (q := 59) d217_34 sh59 (hl_b_in hb) ?_
    refine hl_aload_n (i := 0) d217_35 rfl rfl (by decide) ?_
    refine hl_gr d217_36 gAc_15_58 ?_
    refine hl_aload_n (i := 0) d217_39 rfl rfl (by decide) ?_
    refine hl_gi d217_40 gAc_22_58 ?_
    refine hl_iload_n (i := 2) d217_43 rfl rfl ?_
    obtain ⟨hb, h⟩ := hl_gd h
    refine hl_iast (q := 60) d217_44 sh60 (hl_b_in hb) ?_
    refine hl_aload_n (i := 0) d217_45 rfl rfl (by decide) ?_
    refine hl_gr d217_46 gAc_18_58 ?_
    refine hl_aload_n (i := 0) d217_49 rfl rfl (by decide) ?_
    refine hl_gi d217_50 gAc_22_58 ?_
    refine hl_lload_n (i := 3) d217_53 rfl rfl ?_
    obtain ⟨hb, h⟩ := hl_gd h
    refine hl_last (q := 61) d217_54 sh61 (hl_b_in hb) ?_
    refine hl_aload_n (i := 0) d217_55 rfl rfl (by decide) ?_
    refine hl_dup d217_56 rfl ?_
    refine hl_gi d217_57 gAc_22_58 ?_
    refine hl_iconst d217_60 ki1 ?_
    refine hl_iadd d217_61 ?_
    refine hl_pi d217_62 qAc_22_58 ?_
    refine hl_nmm h (fun σ1 h => ?_)
    have h := Option.some.inj h
    subst h
    exact hl_vret d217_65 rfl
set_option maxRecDepth 20000 in
theorem p_Ac_keep {X : hl_X} (D : Nat) (v1 : Int32) (v2 : Int32) (v3 : Int64) (σ : hl_M) {τ : hl_M} (h : f_Ac_keep v1 v2 v3 σ = some τ) : hl_R X (D + 1) y217 0 [(0, .ref 58), (1, .int v1), (2, .int v2), (3, .long v3)] [] σ none τ := by
  unfold f_Ac_keep at h
  refine hl_aload_n (i := 0) d217_0 rfl rfl (by decide) ?_
  refine hl_gi d217_1 gAc_22_58 ?_
  refine hl_bipush d217_4 kb20 ?_
  refine hl_icmp_lt (tg := 13) d217_6 rfl (fun hc => ?_) (fun hc => ?_)
  · have h := hl_pos hc h
    exact hl_loc (p_Ac_keep_j13 D v1 v2 v3 σ h) ⟨rfl, rfl, rfl, rfl, trivial⟩
  · have h := hl_neg hc h
    refine hl_aload_n (i := 0) d217_9 rfl rfl (by decide) ?_
    obtain ⟨x2, hx2, h⟩ := hl_bind h
    refine hl_cVv (D := D) (z := y218) (n := 0) (av := []) (st := []) d217_10 mlAc_26 rfl (Nat.le_of_ble_eq_true rfl) (Nat.le_of_ble_eq_true rfl) rc58 ((p_Ac_forgetOldest D σ hx2).dle (by omega)) ?_
    exact hl_loc (p_Ac_keep_j13 D v1 v2 v3 x2 h) ⟨rfl, rfl, rfl, rfl, trivial⟩
def f_X_changeSteps (v1 : Int32) (v2 : Int64) (σ : hl_M) : Option (hl_M) :=
  if (f_X_within v1 (σ.1 4 3)) = 0 then
  some σ else
  if hl_b v1 10 then
  if hl_b v1 10 then
  (f_Ac_keep v1 (σ.1 7 v1.toNatClampNeg) (σ.2 8 v1.toNatClampNeg) σ).bind fun x1 =>
  if hl_b v1 10 then
  (f_Wk_retrace v1 (hl_sl x1 8 v1.toNatClampNeg v2)).bind fun x2 =>
  some x2 else none else none else none
set_option maxRecDepth 20000 in
theorem p_X_changeSteps {X : hl_X} (D : Nat) (v1 : Int32) (v2 : Int64) (σ : hl_M) {τ : hl_M} (h : f_X_changeSteps v1 v2 σ = some τ) : hl_R X (D + 4) y216 0 [(0, .ref 0), (1, .int v1), (2, .long v2)] [] σ none τ := by
  unfold f_X_changeSteps at h
  refine hl_iload_n (i := 1) d216_0 rfl rfl ?_
  refine hl_aload_n (i := 0) d216_1 rfl rfl (by decide) ?_
  refine hl_gr d216_2 gX_28_0 ?_
  refine hl_gi d216_5 gX_139_4 ?_
  refine hl_cSi (D := (D + 3)) (z := y2) (n := 2) (av := [.int v1, .int (σ.1 4 3)]) (st := []) d216_8 mlX_154 rfl (Nat.le_of_ble_eq_true rfl) (Nat.le_of_ble_eq_true rfl) ((p_X_within D v1 (σ.1 4 3) σ rfl).dle (by omega)) ?_
  refine hl_if_eq (tg := 58) d216_11 rfl (fun hc => ?_) (fun hc => ?_)
  · have h := hl_pos hc h
    have h := Option.some.inj h
    subst h
    exact hl_vret d216_58 rfl
  · have h := hl_neg hc h
    refine hl_aload_n (i := 0) d216_14 rfl rfl (by decide) ?_
    refine hl_gr d216_15 gX_81_0 ?_
    refine hl_iload_n (i := 1) d216_18 rfl rfl ?_
    refine hl_aload_n (i := 0) d216_19 rfl rfl (by decide) ?_
    refine hl_gr d216_20 gX_28_0 ?_
    refine hl_gr d216_23 gX_176_4 ?_
    refine hl_iload_n (i := 1) d216_26 rfl rfl ?_
    obtain ⟨hb, h⟩ := hl_gd h
    refine hl_iald d216_27 sh7 (hl_b_in hb) ?_
    refine hl_aload_n (i := 0) d216_28 rfl rfl (by decide) ?_
    refine hl_gr d216_29 gX_28_0 ?_
    refine hl_gr d216_32 gX_169_4 ?_
    refine hl_iload_n (i := 1) d216_35 rfl rfl ?_
    obtain ⟨hb, h⟩ := hl_gd h
    refine hl_lald d216_36 sh8 (hl_b_in hb) ?_
    obtain ⟨x1, hx1, h⟩ := hl_bind h
    refine hl_cVv (D := (D + 3)) (z := y217) (n := 3) (av := [.int v1, .int (σ.1 7 v1.toNatClampNeg), .long (σ.2 8 v1.toNatClampNeg)]) (st := []) d216_37 mlX_300 rfl (Nat.le_of_ble_eq_true rfl) (Nat.le_of_ble_eq_true rfl) rc58 ((p_Ac_keep D v1 (σ.1 7 v1.toNatClampNeg) (σ.2 8 v1.toNatClampNeg) σ hx1).dle (by omega)) ?_
    refine hl_aload_n (i := 0) d216_40 rfl rfl (by decide) ?_
    refine hl_gr d216_41 gX_28_0 ?_
    refine hl_gr d216_44 gX_169_4 ?_
    refine hl_iload_n (i := 1) d216_47 rfl rfl ?_
    refine hl_lload_n (i := 2) d216_48 rfl rfl ?_
    obtain ⟨hb, h⟩ := hl_gd h
    refine hl_last (q := 8) d216_49 sh8 (hl_b_in hb) ?_
    refine hl_aload_n (i := 0) d216_50 rfl rfl (by decide) ?_
    refine hl_gr d216_51 gX_49_0 ?_
    refine hl_iload_n (i := 1) d216_54 rfl rfl ?_
    obtain ⟨x2, hx2, h⟩ := hl_bind h
    refine hl_cVv (D := (D + 3)) (z := y56) (n := 1) (av := [.int v1]) (st := []) d216_55 mlX_312 rfl (Nat.le_of_ble_eq_true rfl) (Nat.le_of_ble_eq_true rfl) rc25 ((p_Wk_retrace D v1 (hl_sl x1 8 v1.toNatClampNeg v2) hx2).dle (by omega)) ?_
    have h := Option.some.inj h
    subst h
    exact hl_vret d216_58 rfl
def f_X_teach (v1 : Int32) (σ : hl_M) : Option (Int32 × hl_M) :=
  (f_X_stepsOnTape 0 (σ.1 1 1) σ).bind fun x1 =>
  if x1 = 0 then
  some ((0, hl_si σ 1 1 0)) else
  if (f_X_within v1 ((hl_si σ 1 1 0).1 4 3)) = 0 then
  some ((0, hl_si σ 1 1 0)) else
  (f_X_changeSteps v1 x1 (hl_si σ 1 1 0)).bind fun x2 =>
  some ((1, x2))
set_option maxRecDepth 20000 in
theorem p_X_teach {X : hl_X} (D : Nat) (v1 : Int32) (σ : hl_M) {r : Int32} {τ : hl_M} (h : f_X_teach v1 σ = some (r, τ)) : hl_R X (D + 5) y215 0 [(0, .ref 0), (1, .int v1)] [] σ (some (.int r)) τ := by
  unfold f_X_teach at h
  refine hl_aload_n (i := 0) d215_0 rfl rfl (by decide) ?_
  refine hl_gr d215_1 gX_10_0 ?_
  refine hl_iconst d215_4 ki0 ?_
  refine hl_aload_n (i := 0) d215_5 rfl rfl (by decide) ?_
  refine hl_gr d215_6 gX_10_0 ?_
  refine hl_gi d215_9 gX_92_1 ?_
  obtain ⟨x1, hx1, h⟩ := hl_bind h
  refine hl_cSl (D := (D + 4)) (z := y40) (n := 3) (av := [.ref 1, .int 0, .int (σ.1 1 1)]) (st := []) d215_12 mlX_292 rfl (Nat.le_of_ble_eq_true rfl) (Nat.le_of_ble_eq_true rfl) ((p_X_stepsOnTape D 0 (σ.1 1 1) σ hx1).dle (by omega)) ?_
  refine hl_lstore_n (i := 2) (ls2 := [(2, .long x1), (0, .ref 0), (1, .int v1)]) d215_15 rfl (by decide) rfl ?_
  refine hl_aload_n (i := 0) d215_16 rfl rfl (by decide) ?_
  refine hl_gr d215_17 gX_10_0 ?_
  refine hl_iconst d215_20 ki0 ?_
  refine hl_pi d215_21 qX_92_1 ?_
  refine hl_lload_n (i := 2) d215_24 rfl rfl ?_
  refine hl_lconst (x := 0) d215_25 (by decide) ?_
  refine hl_lc_eq (tg := 44) d215_26 d215_27 rfl (fun hc => ?_) (fun hc => ?_)
  · have h := hl_pos hc h
    refine hl_iconst d215_44 ki0 ?_
    obtain ⟨e1, e2⟩ := hl_some2 h
    subst e1; subst e2
    exact hl_zret d215_45 rfl (by decide)
  · have h := hl_neg hc h
    refine hl_iload_n (i := 1) d215_30 rfl rfl ?_
    refine hl_aload_n (i := 0) d215_31 rfl rfl (by decide) ?_
    refine hl_gr d215_32 gX_28_0 ?_
    refine hl_gi d215_35 gX_139_4 ?_
    refine hl_cSi (D := (D + 4)) (z := y2) (n := 2) (av := [.int v1, .int ((hl_si σ 1 1 0).1 4 3)]) (st := []) d215_38 mlX_154 rfl (Nat.le_of_ble_eq_true rfl) (Nat.le_of_ble_eq_true rfl) ((p_X_within D v1 ((hl_si σ 1 1 0).1 4 3) (hl_si σ 1 1 0) rfl).dle (by omega)) ?_
    refine hl_if_ne (tg := 46) d215_41 rfl (fun hc => ?_) (fun hc => ?_)
    · have h := hl_neg hc h
      refine hl_aload_n (i := 0) d215_46 rfl rfl (by decide) ?_
      refine hl_iload_n (i := 1) d215_47 rfl rfl ?_
      refine hl_lload_n (i := 2) d215_48 rfl rfl ?_
      obtain ⟨x2, hx2, h⟩ := hl_bind h
      refine hl_cVv (D := (D + 4)) (z := y216) (n := 2) (av := [.int v1, .long x1]) (st := []) d215_49 mlX_296 rfl (Nat.le_of_ble_eq_true rfl) (Nat.le_of_ble_eq_true rfl) rc0 ((p_X_changeSteps D v1 x1 (hl_si σ 1 1 0) hx2).dle (by omega)) ?_
      refine hl_iconst d215_52 ki1 ?_
      obtain ⟨e1, e2⟩ := hl_some2 h
      subst e1; subst e2
      exact hl_zret d215_53 rfl (by decide)
    · have h := hl_pos hc h
      refine hl_iconst d215_44 ki0 ?_
      obtain ⟨e1, e2⟩ := hl_some2 h
      subst e1; subst e2
      exact hl_zret d215_45 rfl (by decide)
def f_M_keeps_L15 (s : Int32 × hl_M) : Option ((Int32 × hl_M) ⊕ (hl_M)) :=
  if 150 ≤ s.1 then
  some (.inr s.2) else
  if hl_b (150 + s.1) 300 then
  if hl_b ((150 * (s.2.1 64 51)) + s.1) 3000 then
  some (.inl ((s.1 + 1, hl_si s.2 90 ((150 * (s.2.1 64 51)) + s.1).toNatClampNeg (s.2.1 78 (150 + s.1).toNatClampNeg)))) else none else none
def f_M_keeps (σ : hl_M) : Option (hl_M) :=
  (hl_lp (f_M_keeps_L15) hl_big ((0, hl_si σ 64 51 (((σ.1 64 51) + 1) - ((σ.1 64 51) + 1) / 20 * 20)))).bind fun x1 =>
  if 20 ≤ (x1.1 64 50) then
  some x1 else
  some (hl_si x1 64 50 ((x1.1 64 50) + 1))
set_option maxRecDepth 20000 in
theorem p_M_keeps_L15 {X : hl_X} (D : Nat) (s : Int32 × hl_M) {o : (Int32 × hl_M) ⊕ (hl_M)} {v : Option Value} {τ : hl_M} (h : f_M_keeps_L15 s = some o) (k1 : ∀ (c0 : Int32) (c1 : hl_M), o = .inl ((c0, c1)) → hl_R X D y220 15 [(0, .ref 64), (1, .int c0)] [] c1 v τ) (k2 : ∀ (a0 : hl_M), o = .inr a0 → hl_R X D y220 53 [(0, .ref 64)] [] a0 v τ) : hl_R X D y220 15 [(0, .ref 64), (1, .int s.1)] [] s.2 v τ := by
  unfold f_M_keeps_L15 at h
  refine hl_iload_n (i := 1) d220_15 rfl rfl ?_
  refine hl_sipush d220_16 ks150 ?_
  refine hl_icmp_ge (tg := 53) d220_19 rfl (fun hc => ?_) (fun hc => ?_)
  · have h := hl_pos hc h
    have h := Option.some.inj h
    subst h
    exact hl_loc (k2 s.2 rfl) ⟨rfl, trivial⟩
  · have h := hl_neg hc h
    refine hl_aload_n (i := 0) d220_22 rfl rfl (by decide) ?_
    refine hl_gr d220_23 gM_98_64 ?_
    refine hl_sipush d220_26 ks150 ?_
    refine hl_aload_n (i := 0) d220_29 rfl rfl (by decide) ?_
    refine hl_gi d220_30 gM_468_64 ?_
    refine hl_imul d220_33 ?_
    refine hl_iload_n (i := 1) d220_34 rfl rfl ?_
    refine hl_iadd d220_35 ?_
    refine hl_aload_n (i := 0) d220_36 rfl rfl (by decide) ?_
    refine hl_gr d220_37 gM_56_64 ?_
    refine hl_sipush d220_40 ks150 ?_
    refine hl_iload_n (i := 1) d220_43 rfl rfl ?_
    refine hl_iadd d220_44 ?_
    obtain ⟨hb, h⟩ := hl_gd h
    refine hl_iald d220_45 sh78 (hl_b_in hb) ?_
    obtain ⟨hb, h⟩ := hl_gd h
    refine hl_iast (q := 90) d220_46 sh90 (hl_b_in hb) ?_
    refine hl_iinc (ls2 := [(1, .int (s.1 + 1)), (0, .ref 64)]) d220_47 rfl kx1 (by decide) rfl ?_
    refine hl_goto (tg := 15) d220_50 rfl ?_
    have h := Option.some.inj h
    subst h
    exact hl_loc (k1 (s.1 + 1) (hl_si s.2 90 ((150 * (s.2.1 64 51)) + s.1).toNatClampNeg (s.2.1 78 (150 + s.1).toNatClampNeg)) rfl) ⟨rfl, rfl, trivial⟩
set_option maxRecDepth 20000 in
theorem p_M_keeps {X : hl_X} (D : Nat) (σ : hl_M) {τ : hl_M} (h : f_M_keeps σ = some τ) : hl_R X D y220 0 [(0, .ref 64)] [] σ none τ := by
  unfold f_M_keeps at h
  refine hl_aload_n (i := 0) d220_0 rfl rfl (by decide) ?_
  refine hl_aload_n (i := 0) d220_1 rfl rfl (by decide) ?_
  refine hl_gi d220_2 gM_468_64 ?_
  refine hl_iconst d220_5 ki1 ?_
  refine hl_iadd d220_6 ?_
  refine hl_bipush d220_7 kb20 ?_
  refine hl_irem d220_9 (by decide) ?_
  refine hl_pi d220_10 qM_468_64 ?_
  refine hl_iconst d220_13 ki0 ?_
  refine hl_istore_n (i := 1) (ls2 := [(1, .int 0), (0, .ref 64)]) d220_14 rfl (by decide) rfl ?_
  obtain ⟨x1, hx1, h⟩ := hl_bind h
  refine hl_R.loc (ls' := [(0, .ref 64), (1, .int 0)]) ⟨rfl, rfl, trivial⟩ ?_
  refine hl_lp_run2 (P := fun (c0 : Int32) (c1 : hl_M) => hl_R X D y220 15 [(0, .ref 64), (1, .int c0)] [] c1 none τ) (fun x : hl_M => hl_R X D y220 53 [(0, .ref 64)] [] x none τ) (fun c0 c1 o ho h1 h2 => p_M_keeps_L15 D (c0, c1) ho h1 (fun a0 e => h2 a0 e)) hl_big 0 (hl_si σ 64 51 (((σ.1 64 51) + 1) - ((σ.1 64 51) + 1) / 20 * 20)) x1 hx1 ?_
  refine hl_aload_n (i := 0) d220_53 rfl rfl (by decide) ?_
  refine hl_gi d220_54 gM_313_64 ?_
  refine hl_bipush d220_57 kb20 ?_
  refine hl_icmp_ge (tg := 72) d220_59 rfl (fun hc => ?_) (fun hc => ?_)
  · have h := hl_pos hc h
    have h := Option.some.inj h
    subst h
    exact hl_vret d220_72 rfl
  · have h := hl_neg hc h
    refine hl_aload_n (i := 0) d220_62 rfl rfl (by decide) ?_
    refine hl_dup d220_63 rfl ?_
    refine hl_gi d220_64 gM_313_64 ?_
    refine hl_iconst d220_67 ki1 ?_
    refine hl_iadd d220_68 ?_
    refine hl_pi d220_69 qM_313_64 ?_
    have h := Option.some.inj h
    subst h
    exact hl_vret d220_72 rfl
def f_M_teach_L34 (v1 : Int32) (v2 : Int32) (σ : hl_M) (s : Int32) : Option ((Int32) ⊕ ((Unit) ⊕ (Int32 × hl_M))) :=
  if v2 ≤ s then
  some (.inr (.inl (()))) else
  if hl_b s 1600 then
  if (f_M_stepOf (σ.1 65 s.toNatClampNeg)) = ((-1)) then
  some (.inr (.inr (((0, σ))))) else
  some (.inl (s + 1)) else none
def f_M_teach_L80 (v1 : Int32) (v2 : Int32) (s : Int32 × hl_M) : Option ((Int32 × hl_M) ⊕ (hl_M)) :=
  if v2 ≤ s.1 then
  some (.inr s.2) else
  if hl_b s.1 1600 then
  if hl_b ((153 + (15 * v1)) + s.1) 300 then
  some (.inl ((s.1 + 1, hl_si s.2 78 ((153 + (15 * v1)) + s.1).toNatClampNeg (f_M_stepOf (s.2.1 65 s.1.toNatClampNeg))))) else none else none
def f_M_teach (v1 : Int32) (σ : hl_M) : Option (Int32 × hl_M) :=
  (f_M_isPerson v1 (hl_si σ 64 1 0)).bind fun x1 =>
  if x1 = 0 then
  some ((0, hl_si σ 64 1 0)) else
  if (f_M_isIn ((σ.1 64 1).toInt64) 1 12) = 0 then
  some ((0, hl_si σ 64 1 0)) else
  (hl_lp (f_M_teach_L34 v1 (σ.1 64 1) (hl_si σ 64 1 0)) hl_big 0).bind fun x2 =>
  Sum.elim (fun x3 =>
  (f_M_keeps (hl_si σ 64 1 0)).bind fun x4 =>
  if hl_b (152 + (15 * v1)) 300 then
  (hl_lp (f_M_teach_L80 v1 (σ.1 64 1)) hl_big ((0, hl_si x4 78 (152 + (15 * v1)).toNatClampNeg (σ.1 64 1)))).bind fun x5 =>
  (f_M_walks x5).bind fun x6 =>
  some ((1, x6)) else none) (fun x7 =>
  some x7) x2
set_option maxRecDepth 20000 in
theorem p_M_teach_L34 {X : hl_X} (D : Nat) (v1 : Int32) (v2 : Int32) (σ : hl_M) (s : Int32) {o : (Int32) ⊕ ((Unit) ⊕ (Int32 × hl_M))} {v : Option Value} {τ : hl_M} (h : f_M_teach_L34 v1 v2 σ s = some o) (k1 : ∀ (c0 : Int32), o = .inl c0 → hl_R X (D + 3) y219 34 [(0, .ref 64), (1, .int v1), (2, .int v2), (3, .int c0)] [] σ v τ) (k2 : o = .inr (.inl ()) → hl_R X (D + 3) y219 60 [(0, .ref 64), (1, .int v1), (2, .int v2)] [] σ v τ) (kr : ∀ (a : Int32) (b : hl_M), o = .inr (.inr ((a, b))) → v = some (.int a) ∧ τ = b) : hl_R X (D + 3) y219 34 [(0, .ref 64), (1, .int v1), (2, .int v2), (3, .int s)] [] σ v τ := by
  unfold f_M_teach_L34 at h
  refine hl_iload_n (i := 3) d219_34 rfl rfl ?_
  refine hl_iload_n (i := 2) d219_35 rfl rfl ?_
  refine hl_icmp_ge (tg := 60) d219_36 rfl (fun hc => ?_) (fun hc => ?_)
  · have h := hl_pos hc h
    have h := Option.some.inj h
    subst h
    exact hl_loc (k2 rfl) ⟨rfl, rfl, rfl, trivial⟩
  · have h := hl_neg hc h
    refine hl_aload_n (i := 0) d219_39 rfl rfl (by decide) ?_
    refine hl_gr d219_40 gM_7_64 ?_
    refine hl_iload_n (i := 3) d219_43 rfl rfl ?_
    obtain ⟨hb, h⟩ := hl_gd h
    refine hl_iald d219_44 sh65 (hl_b_in hb) ?_
    refine hl_cSi (D := (D + 2)) (z := y85) (n := 1) (av := [.int (σ.1 65 s.toNatClampNeg)]) (st := []) d219_45 mlM_249 rfl (Nat.le_of_ble_eq_true rfl) (Nat.le_of_ble_eq_true rfl) ((p_M_stepOf D (σ.1 65 s.toNatClampNeg) σ rfl).dle (by omega)) ?_
    refine hl_iconst d219_48 kim1 ?_
    refine hl_icmp_ne (tg := 54) d219_49 rfl (fun hc => ?_) (fun hc => ?_)
    · have h := hl_neg hc h
      refine hl_iinc (ls2 := [(3, .int (s + 1)), (0, .ref 64), (1, .int v1), (2, .int v2)]) d219_54 rfl kx1 (by decide) rfl ?_
      refine hl_goto (tg := 34) d219_57 rfl ?_
      have h := Option.some.inj h
      subst h
      exact hl_loc (k1 (s + 1) rfl) ⟨rfl, rfl, rfl, rfl, trivial⟩
    · have h := hl_pos hc h
      refine hl_iconst d219_52 ki0 ?_
      have h := Option.some.inj h
      subst h
      obtain ⟨e1, e2⟩ := kr 0 σ rfl
      subst e1; subst e2
      exact hl_zret d219_53 rfl (by decide)
set_option maxRecDepth 20000 in
theorem p_M_teach_L80 {X : hl_X} (D : Nat) (v1 : Int32) (v2 : Int32) (s : Int32 × hl_M) {o : (Int32 × hl_M) ⊕ (hl_M)} {v : Option Value} {τ : hl_M} (h : f_M_teach_L80 v1 v2 s = some o) (k1 : ∀ (c0 : Int32) (c1 : hl_M), o = .inl ((c0, c1)) → hl_R X (D + 3) y219 80 [(0, .ref 64), (1, .int v1), (2, .int v2), (3, .int c0)] [] c1 v τ) (k2 : ∀ (a0 : hl_M), o = .inr a0 → hl_R X (D + 3) y219 115 [(0, .ref 64)] [] a0 v τ) : hl_R X (D + 3) y219 80 [(0, .ref 64), (1, .int v1), (2, .int v2), (3, .int s.1)] [] s.2 v τ := by
  unfold f_M_teach_L80 at h
  refine hl_iload_n (i := 3) d219_80 rfl rfl ?_
  refine hl_iload_n (i := 2) d219_81 rfl rfl ?_
  refine hl_icmp_ge (tg := 115) d219_82 rfl (fun hc => ?_) (fun hc => ?_)
  · have h := hl_pos hc h
    have h := Option.some.inj h
    subst h
    exact hl_loc (k2 s.2 rfl) ⟨rfl, trivial⟩
  · have h := hl_neg hc h
    refine hl_aload_n (i := 0) d219_85 rfl rfl (by decide) ?_
    refine hl_gr d219_86 gM_56_64 ?_
    refine hl_sipush d219_89 ks153 ?_
    refine hl_bipush d219_92 kb15 ?_
    refine hl_iload_n (i := 1) d219_94 rfl rfl ?_
    refine hl_imul d219_95 ?_
    refine hl_iadd d219_96 ?_
    refine hl_iload_n (i := 3) d219_97 rfl rfl ?_
    refine hl_iadd d219_98 ?_
    refine hl_aload_n (i := 0) d219_99 rfl rfl (by decide) ?_
    refine hl_gr d219_100 gM_7_64 ?_
    refine hl_iload_n (i := 3) d219_103 rfl rfl ?_
    obtain ⟨hb, h⟩ := hl_gd h
    refine hl_iald d219_104 sh65 (hl_b_in hb) ?_
    refine hl_cSi (D := (D + 2)) (z := y85) (n := 1) (av := [.int (s.2.1 65 s.1.toNatClampNeg)]) (st := [.int ((153 + (15 * v1)) + s.1), .ref 78]) d219_105 mlM_249 rfl (Nat.le_of_ble_eq_true rfl) (Nat.le_of_ble_eq_true rfl) ((p_M_stepOf D (s.2.1 65 s.1.toNatClampNeg) s.2 rfl).dle (by omega)) ?_
    obtain ⟨hb, h⟩ := hl_gd h
    refine hl_iast (q := 78) d219_108 sh78 (hl_b_in hb) ?_
    refine hl_iinc (ls2 := [(3, .int (s.1 + 1)), (0, .ref 64), (1, .int v1), (2, .int v2)]) d219_109 rfl kx1 (by decide) rfl ?_
    refine hl_goto (tg := 80) d219_112 rfl ?_
    have h := Option.some.inj h
    subst h
    exact hl_loc (k1 (s.1 + 1) (hl_si s.2 78 ((153 + (15 * v1)) + s.1).toNatClampNeg (f_M_stepOf (s.2.1 65 s.1.toNatClampNeg))) rfl) ⟨rfl, rfl, rfl, rfl, trivial⟩
set_option maxRecDepth 20000 in
theorem p_M_teach {X : hl_X} (D : Nat) (v1 : Int32) (σ : hl_M) {r : Int32} {τ : hl_M} (h : f_M_teach v1 σ = some (r, τ)) : hl_R X (D + 3) y219 0 [(0, .ref 64), (1, .int v1)] [] σ (some (.int r)) τ := by
  unfold f_M_teach at h
  refine hl_aload_n (i := 0) d219_0 rfl rfl (by decide) ?_
  refine hl_gi d219_1 gM_170_64 ?_
  refine hl_istore_n (i := 2) (ls2 := [(2, .int (σ.1 64 1)), (0, .ref 64), (1, .int v1)]) d219_4 rfl (by decide) rfl ?_
  refine hl_aload_n (i := 0) d219_5 rfl rfl (by decide) ?_
  refine hl_iconst d219_6 ki0 ?_
  refine hl_pi d219_7 qM_170_64 ?_
  refine hl_aload_n (i := 0) d219_10 rfl rfl (by decide) ?_
  refine hl_iload_n (i := 1) d219_11 rfl rfl ?_
  obtain ⟨x1, hx1, h⟩ := hl_bind h
  refine hl_cVi (D := (D + 2)) (z := y126) (n := 1) (av := [.int v1]) (st := []) d219_12 mlM_394 rfl (Nat.le_of_ble_eq_true rfl) (Nat.le_of_ble_eq_true rfl) rc64 ((p_M_isPerson D v1 (hl_si σ 64 1 0) hx1).dle (by omega)) ?_
  refine hl_if_eq (tg := 30) d219_15 rfl (fun hc => ?_) (fun hc => ?_)
  · have h := hl_pos hc h
    refine hl_iconst d219_30 ki0 ?_
    obtain ⟨e1, e2⟩ := hl_some2 h
    subst e1; subst e2
    exact hl_zret d219_31 rfl (by decide)
  · have h := hl_neg hc h
    refine hl_iload_n (i := 2) d219_18 rfl rfl ?_
    refine hl_i2l d219_19 ?_
    refine hl_lconst (x := 1) d219_20 (by decide) ?_
    refine hl_ldc2 d219_21 wlM_471 ?_
    refine hl_cSi (D := (D + 2)) (z := y70) (n := 3) (av := [.long ((σ.1 64 1).toInt64), .long 1, .long 12]) (st := []) d219_24 mlM_216 rfl (Nat.le_of_ble_eq_true rfl) (Nat.le_of_ble_eq_true rfl) ((p_M_isIn D ((σ.1 64 1).toInt64) 1 12 (hl_si σ 64 1 0) rfl).dle (by omega)) ?_
    refine hl_if_ne (tg := 32) d219_27 rfl (fun hc => ?_) (fun hc => ?_)
    · have h := hl_neg hc h
      refine hl_iconst d219_32 ki0 ?_
      refine hl_istore_n (i := 3) (ls2 := [(3, .int 0), (2, .int (σ.1 64 1)), (0, .ref 64), (1, .int v1)]) d219_33 rfl (by decide) rfl ?_
      obtain ⟨x2, hx2, h⟩ := hl_bind h
      refine hl_R.loc (ls' := [(0, .ref 64), (1, .int v1), (2, .int (σ.1 64 1)), (3, .int 0)]) ⟨rfl, rfl, rfl, rfl, trivial⟩ ?_
      refine hl_lp_run1 (P := fun (c0 : Int32) => hl_R X (D + 3) y219 34 [(0, .ref 64), (1, .int v1), (2, .int (σ.1 64 1)), (3, .int c0)] [] (hl_si σ 64 1 0) (some (.int r)) τ) (Sum.elim (fun x : Unit => hl_R X (D + 3) y219 60 [(0, .ref 64), (1, .int v1), (2, .int (σ.1 64 1))] [] (hl_si σ 64 1 0) (some (.int r)) τ) (fun a : Int32 × hl_M => ((some (.int r)) : Option Value) = some (.int a.1) ∧ τ = a.2)) (fun c0 o ho h1 h2 => p_M_teach_L34 D v1 (σ.1 64 1) (hl_si σ 64 1 0) c0 ho h1 (fun e => h2 (.inl ()) e) (fun a b e => h2 (.inr ((a, b))) e)) hl_big 0 x2 hx2 ?_
      rcases hl_sum h with ⟨x3, e_x3, h⟩ | ⟨x7, e_x7, h⟩
      · subst e_x3
        refine hl_aload_n (i := 0) d219_60 rfl rfl (by decide) ?_
        obtain ⟨x4, hx4, h⟩ := hl_bind h
        refine hl_cVv (D := (D + 2)) (z := y220) (n := 0) (av := []) (st := []) d219_61 mlM_473 rfl (Nat.le_of_ble_eq_true rfl) (Nat.le_of_ble_eq_true rfl) rc64 ((p_M_keeps D (hl_si σ 64 1 0) hx4).dle (by omega)) ?_
        refine hl_aload_n (i := 0) d219_64 rfl rfl (by decide) ?_
        refine hl_gr d219_65 gM_56_64 ?_
        refine hl_sipush d219_68 ks152 ?_
        refine hl_bipush d219_71 kb15 ?_
        refine hl_iload_n (i := 1) d219_73 rfl rfl ?_
        refine hl_imul d219_74 ?_
        refine hl_iadd d219_75 ?_
        refine hl_iload_n (i := 2) d219_76 rfl rfl ?_
        obtain ⟨hb, h⟩ := hl_gd h
        refine hl_iast (q := 78) d219_77 sh78 (hl_b_in hb) ?_
        refine hl_iconst d219_78 ki0 ?_
        refine hl_istore_n (i := 3) (ls2 := [(3, .int 0), (0, .ref 64), (1, .int v1), (2, .int (σ.1 64 1))]) d219_79 rfl (by decide) rfl ?_
        obtain ⟨x5, hx5, h⟩ := hl_bind h
        refine hl_R.loc (ls' := [(0, .ref 64), (1, .int v1), (2, .int (σ.1 64 1)), (3, .int 0)]) ⟨rfl, rfl, rfl, rfl, trivial⟩ ?_
        refine hl_lp_run2 (P := fun (c0 : Int32) (c1 : hl_M) => hl_R X (D + 3) y219 80 [(0, .ref 64), (1, .int v1), (2, .int (σ.1 64 1)), (3, .int c0)] [] c1 (some (.int r)) τ) (fun x : hl_M => hl_R X (D + 3) y219 115 [(0, .ref 64)] [] x (some (.int r)) τ) (fun c0 c1 o ho h1 h2 => p_M_teach_L80 D v1 (σ.1 64 1) (c0, c1) ho h1 (fun a0 e => h2 a0 e)) hl_big 0 (hl_si x4 78 (152 + (15 * v1)).toNatClampNeg (σ.1 64 1)) x5 hx5 ?_
        refine hl_aload_n (i := 0) d219_115 rfl rfl (by decide) ?_
        obtain ⟨x6, hx6, h⟩ := hl_bind h
        refine hl_cVv (D := (D + 2)) (z := y92) (n := 0) (av := []) (st := []) d219_116 mlM_326 rfl (Nat.le_of_ble_eq_true rfl) (Nat.le_of_ble_eq_true rfl) rc64 ((p_M_walks D x5 hx6).dle (by omega)) ?_
        refine hl_iconst d219_119 ki1 ?_
        obtain ⟨e1, e2⟩ := hl_some2 h
        subst e1; subst e2
        exact hl_zret d219_120 rfl (by decide)
      · subst e_x7
        cases h
        exact ⟨rfl, rfl⟩
    · have h := hl_pos hc h
      refine hl_iconst d219_30 ki0 ?_
      obtain ⟨e1, e2⟩ := hl_some2 h
      subst e1; subst e2
      exact hl_zret d219_31 rfl (by decide)
def f_X_lamp (v1 : Int32) (v2 : Int32) (σ : hl_M) : Option (Int32 × hl_M) :=
  if (f_X_within v1 (σ.1 4 3)) = 0 then
  some ((0, σ)) else
  if (f_X_within v2 3) = 0 then
  some ((0, σ)) else
  if hl_b v1 10 then
  if (σ.1 7 v1.toNatClampNeg) = v2 then
  some ((0, σ)) else
  if hl_b v1 10 then
  if hl_b v1 10 then
  (f_Ac_keep v1 (σ.1 7 v1.toNatClampNeg) (σ.2 8 v1.toNatClampNeg) σ).bind fun x1 =>
  if hl_b v1 10 then
  some ((1, hl_si x1 7 v1.toNatClampNeg v2)) else none else none else none else none
set_option maxRecDepth 20000 in
theorem p_X_lamp {X : hl_X} (D : Nat) (v1 : Int32) (v2 : Int32) (σ : hl_M) {r : Int32} {τ : hl_M} (h : f_X_lamp v1 v2 σ = some (r, τ)) : hl_R X (D + 2) y221 0 [(0, .ref 0), (1, .int v1), (2, .int v2)] [] σ (some (.int r)) τ := by
  unfold f_X_lamp at h
  refine hl_iload_n (i := 1) d221_0 rfl rfl ?_
  refine hl_aload_n (i := 0) d221_1 rfl rfl (by decide) ?_
  refine hl_gr d221_2 gX_28_0 ?_
  refine hl_gi d221_5 gX_139_4 ?_
  refine hl_cSi (D := (D + 1)) (z := y2) (n := 2) (av := [.int v1, .int (σ.1 4 3)]) (st := []) d221_8 mlX_154 rfl (Nat.le_of_ble_eq_true rfl) (Nat.le_of_ble_eq_true rfl) ((p_X_within D v1 (σ.1 4 3) σ rfl).dle (by omega)) ?_
  refine hl_if_eq (tg := 35) d221_11 rfl (fun hc => ?_) (fun hc => ?_)
  · have h := hl_pos hc h
    refine hl_iconst d221_35 ki0 ?_
    obtain ⟨e1, e2⟩ := hl_some2 h
    subst e1; subst e2
    exact hl_zret d221_36 rfl (by decide)
  · have h := hl_neg hc h
    refine hl_iload_n (i := 2) d221_14 rfl rfl ?_
    refine hl_iconst d221_15 ki3 ?_
    refine hl_cSi (D := (D + 1)) (z := y2) (n := 2) (av := [.int v2, .int 3]) (st := []) d221_16 mlX_154 rfl (Nat.le_of_ble_eq_true rfl) (Nat.le_of_ble_eq_true rfl) ((p_X_within D v2 3 σ rfl).dle (by omega)) ?_
    refine hl_if_eq (tg := 35) d221_19 rfl (fun hc => ?_) (fun hc => ?_)
    · have h := hl_pos hc h
      refine hl_iconst d221_35 ki0 ?_
      obtain ⟨e1, e2⟩ := hl_some2 h
      subst e1; subst e2
      exact hl_zret d221_36 rfl (by decide)
    · have h := hl_neg hc h
      refine hl_aload_n (i := 0) d221_22 rfl rfl (by decide) ?_
      refine hl_gr d221_23 gX_28_0 ?_
      refine hl_gr d221_26 gX_176_4 ?_
      refine hl_iload_n (i := 1) d221_29 rfl rfl ?_
      obtain ⟨hb, h⟩ := hl_gd h
      refine hl_iald d221_30 sh7 (hl_b_in hb) ?_
      refine hl_iload_n (i := 2) d221_31 rfl rfl ?_
      refine hl_icmp_ne (tg := 37) d221_32 rfl (fun hc => ?_) (fun hc => ?_)
      · have h := hl_neg hc h
        refine hl_aload_n (i := 0) d221_37 rfl rfl (by decide) ?_
        refine hl_gr d221_38 gX_81_0 ?_
        refine hl_iload_n (i := 1) d221_41 rfl rfl ?_
        refine hl_aload_n (i := 0) d221_42 rfl rfl (by decide) ?_
        refine hl_gr d221_43 gX_28_0 ?_
        refine hl_gr d221_46 gX_176_4 ?_
        refine hl_iload_n (i := 1) d221_49 rfl rfl ?_
        obtain ⟨hb, h⟩ := hl_gd h
        refine hl_iald d221_50 sh7 (hl_b_in hb) ?_
        refine hl_aload_n (i := 0) d221_51 rfl rfl (by decide) ?_
        refine hl_gr d221_52 gX_28_0 ?_
        refine hl_gr d221_55 gX_169_4 ?_
        refine hl_iload_n (i := 1) d221_58 rfl rfl ?_
        obtain ⟨hb, h⟩ := hl_gd h
        refine hl_lald d221_59 sh8 (hl_b_in hb) ?_
        obtain ⟨x1, hx1, h⟩ := hl_bind h
        refine hl_cVv (D := (D + 1)) (z := y217) (n := 3) (av := [.int v1, .int (σ.1 7 v1.toNatClampNeg), .long (σ.2 8 v1.toNatClampNeg)]) (st := []) d221_60 mlX_300 rfl (Nat.le_of_ble_eq_true rfl) (Nat.le_of_ble_eq_true rfl) rc58 ((p_Ac_keep D v1 (σ.1 7 v1.toNatClampNeg) (σ.2 8 v1.toNatClampNeg) σ hx1).dle (by omega)) ?_
        refine hl_aload_n (i := 0) d221_63 rfl rfl (by decide) ?_
        refine hl_gr d221_64 gX_28_0 ?_
        refine hl_gr d221_67 gX_176_4 ?_
        refine hl_iload_n (i := 1) d221_70 rfl rfl ?_
        refine hl_iload_n (i := 2) d221_71 rfl rfl ?_
        obtain ⟨hb, h⟩ := hl_gd h
        refine hl_iast (q := 7) d221_72 sh7 (hl_b_in hb) ?_
        refine hl_iconst d221_73 ki1 ?_
        obtain ⟨e1, e2⟩ := hl_some2 h
        subst e1; subst e2
        exact hl_zret d221_74 rfl (by decide)
      · have h := hl_pos hc h
        refine hl_iconst d221_35 ki0 ?_
        obtain ⟨e1, e2⟩ := hl_some2 h
        subst e1; subst e2
        exact hl_zret d221_36 rfl (by decide)
def f_M_lamp (v1 : Int32) (v2 : Int32) (σ : hl_M) : Option (Int32 × hl_M) :=
  (f_M_isPerson v1 σ).bind fun x1 =>
  if x1 = 0 then
  some ((0, σ)) else
  if (f_M_isIn v2.toInt64 0 2) = 0 then
  some ((0, σ)) else
  (f_M_lampOf v1 σ).bind fun x2 =>
  if x2 = v2 then
  some ((0, σ)) else
  (f_M_keeps σ).bind fun x3 =>
  if hl_b (151 + (15 * v1)) 300 then
  some ((1, hl_si x3 78 (151 + (15 * v1)).toNatClampNeg v2)) else none
set_option maxRecDepth 20000 in
theorem p_M_lamp {X : hl_X} (D : Nat) (v1 : Int32) (v2 : Int32) (σ : hl_M) {r : Int32} {τ : hl_M} (h : f_M_lamp v1 v2 σ = some (r, τ)) : hl_R X (D + 2) y222 0 [(0, .ref 64), (1, .int v1), (2, .int v2)] [] σ (some (.int r)) τ := by
  unfold f_M_lamp at h
  refine hl_aload_n (i := 0) d222_0 rfl rfl (by decide) ?_
  refine hl_iload_n (i := 1) d222_1 rfl rfl ?_
  obtain ⟨x1, hx1, h⟩ := hl_bind h
  refine hl_cVi (D := (D + 1)) (z := y126) (n := 1) (av := [.int v1]) (st := []) d222_2 mlM_394 rfl (Nat.le_of_ble_eq_true rfl) (Nat.le_of_ble_eq_true rfl) rc64 ((p_M_isPerson D v1 σ hx1).dle (by omega)) ?_
  refine hl_if_eq (tg := 29) d222_5 rfl (fun hc => ?_) (fun hc => ?_)
  · have h := hl_pos hc h
    refine hl_iconst d222_29 ki0 ?_
    obtain ⟨e1, e2⟩ := hl_some2 h
    subst e1; subst e2
    exact hl_zret d222_30 rfl (by decide)
  · have h := hl_neg hc h
    refine hl_iload_n (i := 2) d222_8 rfl rfl ?_
    refine hl_i2l d222_9 ?_
    refine hl_lconst (x := 0) d222_10 (by decide) ?_
    refine hl_ldc2 d222_11 wlM_412 ?_
    refine hl_cSi (D := (D + 1)) (z := y70) (n := 3) (av := [.long v2.toInt64, .long 0, .long 2]) (st := []) d222_14 mlM_216 rfl (Nat.le_of_ble_eq_true rfl) (Nat.le_of_ble_eq_true rfl) ((p_M_isIn D v2.toInt64 0 2 σ rfl).dle (by omega)) ?_
    refine hl_if_eq (tg := 29) d222_17 rfl (fun hc => ?_) (fun hc => ?_)
    · have h := hl_pos hc h
      refine hl_iconst d222_29 ki0 ?_
      obtain ⟨e1, e2⟩ := hl_some2 h
      subst e1; subst e2
      exact hl_zret d222_30 rfl (by decide)
    · have h := hl_neg hc h
      refine hl_aload_n (i := 0) d222_20 rfl rfl (by decide) ?_
      refine hl_iload_n (i := 1) d222_21 rfl rfl ?_
      obtain ⟨x2, hx2, h⟩ := hl_bind h
      refine hl_cVi (D := (D + 1)) (z := y110) (n := 1) (av := [.int v1]) (st := []) d222_22 mlM_358 rfl (Nat.le_of_ble_eq_true rfl) (Nat.le_of_ble_eq_true rfl) rc64 ((p_M_lampOf D v1 σ hx2).dle (by omega)) ?_
      refine hl_iload_n (i := 2) d222_25 rfl rfl ?_
      refine hl_icmp_ne (tg := 31) d222_26 rfl (fun hc => ?_) (fun hc => ?_)
      · have h := hl_neg hc h
        refine hl_aload_n (i := 0) d222_31 rfl rfl (by decide) ?_
        obtain ⟨x3, hx3, h⟩ := hl_bind h
        refine hl_cVv (D := (D + 1)) (z := y220) (n := 0) (av := []) (st := []) d222_32 mlM_473 rfl (Nat.le_of_ble_eq_true rfl) (Nat.le_of_ble_eq_true rfl) rc64 ((p_M_keeps D σ hx3).dle (by omega)) ?_
        refine hl_aload_n (i := 0) d222_35 rfl rfl (by decide) ?_
        refine hl_gr d222_36 gM_56_64 ?_
        refine hl_sipush d222_39 ks151 ?_
        refine hl_bipush d222_42 kb15 ?_
        refine hl_iload_n (i := 1) d222_44 rfl rfl ?_
        refine hl_imul d222_45 ?_
        refine hl_iadd d222_46 ?_
        refine hl_iload_n (i := 2) d222_47 rfl rfl ?_
        obtain ⟨hb, h⟩ := hl_gd h
        refine hl_iast (q := 78) d222_48 sh78 (hl_b_in hb) ?_
        refine hl_iconst d222_49 ki1 ?_
        obtain ⟨e1, e2⟩ := hl_some2 h
        subst e1; subst e2
        exact hl_zret d222_50 rfl (by decide)
      · have h := hl_pos hc h
        refine hl_iconst d222_29 ki0 ?_
        obtain ⟨e1, e2⟩ := hl_some2 h
        subst e1; subst e2
        exact hl_zret d222_30 rfl (by decide)
def f_Pt_wayToLearn_j74 (v2 : Int32) (v5 : Int32) (v6 : Int32) (v7 : Int32) (s0 : Int32) (s1 : Int64) (σ : hl_M) : Option ((Int64 × Int32 × Int32) ⊕ (Int64)) :=
  (f_Gr_nextCell v5 v7 σ).bind fun x3 =>
  some (.inl ((s1 ||| (f_X_placedStep s0 v6), x3, v6 + 1)))
def f_Pt_wayToLearn_L47 (v2 : Int32) (σ : hl_M) (s : Int64 × Int32 × Int32) : Option ((Int64 × Int32 × Int32) ⊕ (Int64)) :=
  if v2 ≤ s.2.2 then
  some (.inr s.1) else
  (f_Pt_nearer s.2.1 σ).bind fun x2 =>
  if x2 = ((-1)) then
  f_Pt_wayToLearn_j74 v2 s.2.1 s.2.2 x2 4 s.1 σ else
  f_Pt_wayToLearn_j74 v2 s.2.1 s.2.2 x2 x2 s.1 σ
def f_Pt_wayToLearn (v1 : Int32) (σ : hl_M) : Option (Int64) :=
  if (f_X_within v1 54) = 0 then
  some 0 else
  if hl_b v1 54 then
  (f_Pt_soonestBeats σ).bind fun x1 =>
  if (f_Math_max_III (σ.1 39 v1.toNatClampNeg) x1) < 1 then
  some 0 else
  if (f_Math_max_III (σ.1 39 v1.toNatClampNeg) x1) ≤ 12 then
  (hl_lp (f_Pt_wayToLearn_L47 (f_Math_max_III (σ.1 39 v1.toNatClampNeg) x1) σ) hl_big (((f_Math_max_III (σ.1 39 v1.toNatClampNeg) x1).toInt64, v1, 0))).bind fun x4 =>
  some x4 else
  some 0 else none
set_option maxRecDepth 20000 in
theorem p_Pt_wayToLearn_j74 {X : hl_X} (D : Nat) (v2 : Int32) (v5 : Int32) (v6 : Int32) (v7 : Int32) (s0 : Int32) (s1 : Int64) (σ : hl_M) {o : (Int64 × Int32 × Int32) ⊕ (Int64)} {v : Option Value} (h : f_Pt_wayToLearn_j74 v2 v5 v6 v7 s0 s1 σ = some o) (k1 : ∀ (c0 : Int64) (c1 : Int32) (c2 : Int32), o = .inl ((c0, c1, c2)) → hl_R X (D + 4) y224 47 [(0, .ref 38), (2, .int v2), (3, .long c0), (5, .int c1), (6, .int c2)] [] σ v σ) (k2 : ∀ (a0 : Int64), o = .inr a0 → hl_R X (D + 4) y224 100 [(3, .long a0)] [] σ v σ) : hl_R X (D + 4) y224 74 [(0, .ref 38), (2, .int v2), (5, .int v5), (6, .int v6), (7, .int v7)] [.int s0, .long s1] σ v σ := by
  unfold f_Pt_wayToLearn_j74 at h
  refine hl_iload d224_74 rfl ?_
  refine hl_cNl (D := (D + 3)) (z := y48) (n := 2) (av := [.int s0, .int v6]) (st := [.long s1]) d224_76 mlPt_131 rfl (Nat.le_of_ble_eq_true rfl) (Nat.le_of_ble_eq_true rfl) ((p_X_placedStep D s0 v6 σ rfl).dle (by omega)) ?_
  refine hl_lor d224_79 ?_
  refine hl_lstore_n (i := 3) (ls2 := [(3, .long (s1 ||| (f_X_placedStep s0 v6))), (0, .ref 38), (2, .int v2), (5, .int v5), (6, .int v6), (7, .int v7)]) d224_80 rfl (by decide) rfl ?_
  refine hl_aload_n (i := 0) d224_81 rfl rfl (by decide) ?_
  refine hl_gr d224_82 gPt_38_38 ?_
  refine hl_iload d224_85 rfl ?_
  refine hl_iload d224_87 rfl ?_
  obtain ⟨x3, hx3, h⟩ := hl_bind h
  refine hl_cVi (D := (D + 3)) (z := y60) (n := 2) (av := [.int v5, .int v7]) (st := []) d224_89 mlPt_60 rfl (Nat.le_of_ble_eq_true rfl) (Nat.le_of_ble_eq_true rfl) rc4 ((p_Gr_nextCell D v5 v7 σ hx3).dle (by omega)) ?_
  refine hl_istore (ls2 := [(5, .int x3), (3, .long (s1 ||| (f_X_placedStep s0 v6))), (0, .ref 38), (2, .int v2), (6, .int v6), (7, .int v7)]) d224_92 (by decide) rfl ?_
  refine hl_iinc (ls2 := [(6, .int (v6 + 1)), (5, .int x3), (3, .long (s1 ||| (f_X_placedStep s0 v6))), (0, .ref 38), (2, .int v2), (7, .int v7)]) d224_94 rfl kx1 (by decide) rfl ?_
  refine hl_goto (tg := 47) d224_97 rfl ?_
  have h := Option.some.inj h
  subst h
  exact hl_loc (k1 (s1 ||| (f_X_placedStep s0 v6)) x3 (v6 + 1) rfl) ⟨rfl, rfl, rfl, rfl, rfl, trivial⟩
set_option maxRecDepth 20000 in
theorem p_Pt_wayToLearn_L47 {X : hl_X} (D : Nat) (v2 : Int32) (σ : hl_M) (s : Int64 × Int32 × Int32) {o : (Int64 × Int32 × Int32) ⊕ (Int64)} {v : Option Value} (h : f_Pt_wayToLearn_L47 v2 σ s = some o) (k1 : ∀ (c0 : Int64) (c1 : Int32) (c2 : Int32), o = .inl ((c0, c1, c2)) → hl_R X (D + 4) y224 47 [(0, .ref 38), (2, .int v2), (3, .long c0), (5, .int c1), (6, .int c2)] [] σ v σ) (k2 : ∀ (a0 : Int64), o = .inr a0 → hl_R X (D + 4) y224 100 [(3, .long a0)] [] σ v σ) : hl_R X (D + 4) y224 47 [(0, .ref 38), (2, .int v2), (3, .long s.1), (5, .int s.2.1), (6, .int s.2.2)] [] σ v σ := by
  unfold f_Pt_wayToLearn_L47 at h
  refine hl_iload d224_47 rfl ?_
  refine hl_iload_n (i := 2) d224_49 rfl rfl ?_
  refine hl_icmp_ge (tg := 100) d224_50 rfl (fun hc => ?_) (fun hc => ?_)
  · have h := hl_pos hc h
    have h := Option.some.inj h
    subst h
    exact hl_loc (k2 s.1 rfl) ⟨rfl, trivial⟩
  · have h := hl_neg hc h
    refine hl_aload_n (i := 0) d224_53 rfl rfl (by decide) ?_
    refine hl_iload d224_54 rfl ?_
    obtain ⟨x2, hx2, h⟩ := hl_bind h
    refine hl_cVi (D := (D + 3)) (z := y196) (n := 1) (av := [.int s.2.1]) (st := []) d224_56 mlPt_125 rfl (Nat.le_of_ble_eq_true rfl) (Nat.le_of_ble_eq_true rfl) rc38 ((p_Pt_nearer D s.2.1 σ hx2).dle (by omega)) ?_
    refine hl_istore (ls2 := [(7, .int x2), (0, .ref 38), (2, .int v2), (3, .long s.1), (5, .int s.2.1), (6, .int s.2.2)]) d224_59 (by decide) rfl ?_
    refine hl_lload_n (i := 3) d224_61 rfl rfl ?_
    refine hl_iload d224_62 rfl ?_
    refine hl_iconst d224_64 kim1 ?_
    refine hl_icmp_ne (tg := 72) d224_65 rfl (fun hc => ?_) (fun hc => ?_)
    · have h := hl_neg hc h
      refine hl_iload d224_72 rfl ?_
      exact hl_loc (p_Pt_wayToLearn_j74 D v2 s.2.1 s.2.2 x2 x2 s.1 σ h k1 k2) ⟨rfl, rfl, rfl, rfl, rfl, trivial⟩
    · have h := hl_pos hc h
      refine hl_iconst d224_68 ki4 ?_
      refine hl_goto (tg := 74) d224_69 rfl ?_
      exact hl_loc (p_Pt_wayToLearn_j74 D v2 s.2.1 s.2.2 x2 4 s.1 σ h k1 k2) ⟨rfl, rfl, rfl, rfl, rfl, trivial⟩
set_option maxRecDepth 20000 in
theorem p_Pt_wayToLearn {X : hl_X} (D : Nat) (v1 : Int32) (σ : hl_M) {r : Int64} (h : f_Pt_wayToLearn v1 σ = some r) : hl_R X (D + 4) y224 0 [(0, .ref 38), (1, .int v1)] [] σ (some (.long r)) σ := by
  unfold f_Pt_wayToLearn at h
  refine hl_iload_n (i := 1) d224_0 rfl rfl ?_
  refine hl_bipush d224_1 kb54 ?_
  refine hl_cNi (D := (D + 3)) (z := y2) (n := 2) (av := [.int v1, .int 54]) (st := []) d224_3 mlPt_50 rfl (Nat.le_of_ble_eq_true rfl) (Nat.le_of_ble_eq_true rfl) ((p_X_within D v1 54 σ rfl).dle (by omega)) ?_
  refine hl_if_ne (tg := 11) d224_6 rfl (fun hc => ?_) (fun hc => ?_)
  · have h := hl_neg hc h
    refine hl_aload_n (i := 0) d224_11 rfl rfl (by decide) ?_
    refine hl_gr d224_12 gPt_9_38 ?_
    refine hl_iload_n (i := 1) d224_15 rfl rfl ?_
    obtain ⟨hb, h⟩ := hl_gd h
    refine hl_iald d224_16 sh39 (hl_b_in hb) ?_
    refine hl_aload_n (i := 0) d224_17 rfl rfl (by decide) ?_
    obtain ⟨x1, hx1, h⟩ := hl_bind h
    refine hl_cVi (D := (D + 3)) (z := y191) (n := 0) (av := []) (st := [.int (σ.1 39 v1.toNatClampNeg)]) d224_18 mlPt_128 rfl (Nat.le_of_ble_eq_true rfl) (Nat.le_of_ble_eq_true rfl) rc38 ((p_Pt_soonestBeats D σ hx1).dle (by omega)) ?_
    refine hl_cSi (D := (D + 3)) (z := y45) (n := 2) (av := [.int (σ.1 39 v1.toNatClampNeg), .int x1]) (st := []) d224_21 mlPt_122 rfl (Nat.le_of_ble_eq_true rfl) (Nat.le_of_ble_eq_true rfl) ((p_Math_max_III D (σ.1 39 v1.toNatClampNeg) x1 σ rfl).dle (by omega)) ?_
    refine hl_istore_n (i := 2) (ls2 := [(2, .int (f_Math_max_III (σ.1 39 v1.toNatClampNeg) x1)), (0, .ref 38), (1, .int v1)]) d224_24 rfl (by decide) rfl ?_
    refine hl_iload_n (i := 2) d224_25 rfl rfl ?_
    refine hl_iconst d224_26 ki1 ?_
    refine hl_icmp_lt (tg := 36) d224_27 rfl (fun hc => ?_) (fun hc => ?_)
    · have h := hl_pos hc h
      refine hl_lconst (x := 0) d224_36 (by decide) ?_
      have h := Option.some.inj h
      subst h
      exact hl_lret d224_37 rfl
    · have h := hl_neg hc h
      refine hl_iload_n (i := 2) d224_30 rfl rfl ?_
      refine hl_bipush d224_31 kb12 ?_
      refine hl_icmp_le (tg := 38) d224_33 rfl (fun hc => ?_) (fun hc => ?_)
      · have h := hl_pos hc h
        refine hl_iload_n (i := 2) d224_38 rfl rfl ?_
        refine hl_i2l d224_39 ?_
        refine hl_lstore_n (i := 3) (ls2 := [(3, .long ((f_Math_max_III (σ.1 39 v1.toNatClampNeg) x1).toInt64)), (2, .int (f_Math_max_III (σ.1 39 v1.toNatClampNeg) x1)), (0, .ref 38), (1, .int v1)]) d224_40 rfl (by decide) rfl ?_
        refine hl_iload_n (i := 1) d224_41 rfl rfl ?_
        refine hl_istore (ls2 := [(5, .int v1), (3, .long ((f_Math_max_III (σ.1 39 v1.toNatClampNeg) x1).toInt64)), (2, .int (f_Math_max_III (σ.1 39 v1.toNatClampNeg) x1)), (0, .ref 38), (1, .int v1)]) d224_42 (by decide) rfl ?_
        refine hl_iconst d224_44 ki0 ?_
        refine hl_istore (ls2 := [(6, .int 0), (5, .int v1), (3, .long ((f_Math_max_III (σ.1 39 v1.toNatClampNeg) x1).toInt64)), (2, .int (f_Math_max_III (σ.1 39 v1.toNatClampNeg) x1)), (0, .ref 38), (1, .int v1)]) d224_45 (by decide) rfl ?_
        obtain ⟨x4, hx4, h⟩ := hl_bind h
        refine hl_R.loc (ls' := [(0, .ref 38), (2, .int (f_Math_max_III (σ.1 39 v1.toNatClampNeg) x1)), (3, .long ((f_Math_max_III (σ.1 39 v1.toNatClampNeg) x1).toInt64)), (5, .int v1), (6, .int 0)]) ⟨rfl, rfl, rfl, rfl, rfl, trivial⟩ ?_
        refine hl_lp_run3 (P := fun (c0 : Int64) (c1 : Int32) (c2 : Int32) => hl_R X (D + 4) y224 47 [(0, .ref 38), (2, .int (f_Math_max_III (σ.1 39 v1.toNatClampNeg) x1)), (3, .long c0), (5, .int c1), (6, .int c2)] [] σ (some (.long r)) σ) (fun x : Int64 => hl_R X (D + 4) y224 100 [(3, .long x)] [] σ (some (.long r)) σ) (fun c0 c1 c2 o ho h1 h2 => p_Pt_wayToLearn_L47 D (f_Math_max_III (σ.1 39 v1.toNatClampNeg) x1) σ (c0, c1, c2) ho h1 (fun a0 e => h2 a0 e)) hl_big ((f_Math_max_III (σ.1 39 v1.toNatClampNeg) x1).toInt64) v1 0 x4 hx4 ?_
        refine hl_lload_n (i := 3) d224_100 rfl rfl ?_
        have h := Option.some.inj h
        subst h
        exact hl_lret d224_101 rfl
      · have h := hl_neg hc h
        refine hl_lconst (x := 0) d224_36 (by decide) ?_
        have h := Option.some.inj h
        subst h
        exact hl_lret d224_37 rfl
  · have h := hl_pos hc h
    refine hl_lconst (x := 0) d224_9 (by decide) ?_
    have h := Option.some.inj h
    subst h
    exact hl_lret d224_10 rfl
