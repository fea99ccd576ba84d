def f_X_person (v1 : Int32) (v2 : Int32) (σ : hl_M) : Option (Int32 × hl_M) :=
  if (f_X_within v1 (σ.1 4 3)) = 0 then
  some (((-1), σ)) else
  if hl_b v1 10 then
  if v2 = 0 then
  if hl_b v1 10 then
  some ((σ.1 6 v1.toNatClampNeg, σ)) else none else
  if v2 = 1 then
  if hl_b v1 10 then
  some ((σ.1 7 v1.toNatClampNeg, σ)) else none else
  if v2 = 2 then
  some ((f_X_countOf (σ.2 8 v1.toNatClampNeg), σ)) else
  if v2 = 3 then
  (f_X_rhymeOf (σ.2 8 v1.toNatClampNeg)).bind fun x1 =>
  some ((f_X_countOf x1, σ)) else
  if v2 = 4 then
  (f_X_lostBy v1 σ).bind fun x2 =>
  some ((x2.1, x2.2)) else
  if v2 < 10 then
  some (((-1), σ)) else
  if (f_X_countOf (σ.2 8 v1.toNatClampNeg)) ≤ (v2 - 10) then
  some (((-1), σ)) else
  some ((f_X_stepIn (σ.2 8 v1.toNatClampNeg) (v2 - 10), σ)) else none
set_option maxRecDepth 20000 in
theorem p_X_person {X : hl_X} (D : Nat) (v1 : Int32) (v2 : Int32) (σ : hl_M) {r : Int32} {τ : hl_M} (h : f_X_person v1 v2 σ = some (r, τ)) : hl_R X (D + 5) y121 0 [(0, .ref 0), (1, .int v1), (2, .int v2)] [] σ (some (.int r)) τ := by
  unfold f_X_person at h
  refine hl_iload_n (i := 1) d121_0 rfl rfl ?_
  refine hl_aload_n (i := 0) d121_1 rfl rfl (by decide) ?_
  refine hl_gr d121_2 gX_28_0 ?_
  refine hl_gi d121_5 gX_139_4 ?_
  refine hl_cSi (D := (D + 4)) (z := y2) (n := 2) (av := [.int v1, .int (σ.1 4 3)]) (st := []) d121_8 mlX_154 rfl (Nat.le_of_ble_eq_true rfl) (Nat.le_of_ble_eq_true rfl) ((p_X_within D v1 (σ.1 4 3) σ rfl).dle (by omega)) ?_
  refine hl_if_ne (tg := 16) d121_11 rfl (fun hc => ?_) (fun hc => ?_)
  · have h := hl_neg hc h
    refine hl_aload_n (i := 0) d121_16 rfl rfl (by decide) ?_
    refine hl_gr d121_17 gX_28_0 ?_
    refine hl_gr d121_20 gX_169_4 ?_
    refine hl_iload_n (i := 1) d121_23 rfl rfl ?_
    obtain ⟨hb, h⟩ := hl_gd h
    refine hl_lald d121_24 sh8 (hl_b_in hb) ?_
    refine hl_lstore_n (i := 3) (ls2 := [(3, .long (σ.2 8 v1.toNatClampNeg)), (0, .ref 0), (1, .int v1), (2, .int v2)]) d121_25 rfl (by decide) rfl ?_
    refine hl_iload_n (i := 2) d121_26 rfl rfl ?_
    by_cases hc27_0 : v2 = 0
    · have h := hl_pos hc27_0 h
      refine hl_tabIn (off := 33) (tg := 60) d121_27 (by rw [hc27_0]; decide) (by rw [hc27_0]; decide) (by rw [hc27_0]; rfl) rfl ?_
      refine hl_aload_n (i := 0) d121_60 rfl rfl (by decide) ?_
      refine hl_gr d121_61 gX_28_0 ?_
      refine hl_gr d121_64 gX_173_4 ?_
      refine hl_iload_n (i := 1) d121_67 rfl rfl ?_
      obtain ⟨hb, h⟩ := hl_gd h
      refine hl_iald d121_68 sh6 (hl_b_in hb) ?_
      obtain ⟨e1, e2⟩ := hl_some2 h
      subst e1; subst e2
      exact hl_iret d121_69 rfl
    have h := hl_neg hc27_0 h
    by_cases hc27_1 : v2 = 1
    · have h := hl_pos hc27_1 h
      refine hl_tabIn (off := 43) (tg := 70) d121_27 (by rw [hc27_1]; decide) (by rw [hc27_1]; decide) (by rw [hc27_1]; rfl) rfl ?_
      refine hl_aload_n (i := 0) d121_70 rfl rfl (by decide) ?_
      refine hl_gr d121_71 gX_28_0 ?_
      refine hl_gr d121_74 gX_176_4 ?_
      refine hl_iload_n (i := 1) d121_77 rfl rfl ?_
      obtain ⟨hb, h⟩ := hl_gd h
      refine hl_iald d121_78 sh7 (hl_b_in hb) ?_
      obtain ⟨e1, e2⟩ := hl_some2 h
      subst e1; subst e2
      exact hl_iret d121_79 rfl
    have h := hl_neg hc27_1 h
    by_cases hc27_2 : v2 = 2
    · have h := hl_pos hc27_2 h
      refine hl_tabIn (off := 53) (tg := 80) d121_27 (by rw [hc27_2]; decide) (by rw [hc27_2]; decide) (by rw [hc27_2]; rfl) rfl ?_
      refine hl_lload_n (i := 3) d121_80 rfl rfl ?_
      refine hl_cSi (D := (D + 4)) (z := y58) (n := 1) (av := [.long (σ.2 8 v1.toNatClampNeg)]) (st := []) d121_81 mlX_179 rfl (Nat.le_of_ble_eq_true rfl) (Nat.le_of_ble_eq_true rfl) ((p_X_countOf D (σ.2 8 v1.toNatClampNeg) σ rfl).dle (by omega)) ?_
      obtain ⟨e1, e2⟩ := hl_some2 h
      subst e1; subst e2
      exact hl_iret d121_84 rfl
    have h := hl_neg hc27_2 h
    by_cases hc27_3 : v2 = 3
    · have h := hl_pos hc27_3 h
      refine hl_tabIn (off := 58) (tg := 85) d121_27 (by rw [hc27_3]; decide) (by rw [hc27_3]; decide) (by rw [hc27_3]; rfl) rfl ?_
      refine hl_lload_n (i := 3) d121_85 rfl rfl ?_
      obtain ⟨x1, hx1, h⟩ := hl_bind h
      refine hl_cSl (D := (D + 4)) (z := y122) (n := 1) (av := [.long (σ.2 8 v1.toNatClampNeg)]) (st := []) d121_86 mlX_182 rfl (Nat.le_of_ble_eq_true rfl) (Nat.le_of_ble_eq_true rfl) ((p_X_rhymeOf D (σ.2 8 v1.toNatClampNeg) σ hx1).dle (by omega)) ?_
      refine hl_cSi (D := (D + 4)) (z := y58) (n := 1) (av := [.long x1]) (st := []) d121_89 mlX_179 rfl (Nat.le_of_ble_eq_true rfl) (Nat.le_of_ble_eq_true rfl) ((p_X_countOf D x1 σ rfl).dle (by omega)) ?_
      obtain ⟨e1, e2⟩ := hl_some2 h
      subst e1; subst e2
      exact hl_iret d121_92 rfl
    have h := hl_neg hc27_3 h
    by_cases hc27_4 : v2 = 4
    · have h := hl_pos hc27_4 h
      refine hl_tabIn (off := 66) (tg := 93) d121_27 (by rw [hc27_4]; decide) (by rw [hc27_4]; decide) (by rw [hc27_4]; rfl) rfl ?_
      refine hl_aload_n (i := 0) d121_93 rfl rfl (by decide) ?_
      refine hl_iload_n (i := 1) d121_94 rfl rfl ?_
      obtain ⟨x2, hx2, h⟩ := hl_bind h
      refine hl_cVi (D := (D + 4)) (z := y124) (n := 1) (av := [.int v1]) (st := []) d121_95 mlX_186 rfl (Nat.le_of_ble_eq_true rfl) (Nat.le_of_ble_eq_true rfl) rc0 ((p_X_lostBy D v1 σ hx2).dle (by omega)) ?_
      obtain ⟨e1, e2⟩ := hl_some2 h
      subst e1; subst e2
      exact hl_iret d121_98 rfl
    have h := hl_neg hc27_4 h
    refine hl_tabD (tg := 99) d121_27 (fun k g1 g2 e => by
          rcases (by omega : k = 0 ∨ k = 1 ∨ k = 2 ∨ k = 3 ∨ k = 4) with rfl | rfl | rfl | rfl | rfl
          · exact hc27_0 (Int32.toInt_inj.mp (e.trans (by decide)))
          · exact hc27_1 (Int32.toInt_inj.mp (e.trans (by decide)))
          · exact hc27_2 (Int32.toInt_inj.mp (e.trans (by decide)))
          · exact hc27_3 (Int32.toInt_inj.mp (e.trans (by decide)))
          · exact hc27_4 (Int32.toInt_inj.mp (e.trans (by decide)))
        ) rfl ?_
    refine hl_iload_n (i := 2) d121_99 rfl rfl ?_
    refine hl_bipush d121_100 kb10 ?_
    refine hl_icmp_lt (tg := 127) d121_102 rfl (fun hc => ?_) (fun hc => ?_)
    · have h := hl_pos hc h
      refine hl_iconst d121_127 kim1 ?_
      obtain ⟨e1, e2⟩ := hl_some2 h
      subst e1; subst e2
      exact hl_iret d121_128 rfl
    · have h := hl_neg hc h
      refine hl_iload_n (i := 2) d121_105 rfl rfl ?_
      refine hl_bipush d121_106 kb10 ?_
      refine hl_isub d121_108 ?_
      refine hl_lload_n (i := 3) d121_109 rfl rfl ?_
      refine hl_cSi (D := (D + 4)) (z := y58) (n := 1) (av := [.long (σ.2 8 v1.toNatClampNeg)]) (st := [.int (v2 - 10)]) d121_110 mlX_179 rfl (Nat.le_of_ble_eq_true rfl) (Nat.le_of_ble_eq_true rfl) ((p_X_countOf D (σ.2 8 v1.toNatClampNeg) σ rfl).dle (by omega)) ?_
      refine hl_icmp_ge (tg := 127) d121_113 rfl (fun hc => ?_) (fun hc => ?_)
      · have h := hl_pos hc h
        refine hl_iconst d121_127 kim1 ?_
        obtain ⟨e1, e2⟩ := hl_some2 h
        subst e1; subst e2
        exact hl_iret d121_128 rfl
      · have h := hl_neg hc h
        refine hl_lload_n (i := 3) d121_116 rfl rfl ?_
        refine hl_iload_n (i := 2) d121_117 rfl rfl ?_
        refine hl_bipush d121_118 kb10 ?_
        refine hl_isub d121_120 ?_
        refine hl_cSi (D := (D + 4)) (z := y59) (n := 2) (av := [.long (σ.2 8 v1.toNatClampNeg), .int (v2 - 10)]) (st := []) d121_121 mlX_190 rfl (Nat.le_of_ble_eq_true rfl) (Nat.le_of_ble_eq_true rfl) ((p_X_stepIn D (σ.2 8 v1.toNatClampNeg) (v2 - 10) σ rfl).dle (by omega)) ?_
        refine hl_goto (tg := 128) d121_124 rfl ?_
        obtain ⟨e1, e2⟩ := hl_some2 h
        subst e1; subst e2
        exact hl_iret d121_128 rfl
  · have h := hl_pos hc h
    refine hl_iconst d121_14 kim1 ?_
    obtain ⟨e1, e2⟩ := hl_some2 h
    subst e1; subst e2
    exact hl_iret d121_15 rfl
def f_M_isPerson (v1 : Int32) (σ : hl_M) : Option (Int32) :=
  (f_M_personMany σ).bind fun x1 =>
  some (vp_nar .boolean (f_M_isIn v1.toInt64 0 ((x1 - 1).toInt64)))
set_option maxRecDepth 20000 in
theorem p_M_isPerson {X : hl_X} (D : Nat) (v1 : Int32) (σ : hl_M) {r : Int32} (h : f_M_isPerson v1 σ = some r) : hl_R X (D + 1) y126 0 [(0, .ref 64), (1, .int v1)] [] σ (some (.int r)) σ := by
  unfold f_M_isPerson at h
  refine hl_iload_n (i := 1) d126_0 rfl rfl ?_
  refine hl_i2l d126_1 ?_
  refine hl_lconst (x := 0) d126_2 (by decide) ?_
  refine hl_aload_n (i := 0) d126_3 rfl rfl (by decide) ?_
  obtain ⟨x1, hx1, h⟩ := hl_bind h
  refine hl_cVi (D := D) (z := y93) (n := 0) (av := []) (st := [.long 0, .long v1.toInt64]) d126_4 mlM_335 rfl (Nat.le_of_ble_eq_true rfl) (Nat.le_of_ble_eq_true rfl) rc64 ((p_M_personMany D σ hx1).dle (by omega)) ?_
  refine hl_iconst d126_7 ki1 ?_
  refine hl_isub d126_8 ?_
  refine hl_i2l d126_9 ?_
  refine hl_cSi (D := D) (z := y70) (n := 3) (av := [.long v1.toInt64, .long 0, .long ((x1 - 1).toInt64)]) (st := []) d126_10 mlM_216 rfl (Nat.le_of_ble_eq_true rfl) (Nat.le_of_ble_eq_true rfl) ((p_M_isIn D v1.toInt64 0 ((x1 - 1).toInt64) σ rfl).dle (by omega)) ?_
  have h := Option.some.inj h
  subst h
  exact hl_zret d126_13 rfl rfl
def f_M_isRhyme_L11 (v1 : Int32) (v2 : Int32) (v3 : Int32) (σ : hl_M) (s : Int32) : Option ((Int32) ⊕ ((Unit) ⊕ (Int32))) :=
  if v3 ≤ s then
  some (.inr (.inl (()))) else
  (f_M_stepIn v1 (s + 1) σ).bind fun x1 =>
  (f_M_stepIn v1 ((s + 1) - v2) σ).bind fun x2 =>
  if x1 = x2 then
  some (.inl (s + 1)) else
  some (.inr (.inr (0)))
def f_M_isRhyme (v1 : Int32) (v2 : Int32) (v3 : Int32) (σ : hl_M) : Option (Int32) :=
  if v2 = 0 then none else
  if (v3 - v3 / v2 * v2) = 0 then
  (hl_lp (f_M_isRhyme_L11 v1 v2 v3 σ) hl_big v2).bind fun x3 =>
  Sum.elim (fun x4 =>
  some 1) (fun x5 =>
  some x5) x3 else
  some 0
set_option maxRecDepth 20000 in
theorem p_M_isRhyme_L11 {X : hl_X} (D : Nat) (v1 : Int32) (v2 : Int32) (v3 : Int32) (σ : hl_M) (s : Int32) {o : (Int32) ⊕ ((Unit) ⊕ (Int32))} {v : Option Value} (h : f_M_isRhyme_L11 v1 v2 v3 σ s = some o) (k1 : ∀ (c0 : Int32), o = .inl c0 → hl_R X (D + 2) y128 11 [(0, .ref 64), (1, .int v1), (2, .int v2), (3, .int v3), (4, .int c0)] [] σ v σ) (k2 : o = .inr (.inl ()) → hl_R X (D + 2) y128 48 [] [] σ v σ) (kr : ∀ (a : Int32), o = .inr (.inr (a)) → v = some (.int a)) : hl_R X (D + 2) y128 11 [(0, .ref 64), (1, .int v1), (2, .int v2), (3, .int v3), (4, .int s)] [] σ v σ := by
  unfold f_M_isRhyme_L11 at h
  refine hl_iload d128_11 rfl ?_
  refine hl_iload_n (i := 3) d128_13 rfl rfl ?_
  refine hl_icmp_ge (tg := 48) d128_14 rfl (fun hc => ?_) (fun hc => ?_)
  · have h := hl_pos hc h
    have h := Option.some.inj h
    subst h
    exact hl_loc (k2 rfl) trivial
  · have h := hl_neg hc h
    refine hl_aload_n (i := 0) d128_17 rfl rfl (by decide) ?_
    refine hl_iload_n (i := 1) d128_18 rfl rfl ?_
    refine hl_iload d128_19 rfl ?_
    refine hl_iconst d128_21 ki1 ?_
    refine hl_iadd d128_22 ?_
    obtain ⟨x1, hx1, h⟩ := hl_bind h
    refine hl_cVi (D := (D + 1)) (z := y94) (n := 2) (av := [.int v1, .int (s + 1)]) (st := []) d128_23 mlM_346 rfl (Nat.le_of_ble_eq_true rfl) (Nat.le_of_ble_eq_true rfl) rc64 ((p_M_stepIn D v1 (s + 1) σ hx1).dle (by omega)) ?_
    refine hl_aload_n (i := 0) d128_26 rfl rfl (by decide) ?_
    refine hl_iload_n (i := 1) d128_27 rfl rfl ?_
    refine hl_iload d128_28 rfl ?_
    refine hl_iconst d128_30 ki1 ?_
    refine hl_iadd d128_31 ?_
    refine hl_iload_n (i := 2) d128_32 rfl rfl ?_
    refine hl_isub d128_33 ?_
    obtain ⟨x2, hx2, h⟩ := hl_bind h
    refine hl_cVi (D := (D + 1)) (z := y94) (n := 2) (av := [.int v1, .int ((s + 1) - v2)]) (st := [.int x1]) d128_34 mlM_346 rfl (Nat.le_of_ble_eq_true rfl) (Nat.le_of_ble_eq_true rfl) rc64 ((p_M_stepIn D v1 ((s + 1) - v2) σ hx2).dle (by omega)) ?_
    refine hl_icmp_eq (tg := 42) d128_37 rfl (fun hc => ?_) (fun hc => ?_)
    · have h := hl_pos hc h
      refine hl_iinc (ls2 := [(4, .int (s + 1)), (0, .ref 64), (1, .int v1), (2, .int v2), (3, .int v3)]) d128_42 rfl kx1 (by decide) rfl ?_
      refine hl_goto (tg := 11) d128_45 rfl ?_
      have h := Option.some.inj h
      subst h
      exact hl_loc (k1 (s + 1) rfl) ⟨rfl, rfl, rfl, rfl, rfl, trivial⟩
    · have h := hl_neg hc h
      refine hl_iconst d128_40 ki0 ?_
      have h := Option.some.inj h
      subst h
      have e1 := kr 0 rfl
      subst e1
      exact hl_zret d128_41 rfl (by decide)
set_option maxRecDepth 20000 in
theorem p_M_isRhyme {X : hl_X} (D : Nat) (v1 : Int32) (v2 : Int32) (v3 : Int32) (σ : hl_M) {r : Int32} (h : f_M_isRhyme v1 v2 v3 σ = some r) : hl_R X (D + 2) y128 0 [(0, .ref 64), (1, .int v1), (2, .int v2), (3, .int v3)] [] σ (some (.int r)) σ := by
  unfold f_M_isRhyme at h
  refine hl_iload_n (i := 3) d128_0 rfl rfl ?_
  refine hl_iload_n (i := 2) d128_1 rfl rfl ?_
  obtain ⟨hb, h⟩ := hl_gn h
  refine hl_irem d128_2 hb ?_
  refine hl_if_eq (tg := 8) d128_3 rfl (fun hc => ?_) (fun hc => ?_)
  · have h := hl_pos hc h
    refine hl_iload_n (i := 2) d128_8 rfl rfl ?_
    refine hl_istore (ls2 := [(4, .int v2), (0, .ref 64), (1, .int v1), (2, .int v2), (3, .int v3)]) d128_9 (by decide) rfl ?_
    obtain ⟨x3, hx3, h⟩ := hl_bind h
    refine hl_R.loc (ls' := [(0, .ref 64), (1, .int v1), (2, .int v2), (3, .int v3), (4, .int v2)]) ⟨rfl, rfl, rfl, rfl, rfl, trivial⟩ ?_
    refine hl_lp_run1 (P := fun (c0 : Int32) => hl_R X (D + 2) y128 11 [(0, .ref 64), (1, .int v1), (2, .int v2), (3, .int v3), (4, .int c0)] [] σ (some (.int r)) σ) (Sum.elim (fun x : Unit => hl_R X (D + 2) y128 48 [] [] σ (some (.int r)) σ) (fun a : Int32 => ((some (.int r)) : Option Value) = some (.int a))) (fun c0 o ho h1 h2 => p_M_isRhyme_L11 D v1 v2 v3 σ c0 ho h1 (fun e => h2 (.inl ()) e) (fun a e => h2 (.inr (a)) e)) hl_big v2 x3 hx3 ?_
    rcases hl_sum h with ⟨x4, e_x4, h⟩ | ⟨x5, e_x5, h⟩
    · subst e_x4
      refine hl_iconst d128_48 ki1 ?_
      have h := Option.some.inj h
      subst h
      exact hl_zret d128_49 rfl (by decide)
    · subst e_x5
      cases h
      rfl
  · have h := hl_neg hc h
    refine hl_iconst d128_6 ki0 ?_
    have h := Option.some.inj h
    subst h
    exact hl_zret d128_7 rfl (by decide)
def f_M_rhymeOf_L8 (v1 : Int32) (v2 : Int32) (σ : hl_M) (s : Int32) : Option ((Int32) ⊕ (Int32)) :=
  (f_M_isRhyme v1 s v2 σ).bind fun x2 =>
  if x2 = 0 then
  some (.inl (s + 1)) else
  some (.inr s)
def f_M_rhymeOf (v1 : Int32) (σ : hl_M) : Option (Int32) :=
  (f_M_stepMany v1 σ).bind fun x1 =>
  (hl_lp (f_M_rhymeOf_L8 v1 x1 σ) hl_big 1).bind fun x3 =>
  some x3
set_option maxRecDepth 20000 in
theorem p_M_rhymeOf_L8 {X : hl_X} (D : Nat) (v1 : Int32) (v2 : Int32) (σ : hl_M) (s : Int32) {o : (Int32) ⊕ (Int32)} {v : Option Value} (h : f_M_rhymeOf_L8 v1 v2 σ s = some o) (k1 : ∀ (c0 : Int32), o = .inl c0 → hl_R X (D + 3) y127 8 [(0, .ref 64), (1, .int v1), (2, .int v2), (3, .int c0)] [] σ v σ) (k2 : ∀ (a0 : Int32), o = .inr a0 → hl_R X (D + 3) y127 24 [(3, .int a0)] [] σ v σ) : hl_R X (D + 3) y127 8 [(0, .ref 64), (1, .int v1), (2, .int v2), (3, .int s)] [] σ v σ := by
  unfold f_M_rhymeOf_L8 at h
  refine hl_aload_n (i := 0) d127_8 rfl rfl (by decide) ?_
  refine hl_iload_n (i := 1) d127_9 rfl rfl ?_
  refine hl_iload_n (i := 3) d127_10 rfl rfl ?_
  refine hl_iload_n (i := 2) d127_11 rfl rfl ?_
  obtain ⟨x2, hx2, h⟩ := hl_bind h
  refine hl_cVi (D := (D + 2)) (z := y128) (n := 3) (av := [.int v1, .int s, .int v2]) (st := []) d127_12 mlM_391 rfl (Nat.le_of_ble_eq_true rfl) (Nat.le_of_ble_eq_true rfl) rc64 ((p_M_isRhyme D v1 s v2 σ hx2).dle (by omega)) ?_
  refine hl_if_ne (tg := 24) d127_15 rfl (fun hc => ?_) (fun hc => ?_)
  · have h := hl_neg hc h
    have h := Option.some.inj h
    subst h
    exact hl_loc (k2 s rfl) ⟨rfl, trivial⟩
  · have h := hl_pos hc h
    refine hl_iinc (ls2 := [(3, .int (s + 1)), (0, .ref 64), (1, .int v1), (2, .int v2)]) d127_18 rfl kx1 (by decide) rfl ?_
    refine hl_goto (tg := 8) d127_21 rfl ?_
    have h := Option.some.inj h
    subst h
    exact hl_loc (k1 (s + 1) rfl) ⟨rfl, rfl, rfl, rfl, trivial⟩
set_option maxRecDepth 20000 in
theorem p_M_rhymeOf {X : hl_X} (D : Nat) (v1 : Int32) (σ : hl_M) {r : Int32} (h : f_M_rhymeOf v1 σ = some r) : hl_R X (D + 3) y127 0 [(0, .ref 64), (1, .int v1)] [] σ (some (.int r)) σ := by
  unfold f_M_rhymeOf at h
  refine hl_aload_n (i := 0) d127_0 rfl rfl (by decide) ?_
  refine hl_iload_n (i := 1) d127_1 rfl rfl ?_
  obtain ⟨x1, hx1, h⟩ := hl_bind h
  refine hl_cVi (D := (D + 2)) (z := y95) (n := 1) (av := [.int v1]) (st := []) d127_2 mlM_343 rfl (Nat.le_of_ble_eq_true rfl) (Nat.le_of_ble_eq_true rfl) rc64 ((p_M_stepMany D v1 σ hx1).dle (by omega)) ?_
  refine hl_istore_n (i := 2) (ls2 := [(2, .int x1), (0, .ref 64), (1, .int v1)]) d127_5 rfl (by decide) rfl ?_
  refine hl_iconst d127_6 ki1 ?_
  refine hl_istore_n (i := 3) (ls2 := [(3, .int 1), (2, .int x1), (0, .ref 64), (1, .int v1)]) d127_7 rfl (by decide) rfl ?_
  obtain ⟨x3, hx3, h⟩ := hl_bind h
  refine hl_R.loc (ls' := [(0, .ref 64), (1, .int v1), (2, .int x1), (3, .int 1)]) ⟨rfl, rfl, rfl, rfl, trivial⟩ ?_
  refine hl_lp_run1 (P := fun (c0 : Int32) => hl_R X (D + 3) y127 8 [(0, .ref 64), (1, .int v1), (2, .int x1), (3, .int c0)] [] σ (some (.int r)) σ) (fun x : Int32 => hl_R X (D + 3) y127 24 [(3, .int x)] [] σ (some (.int r)) σ) (fun c0 o ho h1 h2 => p_M_rhymeOf_L8 D v1 x1 σ c0 ho h1 (fun a0 e => h2 a0 e)) hl_big 1 x3 hx3 ?_
  refine hl_iload_n (i := 3) d127_24 rfl rfl ?_
  have h := Option.some.inj h
  subst h
  exact hl_iret d127_25 rfl
def f_M_lostBy_j39 (v1 : Int32) (v2 : Int32) (v3 : Int32) (σ : hl_M) : Option ((Int32 × Int32 × hl_M) ⊕ (Int32 × hl_M)) :=
  some (.inl ((v2, v3 + 1, hl_si σ 64 35 ((-1)))))
def f_M_lostBy_L4 (v1 : Int32) (s : Int32 × Int32 × hl_M) : Option ((Int32 × Int32 × hl_M) ⊕ (Int32 × hl_M)) :=
  (f_M_hymnMany s.2.2).bind fun x1 =>
  if x1 ≤ s.2.1 then
  some (.inr (((s.1, s.2.2)))) else
  (f_M_isSung s.2.1 s.2.2).bind fun x2 =>
  if x2 = 0 then
  some (.inl ((s.1, s.2.1 + 1, s.2.2))) else
  (f_M_isSung s.2.1 (hl_si s.2.2 64 35 v1)).bind fun x3 =>
  if x3 = 0 then
  f_M_lostBy_j39 v1 (s.1 + 1) s.2.1 (hl_si s.2.2 64 35 v1) else
  f_M_lostBy_j39 v1 s.1 s.2.1 (hl_si s.2.2 64 35 v1)
def f_M_lostBy (v1 : Int32) (σ : hl_M) : Option (Int32 × hl_M) :=
  (hl_lp (f_M_lostBy_L4 v1) hl_big ((0, 0, σ))).bind fun x4 =>
  some ((x4.1, x4.2))
set_option maxRecDepth 20000 in
theorem p_M_lostBy_j39 {X : hl_X} (D : Nat) (v1 : Int32) (v2 : Int32) (v3 : Int32) (σ : hl_M) {o : (Int32 × Int32 × hl_M) ⊕ (Int32 × hl_M)} {v : Option Value} {τ : hl_M} (h : f_M_lostBy_j39 v1 v2 v3 σ = some o) (k1 : ∀ (c0 : Int32) (c1 : Int32) (c2 : hl_M), o = .inl ((c0, c1, c2)) → hl_R X (D + 4) y129 4 [(0, .ref 64), (1, .int v1), (2, .int c0), (3, .int c1)] [] c2 v τ) (k2 : ∀ (a0 : Int32) (a1 : hl_M), o = .inr ((a0, a1)) → hl_R X (D + 4) y129 50 [(2, .int a0)] [] a1 v τ) : hl_R X (D + 4) y129 39 [(0, .ref 64), (1, .int v1), (2, .int v2), (3, .int v3)] [] σ v τ := by
  unfold f_M_lostBy_j39 at h
  refine hl_aload_n (i := 0) d129_39 rfl rfl (by decide) ?_
  refine hl_iconst d129_40 kim1 ?_
  refine hl_pi d129_41 qM_74_64 ?_
  refine hl_iinc (ls2 := [(3, .int (v3 + 1)), (0, .ref 64), (1, .int v1), (2, .int v2)]) d129_44 rfl kx1 (by decide) rfl ?_
  refine hl_goto (tg := 4) d129_47 rfl ?_
  have h := Option.some.inj h
  subst h
  exact hl_loc (k1 v2 (v3 + 1) (hl_si σ 64 35 ((-1))) rfl) ⟨rfl, rfl, rfl, rfl, trivial⟩
set_option maxRecDepth 20000 in
theorem p_M_lostBy_L4 {X : hl_X} (D : Nat) (v1 : Int32) (s : Int32 × Int32 × hl_M) {o : (Int32 × Int32 × hl_M) ⊕ (Int32 × hl_M)} {v : Option Value} {τ : hl_M} (h : f_M_lostBy_L4 v1 s = some o) (k1 : ∀ (c0 : Int32) (c1 : Int32) (c2 : hl_M), o = .inl ((c0, c1, c2)) → hl_R X (D + 4) y129 4 [(0, .ref 64), (1, .int v1), (2, .int c0), (3, .int c1)] [] c2 v τ) (k2 : ∀ (a0 : Int32) (a1 : hl_M), o = .inr ((a0, a1)) → hl_R X (D + 4) y129 50 [(2, .int a0)] [] a1 v τ) : hl_R X (D + 4) y129 4 [(0, .ref 64), (1, .int v1), (2, .int s.1), (3, .int s.2.1)] [] s.2.2 v τ := by
  unfold f_M_lostBy_L4 at h
  refine hl_iload_n (i := 3) d129_4 rfl rfl ?_
  refine hl_aload_n (i := 0) d129_5 rfl rfl (by decide) ?_
  obtain ⟨x1, hx1, h⟩ := hl_bind h
  refine hl_cVi (D := (D + 3)) (z := y112) (n := 0) (av := []) (st := [.int s.2.1]) d129_6 mlM_374 rfl (Nat.le_of_ble_eq_true rfl) (Nat.le_of_ble_eq_true rfl) rc64 ((p_M_hymnMany D s.2.2 hx1).dle (by omega)) ?_
  refine hl_icmp_ge (tg := 50) d129_9 rfl (fun hc => ?_) (fun hc => ?_)
  · have h := hl_pos hc h
    have h := Option.some.inj h
    subst h
    exact hl_loc (k2 s.1 s.2.2 rfl) ⟨rfl, trivial⟩
  · have h := hl_neg hc h
    refine hl_aload_n (i := 0) d129_12 rfl rfl (by decide) ?_
    refine hl_iload_n (i := 3) d129_13 rfl rfl ?_
    obtain ⟨x2, hx2, h⟩ := hl_bind h
    refine hl_cVi (D := (D + 3)) (z := y114) (n := 1) (av := [.int s.2.1]) (st := []) d129_14 mlM_377 rfl (Nat.le_of_ble_eq_true rfl) (Nat.le_of_ble_eq_true rfl) rc64 ((p_M_isSung D s.2.1 s.2.2 hx2).dle (by omega)) ?_
    refine hl_if_ne (tg := 23) d129_17 rfl (fun hc => ?_) (fun hc => ?_)
    · have h := hl_neg hc h
      refine hl_aload_n (i := 0) d129_23 rfl rfl (by decide) ?_
      refine hl_iload_n (i := 1) d129_24 rfl rfl ?_
      refine hl_pi d129_25 qM_74_64 ?_
      refine hl_aload_n (i := 0) d129_28 rfl rfl (by decide) ?_
      refine hl_iload_n (i := 3) d129_29 rfl rfl ?_
      obtain ⟨x3, hx3, h⟩ := hl_bind h
      refine hl_cVi (D := (D + 3)) (z := y114) (n := 1) (av := [.int s.2.1]) (st := []) d129_30 mlM_377 rfl (Nat.le_of_ble_eq_true rfl) (Nat.le_of_ble_eq_true rfl) rc64 ((p_M_isSung D s.2.1 (hl_si s.2.2 64 35 v1) hx3).dle (by omega)) ?_
      refine hl_if_ne (tg := 39) d129_33 rfl (fun hc => ?_) (fun hc => ?_)
      · have h := hl_neg hc h
        exact hl_loc (p_M_lostBy_j39 D v1 s.1 s.2.1 (hl_si s.2.2 64 35 v1) h k1 k2) ⟨rfl, rfl, rfl, rfl, trivial⟩
      · have h := hl_pos hc h
        refine hl_iinc (ls2 := [(2, .int (s.1 + 1)), (0, .ref 64), (1, .int v1), (3, .int s.2.1)]) d129_36 rfl kx1 (by decide) rfl ?_
        exact hl_loc (p_M_lostBy_j39 D v1 (s.1 + 1) s.2.1 (hl_si s.2.2 64 35 v1) h k1 k2) ⟨rfl, rfl, rfl, rfl, trivial⟩
    · have h := hl_pos hc h
      refine hl_goto (tg := 44) d129_20 rfl ?_
      refine hl_iinc (ls2 := [(3, .int (s.2.1 + 1)), (0, .ref 64), (1, .int v1), (2, .int s.1)]) d129_44 rfl kx1 (by decide) rfl ?_
      refine hl_goto (tg := 4) d129_47 rfl ?_
      have h := Option.some.inj h
      subst h
      exact hl_loc (k1 s.1 (s.2.1 + 1) s.2.2 rfl) ⟨rfl, rfl, rfl, rfl, trivial⟩
set_option maxRecDepth 20000 in
theorem p_M_lostBy {X : hl_X} (D : Nat) (v1 : Int32) (σ : hl_M) {r : Int32} {τ : hl_M} (h : f_M_lostBy v1 σ = some (r, τ)) : hl_R X (D + 4) y129 0 [(0, .ref 64), (1, .int v1)] [] σ (some (.int r)) τ := by
  unfold f_M_lostBy at h
  refine hl_iconst d129_0 ki0 ?_
  refine hl_istore_n (i := 2) (ls2 := [(2, .int 0), (0, .ref 64), (1, .int v1)]) d129_1 rfl (by decide) rfl ?_
  refine hl_iconst d129_2 ki0 ?_
  refine hl_istore_n (i := 3) (ls2 := [(3, .int 0), (2, .int 0), (0, .ref 64), (1, .int v1)]) d129_3 rfl (by decide) rfl ?_
  obtain ⟨x4, hx4, h⟩ := hl_bind h
  refine hl_R.loc (ls' := [(0, .ref 64), (1, .int v1), (2, .int 0), (3, .int 0)]) ⟨rfl, rfl, rfl, rfl, trivial⟩ ?_
  refine hl_lp_run3 (P := fun (c0 : Int32) (c1 : Int32) (c2 : hl_M) => hl_R X (D + 4) y129 4 [(0, .ref 64), (1, .int v1), (2, .int c0), (3, .int c1)] [] c2 (some (.int r)) τ) (fun x : Int32 × hl_M => hl_R X (D + 4) y129 50 [(2, .int x.1)] [] x.2 (some (.int r)) τ) (fun c0 c1 c2 o ho h1 h2 => p_M_lostBy_L4 D v1 (c0, c1, c2) ho h1 (fun a0 a1 e => h2 ((a0, a1)) e)) hl_big 0 0 σ x4 hx4 ?_
  refine hl_iload_n (i := 2) d129_50 rfl rfl ?_
  obtain ⟨e1, e2⟩ := hl_some2 h
  subst e1; subst e2
  exact hl_iret d129_51 rfl
def f_M_person (v1 : Int32) (v2 : Int32) (σ : hl_M) : Option (Int32 × hl_M) :=
  (f_M_isPerson v1 σ).bind fun x1 =>
  if x1 = 0 then
  some (((-1), σ)) else
  if v2 = 0 then
  if hl_b (150 + (15 * v1)) 300 then
  some ((σ.1 78 (150 + (15 * v1)).toNatClampNeg, σ)) else none else
  if v2 = 1 then
  (f_M_lampOf v1 σ).bind fun x2 =>
  some ((x2, σ)) else
  if v2 = 2 then
  (f_M_stepMany v1 σ).bind fun x3 =>
  some ((x3, σ)) else
  if v2 = 3 then
  (f_M_rhymeOf v1 σ).bind fun x4 =>
  some ((x4, σ)) else
  if v2 = 4 then
  (f_M_lostBy v1 σ).bind fun x5 =>
  some ((x5.1, x5.2)) else
  (f_M_stepMany v1 σ).bind fun x6 =>
  if (f_M_isIn ((v2 - 10).toInt64) 0 ((x6 - 1).toInt64)) = 0 then
  some (((-1), σ)) else
  if hl_b (((153 + (15 * v1)) + v2) - 10) 300 then
  some ((σ.1 78 (((153 + (15 * v1)) + v2) - 10).toNatClampNeg, σ)) else none
set_option maxRecDepth 20000 in
theorem p_M_person {X : hl_X} (D : Nat) (v1 : Int32) (v2 : Int32) (σ : hl_M) {r : Int32} {τ : hl_M} (h : f_M_person v1 v2 σ = some (r, τ)) : hl_R X (D + 5) y125 0 [(0, .ref 64), (1, .int v1), (2, .int v2)] [] σ (some (.int r)) τ := by
  unfold f_M_person at h
  refine hl_aload_n (i := 0) d125_0 rfl rfl (by decide) ?_
  refine hl_iload_n (i := 1) d125_1 rfl rfl ?_
  obtain ⟨x1, hx1, h⟩ := hl_bind h
  refine hl_cVi (D := (D + 4)) (z := y126) (n := 1) (av := [.int v1]) (st := []) d125_2 mlM_394 rfl (Nat.le_of_ble_eq_true rfl) (Nat.le_of_ble_eq_true rfl) rc64 ((p_M_isPerson D v1 σ hx1).dle (by omega)) ?_
  refine hl_if_ne (tg := 10) d125_5 rfl (fun hc => ?_) (fun hc => ?_)
  · have h := hl_neg hc h
    refine hl_iload_n (i := 2) d125_10 rfl rfl ?_
    by_cases hc11_0 : v2 = 0
    · have h := hl_pos hc11_0 h
      refine hl_tabIn (off := 33) (tg := 44) d125_11 (by rw [hc11_0]; decide) (by rw [hc11_0]; decide) (by rw [hc11_0]; rfl) rfl ?_
      refine hl_aload_n (i := 0) d125_44 rfl rfl (by decide) ?_
      refine hl_gr d125_45 gM_56_64 ?_
      refine hl_sipush d125_48 ks150 ?_
      refine hl_bipush d125_51 kb15 ?_
      refine hl_iload_n (i := 1) d125_53 rfl rfl ?_
      refine hl_imul d125_54 ?_
      refine hl_iadd d125_55 ?_
      obtain ⟨hb, h⟩ := hl_gd h
      refine hl_iald d125_56 sh78 (hl_b_in hb) ?_
      obtain ⟨e1, e2⟩ := hl_some2 h
      subst e1; subst e2
      exact hl_iret d125_57 rfl
    have h := hl_neg hc11_0 h
    by_cases hc11_1 : v2 = 1
    · have h := hl_pos hc11_1 h
      refine hl_tabIn (off := 47) (tg := 58) d125_11 (by rw [hc11_1]; decide) (by rw [hc11_1]; decide) (by rw [hc11_1]; rfl) rfl ?_
      refine hl_aload_n (i := 0) d125_58 rfl rfl (by decide) ?_
      refine hl_iload_n (i := 1) d125_59 rfl rfl ?_
      obtain ⟨x2, hx2, h⟩ := hl_bind h
      refine hl_cVi (D := (D + 4)) (z := y110) (n := 1) (av := [.int v1]) (st := []) d125_60 mlM_358 rfl (Nat.le_of_ble_eq_true rfl) (Nat.le_of_ble_eq_true rfl) rc64 ((p_M_lampOf D v1 σ hx2).dle (by omega)) ?_
      obtain ⟨e1, e2⟩ := hl_some2 h
      subst e1; subst e2
      exact hl_iret d125_63 rfl
    have h := hl_neg hc11_1 h
    by_cases hc11_2 : v2 = 2
    · have h := hl_pos hc11_2 h
      refine hl_tabIn (off := 53) (tg := 64) d125_11 (by rw [hc11_2]; decide) (by rw [hc11_2]; decide) (by rw [hc11_2]; rfl) rfl ?_
      refine hl_aload_n (i := 0) d125_64 rfl rfl (by decide) ?_
      refine hl_iload_n (i := 1) d125_65 rfl rfl ?_
      obtain ⟨x3, hx3, h⟩ := hl_bind h
      refine hl_cVi (D := (D + 4)) (z := y95) (n := 1) (av := [.int v1]) (st := []) d125_66 mlM_343 rfl (Nat.le_of_ble_eq_true rfl) (Nat.le_of_ble_eq_true rfl) rc64 ((p_M_stepMany D v1 σ hx3).dle (by omega)) ?_
      obtain ⟨e1, e2⟩ := hl_some2 h
      subst e1; subst e2
      exact hl_iret d125_69 rfl
    have h := hl_neg hc11_2 h
    by_cases hc11_3 : v2 = 3
    · have h := hl_pos hc11_3 h
      refine hl_tabIn (off := 59) (tg := 70) d125_11 (by rw [hc11_3]; decide) (by rw [hc11_3]; decide) (by rw [hc11_3]; rfl) rfl ?_
      refine hl_aload_n (i := 0) d125_70 rfl rfl (by decide) ?_
      refine hl_iload_n (i := 1) d125_71 rfl rfl ?_
      obtain ⟨x4, hx4, h⟩ := hl_bind h
      refine hl_cVi (D := (D + 4)) (z := y127) (n := 1) (av := [.int v1]) (st := []) d125_72 mlM_397 rfl (Nat.le_of_ble_eq_true rfl) (Nat.le_of_ble_eq_true rfl) rc64 ((p_M_rhymeOf D v1 σ hx4).dle (by omega)) ?_
      obtain ⟨e1, e2⟩ := hl_some2 h
      subst e1; subst e2
      exact hl_iret d125_75 rfl
    have h := hl_neg hc11_3 h
    by_cases hc11_4 : v2 = 4
    · have h := hl_pos hc11_4 h
      refine hl_tabIn (off := 65) (tg := 76) d125_11 (by rw [hc11_4]; decide) (by rw [hc11_4]; decide) (by rw [hc11_4]; rfl) rfl ?_
      refine hl_aload_n (i := 0) d125_76 rfl rfl (by decide) ?_
      refine hl_iload_n (i := 1) d125_77 rfl rfl ?_
      obtain ⟨x5, hx5, h⟩ := hl_bind h
      refine hl_cVi (D := (D + 4)) (z := y129) (n := 1) (av := [.int v1]) (st := []) d125_78 mlM_400 rfl (Nat.le_of_ble_eq_true rfl) (Nat.le_of_ble_eq_true rfl) rc64 ((p_M_lostBy D v1 σ hx5).dle (by omega)) ?_
      obtain ⟨e1, e2⟩ := hl_some2 h
      subst e1; subst e2
      exact hl_iret d125_81 rfl
    have h := hl_neg hc11_4 h
    refine hl_tabD (tg := 82) d125_11 (fun k g1 g2 e => by
          rcases (by omega : k = 0 ∨ k = 1 ∨ k = 2 ∨ k = 3 ∨ k = 4) with rfl | rfl | rfl | rfl | rfl
          · exact hc11_0 (Int32.toInt_inj.mp (e.trans (by decide)))
          · exact hc11_1 (Int32.toInt_inj.mp (e.trans (by decide)))
          · exact hc11_2 (Int32.toInt_inj.mp (e.trans (by decide)))
          · exact hc11_3 (Int32.toInt_inj.mp (e.trans (by decide)))
          · exact hc11_4 (Int32.toInt_inj.mp (e.trans (by decide)))
        ) rfl ?_
    refine hl_iload_n (i := 2) d125_82 rfl rfl ?_
    refine hl_bipush d125_83 kb10 ?_
    refine hl_isub d125_85 ?_
    refine hl_i2l d125_86 ?_
    refine hl_lconst (x := 0) d125_87 (by decide) ?_
    refine hl_aload_n (i := 0) d125_88 rfl rfl (by decide) ?_
    refine hl_iload_n (i := 1) d125_89 rfl rfl ?_
    obtain ⟨x6, hx6, h⟩ := hl_bind h
    refine hl_cVi (D := (D + 4)) (z := y95) (n := 1) (av := [.int v1]) (st := [.long 0, .long ((v2 - 10).toInt64)]) d125_90 mlM_343 rfl (Nat.le_of_ble_eq_true rfl) (Nat.le_of_ble_eq_true rfl) rc64 ((p_M_stepMany D v1 σ hx6).dle (by omega)) ?_
    refine hl_iconst d125_93 ki1 ?_
    refine hl_isub d125_94 ?_
    refine hl_i2l d125_95 ?_
    refine hl_cSi (D := (D + 4)) (z := y70) (n := 3) (av := [.long ((v2 - 10).toInt64), .long 0, .long ((x6 - 1).toInt64)]) (st := []) d125_96 mlM_216 rfl (Nat.le_of_ble_eq_true rfl) (Nat.le_of_ble_eq_true rfl) ((p_M_isIn D ((v2 - 10).toInt64) 0 ((x6 - 1).toInt64) σ rfl).dle (by omega)) ?_
    refine hl_if_eq (tg := 123) d125_99 rfl (fun hc => ?_) (fun hc => ?_)
    · have h := hl_pos hc h
      refine hl_iconst d125_123 kim1 ?_
      obtain ⟨e1, e2⟩ := hl_some2 h
      subst e1; subst e2
      exact hl_iret d125_124 rfl
    · have h := hl_neg hc h
      refine hl_aload_n (i := 0) d125_102 rfl rfl (by decide) ?_
      refine hl_gr d125_103 gM_56_64 ?_
      refine hl_sipush d125_106 ks153 ?_
      refine hl_bipush d125_109 kb15 ?_
      refine hl_iload_n (i := 1) d125_111 rfl rfl ?_
      refine hl_imul d125_112 ?_
      refine hl_iadd d125_113 ?_
      refine hl_iload_n (i := 2) d125_114 rfl rfl ?_
      refine hl_iadd d125_115 ?_
      refine hl_bipush d125_116 kb10 ?_
      refine hl_isub d125_118 ?_
      obtain ⟨hb, h⟩ := hl_gd h
      refine hl_iald d125_119 sh78 (hl_b_in hb) ?_
      refine hl_goto (tg := 124) d125_120 rfl ?_
      obtain ⟨e1, e2⟩ := hl_some2 h
      subst e1; subst e2
      exact hl_iret d125_124 rfl
  · have h := hl_pos hc h
    refine hl_iconst d125_8 kim1 ?_
    obtain ⟨e1, e2⟩ := hl_some2 h
    subst e1; subst e2
    exact hl_iret d125_9 rfl
def f_X_word (v1 : Int32) (v2 : Int32) (σ : hl_M) : Option (Int32) :=
  if (f_X_within v1 (σ.1 4 8)) = 0 then
  some ((-1)) else
  if v2 = ((-1)) then
  if hl_b v1 8 then
  if hl_b v1 8 then
  some (f_Long_bitCount ((σ.2 10 v1.toNatClampNeg) ||| (σ.2 11 v1.toNatClampNeg))) else none else none else
  if (f_X_within v2 (f_Gr_cells σ)) = 0 then
  some ((-1)) else
  if hl_b v1 8 then
  if hl_b v1 8 then
  some (f_X_lampIn (σ.2 10 v1.toNatClampNeg) (σ.2 11 v1.toNatClampNeg) v2) else none else none
set_option maxRecDepth 20000 in
theorem p_X_word {X : hl_X} (D : Nat) (v1 : Int32) (v2 : Int32) (σ : hl_M) {r : Int32} (h : f_X_word v1 v2 σ = some r) : hl_R X (D + 1) y130 0 [(0, .ref 0), (1, .int v1), (2, .int v2)] [] σ (some (.int r)) σ := by
  unfold f_X_word at h
  refine hl_iload_n (i := 1) d130_0 rfl rfl ?_
  refine hl_aload_n (i := 0) d130_1 rfl rfl (by decide) ?_
  refine hl_gr d130_2 gX_28_0 ?_
  refine hl_gi d130_5 gX_145_4 ?_
  refine hl_cSi (D := D) (z := y2) (n := 2) (av := [.int v1, .int (σ.1 4 8)]) (st := []) d130_8 mlX_154 rfl (Nat.le_of_ble_eq_true rfl) (Nat.le_of_ble_eq_true rfl) ((p_X_within D v1 (σ.1 4 8) σ rfl).dle (by omega)) ?_
  refine hl_if_ne (tg := 16) d130_11 rfl (fun hc => ?_) (fun hc => ?_)
  · have h := hl_neg hc h
    refine hl_iload_n (i := 2) d130_16 rfl rfl ?_
    refine hl_iconst d130_17 kim1 ?_
    refine hl_icmp_ne (tg := 44) d130_18 rfl (fun hc => ?_) (fun hc => ?_)
    · have h := hl_neg hc h
      refine hl_iload_n (i := 2) d130_44 rfl rfl ?_
      refine hl_aload_n (i := 0) d130_45 rfl rfl (by decide) ?_
      refine hl_gr d130_46 gX_28_0 ?_
      refine hl_cVi (D := D) (z := y50) (n := 0) (av := []) (st := [.int v2]) d130_49 mlX_200 rfl (Nat.le_of_ble_eq_true rfl) (Nat.le_of_ble_eq_true rfl) rc4 ((p_Gr_cells D σ rfl).dle (by omega)) ?_
      refine hl_cSi (D := D) (z := y2) (n := 2) (av := [.int v2, .int (f_Gr_cells σ)]) (st := []) d130_52 mlX_154 rfl (Nat.le_of_ble_eq_true rfl) (Nat.le_of_ble_eq_true rfl) ((p_X_within D v2 (f_Gr_cells σ) σ rfl).dle (by omega)) ?_
      refine hl_if_eq (tg := 83) d130_55 rfl (fun hc => ?_) (fun hc => ?_)
      · have h := hl_pos hc h
        refine hl_iconst d130_83 kim1 ?_
        have h := Option.some.inj h
        subst h
        exact hl_iret d130_84 rfl
      · have h := hl_neg hc h
        refine hl_aload_n (i := 0) d130_58 rfl rfl (by decide) ?_
        refine hl_gr d130_59 gX_28_0 ?_
        refine hl_gr d130_62 gX_194_4 ?_
        refine hl_iload_n (i := 1) d130_65 rfl rfl ?_
        obtain ⟨hb, h⟩ := hl_gd h
        refine hl_lald d130_66 sh10 (hl_b_in hb) ?_
        refine hl_aload_n (i := 0) d130_67 rfl rfl (by decide) ?_
        refine hl_gr d130_68 gX_28_0 ?_
        refine hl_gr d130_71 gX_197_4 ?_
        refine hl_iload_n (i := 1) d130_74 rfl rfl ?_
        obtain ⟨hb, h⟩ := hl_gd h
        refine hl_lald d130_75 sh11 (hl_b_in hb) ?_
        refine hl_iload_n (i := 2) d130_76 rfl rfl ?_
        refine hl_cSi (D := D) (z := y37) (n := 3) (av := [.long (σ.2 10 v1.toNatClampNeg), .long (σ.2 11 v1.toNatClampNeg), .int v2]) (st := []) d130_77 mlX_203 rfl (Nat.le_of_ble_eq_true rfl) (Nat.le_of_ble_eq_true rfl) ((p_X_lampIn D (σ.2 10 v1.toNatClampNeg) (σ.2 11 v1.toNatClampNeg) v2 σ rfl).dle (by omega)) ?_
        refine hl_goto (tg := 84) d130_80 rfl ?_
        have h := Option.some.inj h
        subst h
        exact hl_iret d130_84 rfl
    · have h := hl_pos hc h
      refine hl_aload_n (i := 0) d130_21 rfl rfl (by decide) ?_
      refine hl_gr d130_22 gX_28_0 ?_
      refine hl_gr d130_25 gX_194_4 ?_
      refine hl_iload_n (i := 1) d130_28 rfl rfl ?_
      obtain ⟨hb, h⟩ := hl_gd h
      refine hl_lald d130_29 sh10 (hl_b_in hb) ?_
      refine hl_aload_n (i := 0) d130_30 rfl rfl (by decide) ?_
      refine hl_gr d130_31 gX_28_0 ?_
      refine hl_gr d130_34 gX_197_4 ?_
      refine hl_iload_n (i := 1) d130_37 rfl rfl ?_
      obtain ⟨hb, h⟩ := hl_gd h
      refine hl_lald d130_38 sh11 (hl_b_in hb) ?_
      refine hl_lor d130_39 ?_
      refine hl_cSi (D := D) (z := y99) (n := 1) (av := [.long ((σ.2 10 v1.toNatClampNeg) ||| (σ.2 11 v1.toNatClampNeg))]) (st := []) d130_40 mlX_133 rfl (Nat.le_of_ble_eq_true rfl) (Nat.le_of_ble_eq_true rfl) ((p_Long_bitCount D ((σ.2 10 v1.toNatClampNeg) ||| (σ.2 11 v1.toNatClampNeg)) σ rfl).dle (by omega)) ?_
      have h := Option.some.inj h
      subst h
      exact hl_iret d130_43 rfl
  · have h := hl_pos hc h
    refine hl_iconst d130_14 kim1 ?_
    have h := Option.some.inj h
    subst h
    exact hl_iret d130_15 rfl
def f_M_isWord (v1 : Int32) (σ : hl_M) : Option (Int32) :=
  (f_M_wordMany σ).bind fun x1 =>
  some (vp_nar .boolean (f_M_isIn v1.toInt64 0 ((x1 - 1).toInt64)))
set_option maxRecDepth 20000 in
theorem p_M_isWord {X : hl_X} (D : Nat) (v1 : Int32) (σ : hl_M) {r : Int32} (h : f_M_isWord v1 σ = some r) : hl_R X (D + 1) y132 0 [(0, .ref 64), (1, .int v1)] [] σ (some (.int r)) σ := by
  unfold f_M_isWord at h
  refine hl_iload_n (i := 1) d132_0 rfl rfl ?_
  refine hl_i2l d132_1 ?_
  refine hl_lconst (x := 0) d132_2 (by decide) ?_
  refine hl_aload_n (i := 0) d132_3 rfl rfl (by decide) ?_
  obtain ⟨x1, hx1, h⟩ := hl_bind h
  refine hl_cVi (D := D) (z := y111) (n := 0) (av := []) (st := [.long 0, .long v1.toInt64]) d132_4 mlM_338 rfl (Nat.le_of_ble_eq_true rfl) (Nat.le_of_ble_eq_true rfl) rc64 ((p_M_wordMany D σ hx1).dle (by omega)) ?_
  refine hl_iconst d132_7 ki1 ?_
  refine hl_isub d132_8 ?_
  refine hl_i2l d132_9 ?_
  refine hl_cSi (D := D) (z := y70) (n := 3) (av := [.long v1.toInt64, .long 0, .long ((x1 - 1).toInt64)]) (st := []) d132_10 mlM_216 rfl (Nat.le_of_ble_eq_true rfl) (Nat.le_of_ble_eq_true rfl) ((p_M_isIn D v1.toInt64 0 ((x1 - 1).toInt64) σ rfl).dle (by omega)) ?_
  have h := Option.some.inj h
  subst h
  exact hl_zret d132_13 rfl rfl
def f_M_cellsOf_L4 (v1 : Int32) (σ : hl_M) (s : Int32 × Int32) : Option ((Int32 × Int32) ⊕ (Int32)) :=
  if (f_M_cells σ) ≤ s.2 then
  some (.inr s.1) else
  if hl_b ((432 + (54 * v1)) + s.2) 864 then
  if (σ.1 79 ((432 + (54 * v1)) + s.2).toNatClampNeg) ≤ 0 then
  some (.inl ((s.1, s.2 + 1))) else
  some (.inl ((s.1 + 1, s.2 + 1))) else none
def f_M_cellsOf (v1 : Int32) (σ : hl_M) : Option (Int32) :=
  (hl_lp (f_M_cellsOf_L4 v1 σ) hl_big ((0, 0))).bind fun x1 =>
  some x1
set_option maxRecDepth 20000 in
theorem p_M_cellsOf_L4 {X : hl_X} (D : Nat) (v1 : Int32) (σ : hl_M) (s : Int32 × Int32) {o : (Int32 × Int32) ⊕ (Int32)} {v : Option Value} (h : f_M_cellsOf_L4 v1 σ s = some o) (k1 : ∀ (c0 : Int32) (c1 : Int32), o = .inl ((c0, c1)) → hl_R X (D + 1) y133 4 [(0, .ref 64), (1, .int v1), (2, .int c0), (3, .int c1)] [] σ v σ) (k2 : ∀ (a0 : Int32), o = .inr a0 → hl_R X (D + 1) y133 39 [(2, .int a0)] [] σ v σ) : hl_R X (D + 1) y133 4 [(0, .ref 64), (1, .int v1), (2, .int s.1), (3, .int s.2)] [] σ v σ := by
  unfold f_M_cellsOf_L4 at h
  refine hl_iload_n (i := 3) d133_4 rfl rfl ?_
  refine hl_aload_n (i := 0) d133_5 rfl rfl (by decide) ?_
  refine hl_cVi (D := D) (z := y89) (n := 0) (av := []) (st := [.int s.2]) d133_6 mlM_320 rfl (Nat.le_of_ble_eq_true rfl) (Nat.le_of_ble_eq_true rfl) rc64 ((p_M_cells D σ rfl).dle (by omega)) ?_
  refine hl_icmp_ge (tg := 39) d133_9 rfl (fun hc => ?_) (fun hc => ?_)
  · have h := hl_pos hc h
    have h := Option.some.inj h
    subst h
    exact hl_loc (k2 s.1 rfl) ⟨rfl, trivial⟩
  · have h := hl_neg hc h
    refine hl_aload_n (i := 0) d133_12 rfl rfl (by decide) ?_
    refine hl_gr d133_13 gM_59_64 ?_
    refine hl_sipush d133_16 ks432 ?_
    refine hl_bipush d133_19 kb54 ?_
    refine hl_iload_n (i := 1) d133_21 rfl rfl ?_
    refine hl_imul d133_22 ?_
    refine hl_iadd d133_23 ?_
    refine hl_iload_n (i := 3) d133_24 rfl rfl ?_
    refine hl_iadd d133_25 ?_
    obtain ⟨hb, h⟩ := hl_gd h
    refine hl_iald d133_26 sh79 (hl_b_in hb) ?_
    refine hl_if_le (tg := 33) d133_27 rfl (fun hc => ?_) (fun hc => ?_)
    · have h := hl_pos hc h
      refine hl_iinc (ls2 := [(3, .int (s.2 + 1)), (0, .ref 64), (1, .int v1), (2, .int s.1)]) d133_33 rfl kx1 (by decide) rfl ?_
      refine hl_goto (tg := 4) d133_36 rfl ?_
      have h := Option.some.inj h
      subst h
      exact hl_loc (k1 s.1 (s.2 + 1) rfl) ⟨rfl, rfl, rfl, rfl, trivial⟩
    · have h := hl_neg hc h
      refine hl_iinc (ls2 := [(2, .int (s.1 + 1)), (0, .ref 64), (1, .int v1), (3, .int s.2)]) d133_30 rfl kx1 (by decide) rfl ?_
      refine hl_iinc (ls2 := [(3, .int (s.2 + 1)), (2, .int (s.1 + 1)), (0, .ref 64), (1, .int v1)]) d133_33 rfl kx1 (by decide) rfl ?_
      refine hl_goto (tg := 4) d133_36 rfl ?_
      have h := Option.some.inj h
      subst h
      exact hl_loc (k1 (s.1 + 1) (s.2 + 1) rfl) ⟨rfl, rfl, rfl, rfl, trivial⟩
set_option maxRecDepth 20000 in
theorem p_M_cellsOf {X : hl_X} (D : Nat) (v1 : Int32) (σ : hl_M) {r : Int32} (h : f_M_cellsOf v1 σ = some r) : hl_R X (D + 1) y133 0 [(0, .ref 64), (1, .int v1)] [] σ (some (.int r)) σ := by
  unfold f_M_cellsOf at h
  refine hl_iconst d133_0 ki0 ?_
  refine hl_istore_n (i := 2) (ls2 := [(2, .int 0), (0, .ref 64), (1, .int v1)]) d133_1 rfl (by decide) rfl ?_
  refine hl_iconst d133_2 ki0 ?_
  refine hl_istore_n (i := 3) (ls2 := [(3, .int 0), (2, .int 0), (0, .ref 64), (1, .int v1)]) d133_3 rfl (by decide) rfl ?_
  obtain ⟨x1, hx1, h⟩ := hl_bind h
  refine hl_R.loc (ls' := [(0, .ref 64), (1, .int v1), (2, .int 0), (3, .int 0)]) ⟨rfl, rfl, rfl, rfl, trivial⟩ ?_
  refine hl_lp_run2 (P := fun (c0 : Int32) (c1 : Int32) => hl_R X (D + 1) y133 4 [(0, .ref 64), (1, .int v1), (2, .int c0), (3, .int c1)] [] σ (some (.int r)) σ) (fun x : Int32 => hl_R X (D + 1) y133 39 [(2, .int x)] [] σ (some (.int r)) σ) (fun c0 c1 o ho h1 h2 => p_M_cellsOf_L4 D v1 σ (c0, c1) ho h1 (fun a0 e => h2 a0 e)) hl_big 0 0 x1 hx1 ?_
  refine hl_iload_n (i := 2) d133_39 rfl rfl ?_
  have h := Option.some.inj h
  subst h
  exact hl_iret d133_40 rfl
def f_M_isCell (v1 : Int32) (σ : hl_M) : Int32 :=
  vp_nar .boolean (f_M_isIn v1.toInt64 0 (((f_M_cells σ) - 1).toInt64))
set_option maxRecDepth 20000 in
theorem p_M_isCell {X : hl_X} (D : Nat) (v1 : Int32) (σ : hl_M) {r : Int32} (h : f_M_isCell v1 σ = r) : hl_R X (D + 1) y134 0 [(0, .ref 64), (1, .int v1)] [] σ (some (.int r)) σ := by
  unfold f_M_isCell at h
  refine hl_iload_n (i := 1) d134_0 rfl rfl ?_
  refine hl_i2l d134_1 ?_
  refine hl_lconst (x := 0) d134_2 (by decide) ?_
  refine hl_aload_n (i := 0) d134_3 rfl rfl (by decide) ?_
  refine hl_cVi (D := D) (z := y89) (n := 0) (av := []) (st := [.long 0, .long v1.toInt64]) d134_4 mlM_320 rfl (Nat.le_of_ble_eq_true rfl) (Nat.le_of_ble_eq_true rfl) rc64 ((p_M_cells D σ rfl).dle (by omega)) ?_
  refine hl_iconst d134_7 ki1 ?_
  refine hl_isub d134_8 ?_
  refine hl_i2l d134_9 ?_
  refine hl_cSi (D := D) (z := y70) (n := 3) (av := [.long v1.toInt64, .long 0, .long (((f_M_cells σ) - 1).toInt64)]) (st := []) d134_10 mlM_216 rfl (Nat.le_of_ble_eq_true rfl) (Nat.le_of_ble_eq_true rfl) ((p_M_isIn D v1.toInt64 0 (((f_M_cells σ) - 1).toInt64) σ rfl).dle (by omega)) ?_
  subst h
  exact hl_zret d134_13 rfl rfl
def f_M_word_j23 (v1 : Int32) (v2 : Int32) (σ : hl_M) : Option (Int32) :=
  if v2 = ((-1)) then
  (f_M_cellsOf v1 σ).bind fun x2 =>
  some x2 else
  if hl_b ((432 + (54 * v1)) + v2) 864 then
  some (σ.1 79 ((432 + (54 * v1)) + v2).toNatClampNeg) else none
def f_M_word (v1 : Int32) (v2 : Int32) (σ : hl_M) : Option (Int32) :=
  (f_M_isWord v1 σ).bind fun x1 =>
  if x1 = 0 then
  some ((-1)) else
  if v2 = ((-1)) then
  f_M_word_j23 v1 v2 σ else
  if (f_M_isCell v2 σ) = 0 then
  some ((-1)) else
  f_M_word_j23 v1 v2 σ
set_option maxRecDepth 20000 in
theorem p_M_word_j23 {X : hl_X} (D : Nat) (v1 : Int32) (v2 : Int32) (σ : hl_M) {r : Int32} (h : f_M_word_j23 v1 v2 σ = some r) : hl_R X (D + 2) y131 23 [(0, .ref 64), (1, .int v1), (2, .int v2)] [] σ (some (.int r)) σ := by
  unfold f_M_word_j23 at h
  refine hl_iload_n (i := 2) d131_23 rfl rfl ?_
  refine hl_iconst d131_24 kim1 ?_
  refine hl_icmp_ne (tg := 36) d131_25 rfl (fun hc => ?_) (fun hc => ?_)
  · have h := hl_neg hc h
    refine hl_aload_n (i := 0) d131_36 rfl rfl (by decide) ?_
    refine hl_gr d131_37 gM_59_64 ?_
    refine hl_sipush d131_40 ks432 ?_
    refine hl_bipush d131_43 kb54 ?_
    refine hl_iload_n (i := 1) d131_45 rfl rfl ?_
    refine hl_imul d131_46 ?_
    refine hl_iadd d131_47 ?_
    refine hl_iload_n (i := 2) d131_48 rfl rfl ?_
    refine hl_iadd d131_49 ?_
    obtain ⟨hb, h⟩ := hl_gd h
    refine hl_iald d131_50 sh79 (hl_b_in hb) ?_
    have h := Option.some.inj h
    subst h
    exact hl_iret d131_51 rfl
  · have h := hl_pos hc h
    refine hl_aload_n (i := 0) d131_28 rfl rfl (by decide) ?_
    refine hl_iload_n (i := 1) d131_29 rfl rfl ?_
    obtain ⟨x2, hx2, h⟩ := hl_bind h
    refine hl_cVi (D := (D + 1)) (z := y133) (n := 1) (av := [.int v1]) (st := []) d131_30 mlM_406 rfl (Nat.le_of_ble_eq_true rfl) (Nat.le_of_ble_eq_true rfl) rc64 ((p_M_cellsOf D v1 σ hx2).dle (by omega)) ?_
    refine hl_goto (tg := 51) d131_33 rfl ?_
    have h := Option.some.inj h
    subst h
    exact hl_iret d131_51 rfl
set_option maxRecDepth 20000 in
theorem p_M_word {X : hl_X} (D : Nat) (v1 : Int32) (v2 : Int32) (σ : hl_M) {r : Int32} (h : f_M_word v1 v2 σ = some r) : hl_R X (D + 2) y131 0 [(0, .ref 64), (1, .int v1), (2, .int v2)] [] σ (some (.int r)) σ := by
  unfold f_M_word at h
  refine hl_aload_n (i := 0) d131_0 rfl rfl (by decide) ?_
  refine hl_iload_n (i := 1) d131_1 rfl rfl ?_
  obtain ⟨x1, hx1, h⟩ := hl_bind h
  refine hl_cVi (D := (D + 1)) (z := y132) (n := 1) (av := [.int v1]) (st := []) d131_2 mlM_403 rfl (Nat.le_of_ble_eq_true rfl) (Nat.le_of_ble_eq_true rfl) rc64 ((p_M_isWord D v1 σ hx1).dle (by omega)) ?_
  refine hl_if_eq (tg := 21) d131_5 rfl (fun hc => ?_) (fun hc => ?_)
  · have h := hl_pos hc h
    refine hl_iconst d131_21 kim1 ?_
    have h := Option.some.inj h
    subst h
    exact hl_iret d131_22 rfl
  · have h := hl_neg hc h
    refine hl_iload_n (i := 2) d131_8 rfl rfl ?_
    refine hl_iconst d131_9 kim1 ?_
    refine hl_icmp_eq (tg := 23) d131_10 rfl (fun hc => ?_) (fun hc => ?_)
    · have h := hl_pos hc h
      exact hl_loc (p_M_word_j23 D v1 v2 σ h) ⟨rfl, rfl, rfl, trivial⟩
    · have h := hl_neg hc h
      refine hl_aload_n (i := 0) d131_13 rfl rfl (by decide) ?_
      refine hl_iload_n (i := 2) d131_14 rfl rfl ?_
      refine hl_cVi (D := (D + 1)) (z := y134) (n := 1) (av := [.int v2]) (st := []) d131_15 mlM_332 rfl (Nat.le_of_ble_eq_true rfl) (Nat.le_of_ble_eq_true rfl) rc64 ((p_M_isCell D v2 σ rfl).dle (by omega)) ?_
      refine hl_if_ne (tg := 23) d131_18 rfl (fun hc => ?_) (fun hc => ?_)
      · have h := hl_neg hc h
        exact hl_loc (p_M_word_j23 D v1 v2 σ h) ⟨rfl, rfl, rfl, trivial⟩
      · have h := hl_pos hc h
        refine hl_iconst d131_21 kim1 ?_
        have h := Option.some.inj h
        subst h
        exact hl_iret d131_22 rfl
def f_X_hymn (v1 : Int32) (v2 : Int32) (σ : hl_M) : Option (Int32 × hl_M) :=
  if (f_X_within v1 (σ.1 4 12)) = 0 then
  some (((-1), σ)) else
  if v2 = 0 then
  if hl_b v1 10 then
  some ((σ.1 12 v1.toNatClampNeg, σ)) else none else
  if v2 = 1 then
  if hl_b v1 10 then
  some ((σ.1 13 v1.toNatClampNeg, σ)) else none else
  if v2 = 2 then
  (f_X_missingOf v1 ((-1)) σ).bind fun x1 =>
  if x1.1 = 0 then
  some ((1, x1.2)) else
  some ((0, x1.2)) else
  if v2 = 3 then
  (f_X_missingOf v1 ((-1)) σ).bind fun x2 =>
  some ((x2.1, x2.2)) else
  some (((-1), σ))
set_option maxRecDepth 20000 in
theorem p_X_hymn {X : hl_X} (D : Nat) (v1 : Int32) (v2 : Int32) (σ : hl_M) {r : Int32} {τ : hl_M} (h : f_X_hymn v1 v2 σ = some (r, τ)) : hl_R X (D + 4) y135 0 [(0, .ref 0), (1, .int v1), (2, .int v2)] [] σ (some (.int r)) τ := by
  unfold f_X_hymn at h
  refine hl_iload_n (i := 1) d135_0 rfl rfl ?_
  refine hl_aload_n (i := 0) d135_1 rfl rfl (by decide) ?_
  refine hl_gr d135_2 gX_28_0 ?_
  refine hl_gi d135_5 gX_148_4 ?_
  refine hl_cSi (D := (D + 3)) (z := y2) (n := 2) (av := [.int v1, .int (σ.1 4 12)]) (st := []) d135_8 mlX_154 rfl (Nat.le_of_ble_eq_true rfl) (Nat.le_of_ble_eq_true rfl) ((p_X_within D v1 (σ.1 4 12) σ rfl).dle (by omega)) ?_
  refine hl_if_ne (tg := 16) d135_11 rfl (fun hc => ?_) (fun hc => ?_)
  · have h := hl_neg hc h
    refine hl_iload_n (i := 2) d135_16 rfl rfl ?_
    by_cases hc17_0 : v2 = 0
    · have h := hl_pos hc17_0 h
      refine hl_tabIn (off := 31) (tg := 48) d135_17 (by rw [hc17_0]; decide) (by rw [hc17_0]; decide) (by rw [hc17_0]; rfl) rfl ?_
      refine hl_aload_n (i := 0) d135_48 rfl rfl (by decide) ?_
      refine hl_gr d135_49 gX_28_0 ?_
      refine hl_gr d135_52 gX_207_4 ?_
      refine hl_iload_n (i := 1) d135_55 rfl rfl ?_
      obtain ⟨hb, h⟩ := hl_gd h
      refine hl_iald d135_56 sh12 (hl_b_in hb) ?_
      obtain ⟨e1, e2⟩ := hl_some2 h
      subst e1; subst e2
      exact hl_iret d135_57 rfl
    have h := hl_neg hc17_0 h
    by_cases hc17_1 : v2 = 1
    · have h := hl_pos hc17_1 h
      refine hl_tabIn (off := 41) (tg := 58) d135_17 (by rw [hc17_1]; decide) (by rw [hc17_1]; decide) (by rw [hc17_1]; rfl) rfl ?_
      refine hl_aload_n (i := 0) d135_58 rfl rfl (by decide) ?_
      refine hl_gr d135_59 gX_28_0 ?_
      refine hl_gr d135_62 gX_210_4 ?_
      refine hl_iload_n (i := 1) d135_65 rfl rfl ?_
      obtain ⟨hb, h⟩ := hl_gd h
      refine hl_iald d135_66 sh13 (hl_b_in hb) ?_
      obtain ⟨e1, e2⟩ := hl_some2 h
      subst e1; subst e2
      exact hl_iret d135_67 rfl
    have h := hl_neg hc17_1 h
    by_cases hc17_2 : v2 = 2
    · have h := hl_pos hc17_2 h
      refine hl_tabIn (off := 51) (tg := 68) d135_17 (by rw [hc17_2]; decide) (by rw [hc17_2]; decide) (by rw [hc17_2]; rfl) rfl ?_
      refine hl_aload_n (i := 0) d135_68 rfl rfl (by decide) ?_
      refine hl_iload_n (i := 1) d135_69 rfl rfl ?_
      refine hl_iconst d135_70 kim1 ?_
      obtain ⟨x1, hx1, h⟩ := hl_bind h
      refine hl_cVi (D := (D + 3)) (z := y102) (n := 2) (av := [.int v1, .int ((-1))]) (st := []) d135_71 mlX_213 rfl (Nat.le_of_ble_eq_true rfl) (Nat.le_of_ble_eq_true rfl) rc0 ((p_X_missingOf D v1 ((-1)) σ hx1).dle (by omega)) ?_
      refine hl_if_ne (tg := 81) d135_74 rfl (fun hc => ?_) (fun hc => ?_)
      · have h := hl_neg hc h
        refine hl_iconst d135_81 ki0 ?_
        obtain ⟨e1, e2⟩ := hl_some2 h
        subst e1; subst e2
        exact hl_iret d135_82 rfl
      · have h := hl_pos hc h
        refine hl_iconst d135_77 ki1 ?_
        refine hl_goto (tg := 82) d135_78 rfl ?_
        obtain ⟨e1, e2⟩ := hl_some2 h
        subst e1; subst e2
        exact hl_iret d135_82 rfl
    have h := hl_neg hc17_2 h
    by_cases hc17_3 : v2 = 3
    · have h := hl_pos hc17_3 h
      refine hl_tabIn (off := 66) (tg := 83) d135_17 (by rw [hc17_3]; decide) (by rw [hc17_3]; decide) (by rw [hc17_3]; rfl) rfl ?_
      refine hl_aload_n (i := 0) d135_83 rfl rfl (by decide) ?_
      refine hl_iload_n (i := 1) d135_84 rfl rfl ?_
      refine hl_iconst d135_85 kim1 ?_
      obtain ⟨x2, hx2, h⟩ := hl_bind h
      refine hl_cVi (D := (D + 3)) (z := y102) (n := 2) (av := [.int v1, .int ((-1))]) (st := []) d135_86 mlX_213 rfl (Nat.le_of_ble_eq_true rfl) (Nat.le_of_ble_eq_true rfl) rc0 ((p_X_missingOf D v1 ((-1)) σ hx2).dle (by omega)) ?_
      obtain ⟨e1, e2⟩ := hl_some2 h
      subst e1; subst e2
      exact hl_iret d135_89 rfl
    have h := hl_neg hc17_3 h
    refine hl_tabD (tg := 90) d135_17 (fun k g1 g2 e => by
          rcases (by omega : k = 0 ∨ k = 1 ∨ k = 2 ∨ k = 3) with rfl | rfl | rfl | rfl
          · exact hc17_0 (Int32.toInt_inj.mp (e.trans (by decide)))
          · exact hc17_1 (Int32.toInt_inj.mp (e.trans (by decide)))
          · exact hc17_2 (Int32.toInt_inj.mp (e.trans (by decide)))
          · exact hc17_3 (Int32.toInt_inj.mp (e.trans (by decide)))
        ) rfl ?_
    refine hl_iconst d135_90 kim1 ?_
    obtain ⟨e1, e2⟩ := hl_some2 h
    subst e1; subst e2
    exact hl_iret d135_91 rfl
  · have h := hl_pos hc h
    refine hl_iconst d135_14 kim1 ?_
    obtain ⟨e1, e2⟩ := hl_some2 h
    subst e1; subst e2
    exact hl_iret d135_15 rfl
def f_M_hymn (v1 : Int32) (v2 : Int32) (σ : hl_M) : Option (Int32) :=
  (f_M_hymnMany σ).bind fun x1 =>
  if (f_M_isIn v1.toInt64 0 ((x1 - 1).toInt64)) = 0 then
  some ((-1)) else
  if hl_b (20 + (2 * v1)) 40 then
  if hl_b ((20 + (2 * v1)) + 1) 40 then
  if v2 = 0 then
  some (σ.1 80 (20 + (2 * v1)).toNatClampNeg) else
  if v2 = 1 then
  some (σ.1 80 ((20 + (2 * v1)) + 1).toNatClampNeg) else
  if v2 = 2 then
  (f_M_isSung v1 σ).bind fun x2 =>
  if x2 = 0 then
  some 0 else
  some 1 else
  if v2 = 3 then
  (f_M_farFrom (σ.1 80 ((20 + (2 * v1)) + 1).toNatClampNeg) (σ.1 80 (20 + (2 * v1)).toNatClampNeg) 0 σ).bind fun x3 =>
  some x3 else
  some ((-1)) else none else none
set_option maxRecDepth 20000 in
theorem p_M_hymn {X : hl_X} (D : Nat) (v1 : Int32) (v2 : Int32) (σ : hl_M) {r : Int32} (h : f_M_hymn v1 v2 σ = some r) : hl_R X (D + 4) y136 0 [(0, .ref 64), (1, .int v1), (2, .int v2)] [] σ (some (.int r)) σ := by
  unfold f_M_hymn at h
  refine hl_iload_n (i := 1) d136_0 rfl rfl ?_
  refine hl_i2l d136_1 ?_
  refine hl_lconst (x := 0) d136_2 (by decide) ?_
  refine hl_aload_n (i := 0) d136_3 rfl rfl (by decide) ?_
  obtain ⟨x1, hx1, h⟩ := hl_bind h
  refine hl_cVi (D := (D + 3)) (z := y112) (n := 0) (av := []) (st := [.long 0, .long v1.toInt64]) d136_4 mlM_374 rfl (Nat.le_of_ble_eq_true rfl) (Nat.le_of_ble_eq_true rfl) rc64 ((p_M_hymnMany D σ hx1).dle (by omega)) ?_
  refine hl_iconst d136_7 ki1 ?_
  refine hl_isub d136_8 ?_
  refine hl_i2l d136_9 ?_
  refine hl_cSi (D := (D + 3)) (z := y70) (n := 3) (av := [.long v1.toInt64, .long 0, .long ((x1 - 1).toInt64)]) (st := []) d136_10 mlM_216 rfl (Nat.le_of_ble_eq_true rfl) (Nat.le_of_ble_eq_true rfl) ((p_M_isIn D v1.toInt64 0 ((x1 - 1).toInt64) σ rfl).dle (by omega)) ?_
  refine hl_if_ne (tg := 18) d136_13 rfl (fun hc => ?_) (fun hc => ?_)
  · have h := hl_neg hc h
    refine hl_aload_n (i := 0) d136_18 rfl rfl (by decide) ?_
    refine hl_gr d136_19 gM_62_64 ?_
    refine hl_bipush d136_22 kb20 ?_
    refine hl_iconst d136_24 ki2 ?_
    refine hl_iload_n (i := 1) d136_25 rfl rfl ?_
    refine hl_imul d136_26 ?_
    refine hl_iadd d136_27 ?_
    obtain ⟨hb, h⟩ := hl_gd h
    refine hl_iald d136_28 sh80 (hl_b_in hb) ?_
    refine hl_istore_n (i := 3) (ls2 := [(3, .int (σ.1 80 (20 + (2 * v1)).toNatClampNeg)), (0, .ref 64), (1, .int v1), (2, .int v2)]) d136_29 rfl (by decide) rfl ?_
    refine hl_aload_n (i := 0) d136_30 rfl rfl (by decide) ?_
    refine hl_gr d136_31 gM_62_64 ?_
    refine hl_bipush d136_34 kb20 ?_
    refine hl_iconst d136_36 ki2 ?_
    refine hl_iload_n (i := 1) d136_37 rfl rfl ?_
    refine hl_imul d136_38 ?_
    refine hl_iadd d136_39 ?_
    refine hl_iconst d136_40 ki1 ?_
    refine hl_iadd d136_41 ?_
    obtain ⟨hb, h⟩ := hl_gd h
    refine hl_iald d136_42 sh80 (hl_b_in hb) ?_
    refine hl_istore (ls2 := [(4, .int (σ.1 80 ((20 + (2 * v1)) + 1).toNatClampNeg)), (3, .int (σ.1 80 (20 + (2 * v1)).toNatClampNeg)), (0, .ref 64), (1, .int v1), (2, .int v2)]) d136_43 (by decide) rfl ?_
    refine hl_iload_n (i := 2) d136_45 rfl rfl ?_
    by_cases hc46_0 : v2 = 0
    · have h := hl_pos hc46_0 h
      refine hl_tabIn (off := 30) (tg := 76) d136_46 (by rw [hc46_0]; decide) (by rw [hc46_0]; decide) (by rw [hc46_0]; rfl) rfl ?_
      refine hl_iload_n (i := 3) d136_76 rfl rfl ?_
      have h := Option.some.inj h
      subst h
      exact hl_iret d136_77 rfl
    have h := hl_neg hc46_0 h
    by_cases hc46_1 : v2 = 1
    · have h := hl_pos hc46_1 h
      refine hl_tabIn (off := 32) (tg := 78) d136_46 (by rw [hc46_1]; decide) (by rw [hc46_1]; decide) (by rw [hc46_1]; rfl) rfl ?_
      refine hl_iload d136_78 rfl ?_
      have h := Option.some.inj h
      subst h
      exact hl_iret d136_80 rfl
    have h := hl_neg hc46_1 h
    by_cases hc46_2 : v2 = 2
    · have h := hl_pos hc46_2 h
      refine hl_tabIn (off := 35) (tg := 81) d136_46 (by rw [hc46_2]; decide) (by rw [hc46_2]; decide) (by rw [hc46_2]; rfl) rfl ?_
      refine hl_aload_n (i := 0) d136_81 rfl rfl (by decide) ?_
      refine hl_iload_n (i := 1) d136_82 rfl rfl ?_
      obtain ⟨x2, hx2, h⟩ := hl_bind h
      refine hl_cVi (D := (D + 3)) (z := y114) (n := 1) (av := [.int v1]) (st := []) d136_83 mlM_377 rfl (Nat.le_of_ble_eq_true rfl) (Nat.le_of_ble_eq_true rfl) rc64 ((p_M_isSung D v1 σ hx2).dle (by omega)) ?_
      refine hl_if_eq (tg := 93) d136_86 rfl (fun hc => ?_) (fun hc => ?_)
      · have h := hl_pos hc h
        refine hl_iconst d136_93 ki0 ?_
        have h := Option.some.inj h
        subst h
        exact hl_iret d136_94 rfl
      · have h := hl_neg hc h
        refine hl_iconst d136_89 ki1 ?_
        refine hl_goto (tg := 94) d136_90 rfl ?_
        have h := Option.some.inj h
        subst h
        exact hl_iret d136_94 rfl
    have h := hl_neg hc46_2 h
    by_cases hc46_3 : v2 = 3
    · have h := hl_pos hc46_3 h
      refine hl_tabIn (off := 49) (tg := 95) d136_46 (by rw [hc46_3]; decide) (by rw [hc46_3]; decide) (by rw [hc46_3]; rfl) rfl ?_
      refine hl_aload_n (i := 0) d136_95 rfl rfl (by decide) ?_
      refine hl_iload d136_96 rfl ?_
      refine hl_iload_n (i := 3) d136_98 rfl rfl ?_
      refine hl_iconst d136_99 ki0 ?_
      obtain ⟨x3, hx3, h⟩ := hl_bind h
      refine hl_cVi (D := (D + 3)) (z := y115) (n := 3) (av := [.int (σ.1 80 ((20 + (2 * v1)) + 1).toNatClampNeg), .int (σ.1 80 (20 + (2 * v1)).toNatClampNeg), .int 0]) (st := []) d136_100 mlM_364 rfl (Nat.le_of_ble_eq_true rfl) (Nat.le_of_ble_eq_true rfl) rc64 ((p_M_farFrom D (σ.1 80 ((20 + (2 * v1)) + 1).toNatClampNeg) (σ.1 80 (20 + (2 * v1)).toNatClampNeg) 0 σ hx3).dle (by omega)) ?_
      have h := Option.some.inj h
      subst h
      exact hl_iret d136_103 rfl
    have h := hl_neg hc46_3 h
    refine hl_tabD (tg := 104) d136_46 (fun k g1 g2 e => by
          rcases (by omega : k = 0 ∨ k = 1 ∨ k = 2 ∨ k = 3) with rfl | rfl | rfl | rfl
          · exact hc46_0 (Int32.toInt_inj.mp (e.trans (by decide)))
          · exact hc46_1 (Int32.toInt_inj.mp (e.trans (by decide)))
          · exact hc46_2 (Int32.toInt_inj.mp (e.trans (by decide)))
          · exact hc46_3 (Int32.toInt_inj.mp (e.trans (by decide)))
        ) rfl ?_
    refine hl_iconst d136_104 kim1 ?_
    have h := Option.some.inj h
    subst h
    exact hl_iret d136_105 rfl
  · have h := hl_pos hc h
    refine hl_iconst d136_16 kim1 ?_
    have h := Option.some.inj h
    subst h
    exact hl_iret d136_17 rfl
def f_X_where (v1 : Int32) (v2 : Int32) (σ : hl_M) : Option (Int32) :=
  (f_Wk_cellOf v1 v2 σ).bind fun x1 =>
  some x1
set_option maxRecDepth 20000 in
theorem p_X_where {X : hl_X} (D : Nat) (v1 : Int32) (v2 : Int32) (σ : hl_M) {r : Int32} (h : f_X_where v1 v2 σ = some r) : hl_R X (D + 2) y137 0 [(0, .ref 0), (1, .int v1), (2, .int v2)] [] σ (some (.int r)) σ := by
  unfold f_X_where at h
  refine hl_aload_n (i := 0) d137_0 rfl rfl (by decide) ?_
  refine hl_gr d137_1 gX_49_0 ?_
  refine hl_iload_n (i := 1) d137_4 rfl rfl ?_
  refine hl_iload_n (i := 2) d137_5 rfl rfl ?_
  obtain ⟨x1, hx1, h⟩ := hl_bind h
  refine hl_cVi (D := (D + 1)) (z := y104) (n := 2) (av := [.int v1, .int v2]) (st := []) d137_6 mlX_216 rfl (Nat.le_of_ble_eq_true rfl) (Nat.le_of_ble_eq_true rfl) rc25 ((p_Wk_cellOf D v1 v2 σ hx1).dle (by omega)) ?_
  have h := Option.some.inj h
  subst h
  exact hl_iret d137_9 rfl
def f_M_isBeat (v0 : Int32) : Int32 :=
  vp_nar .boolean (f_M_isIn v0.toInt64 0 99)
set_option maxRecDepth 20000 in
theorem p_M_isBeat {X : hl_X} (D : Nat) (v0 : Int32) (σ : hl_M) {r : Int32} (h : f_M_isBeat v0 = r) : hl_R X (D + 1) y139 0 [(0, .int v0)] [] σ (some (.int r)) σ := by
  unfold f_M_isBeat at h
  refine hl_iload_n (i := 0) d139_0 rfl rfl ?_
  refine hl_i2l d139_1 ?_
  refine hl_lconst (x := 0) d139_2 (by decide) ?_
  refine hl_ldc2 d139_3 wlM_341 ?_
  refine hl_cSi (D := D) (z := y70) (n := 3) (av := [.long v0.toInt64, .long 0, .long 99]) (st := []) d139_6 mlM_216 rfl (Nat.le_of_ble_eq_true rfl) (Nat.le_of_ble_eq_true rfl) ((p_M_isIn D v0.toInt64 0 99 σ rfl).dle (by omega)) ?_
  subst h
  exact hl_zret d139_9 rfl rfl
def f_M_where (v1 : Int32) (v2 : Int32) (σ : hl_M) : Option (Int32) :=
  (f_M_isPerson v1 σ).bind fun x1 =>
  if x1 = 0 then
  some ((-1)) else
  if (f_M_isBeat v2) = 0 then
  some ((-1)) else
  (f_M_whereIn v1 v2 σ).bind fun x2 =>
  some x2
set_option maxRecDepth 20000 in
theorem p_M_where {X : hl_X} (D : Nat) (v1 : Int32) (v2 : Int32) (σ : hl_M) {r : Int32} (h : f_M_where v1 v2 σ = some r) : hl_R X (D + 2) y138 0 [(0, .ref 64), (1, .int v1), (2, .int v2)] [] σ (some (.int r)) σ := by
  unfold f_M_where at h
  refine hl_aload_n (i := 0) d138_0 rfl rfl (by decide) ?_
  refine hl_iload_n (i := 1) d138_1 rfl rfl ?_
  obtain ⟨x1, hx1, h⟩ := hl_bind h
  refine hl_cVi (D := (D + 1)) (z := y126) (n := 1) (av := [.int v1]) (st := []) d138_2 mlM_394 rfl (Nat.le_of_ble_eq_true rfl) (Nat.le_of_ble_eq_true rfl) rc64 ((p_M_isPerson D v1 σ hx1).dle (by omega)) ?_
  refine hl_if_eq (tg := 24) d138_5 rfl (fun hc => ?_) (fun hc => ?_)
  · have h := hl_pos hc h
    refine hl_iconst d138_24 kim1 ?_
    have h := Option.some.inj h
    subst h
    exact hl_iret d138_25 rfl
  · have h := hl_neg hc h
    refine hl_iload_n (i := 2) d138_8 rfl rfl ?_
    refine hl_cSi (D := (D + 1)) (z := y139) (n := 1) (av := [.int v2]) (st := []) d138_9 mlM_409 rfl (Nat.le_of_ble_eq_true rfl) (Nat.le_of_ble_eq_true rfl) ((p_M_isBeat D v2 σ rfl).dle (by omega)) ?_
    refine hl_if_eq (tg := 24) d138_12 rfl (fun hc => ?_) (fun hc => ?_)
    · have h := hl_pos hc h
      refine hl_iconst d138_24 kim1 ?_
      have h := Option.some.inj h
      subst h
      exact hl_iret d138_25 rfl
    · have h := hl_neg hc h
      refine hl_aload_n (i := 0) d138_15 rfl rfl (by decide) ?_
      refine hl_iload_n (i := 1) d138_16 rfl rfl ?_
      refine hl_iload_n (i := 2) d138_17 rfl rfl ?_
      obtain ⟨x2, hx2, h⟩ := hl_bind h
      refine hl_cVi (D := (D + 1)) (z := y117) (n := 2) (av := [.int v1, .int v2]) (st := []) d138_18 mlM_349 rfl (Nat.le_of_ble_eq_true rfl) (Nat.le_of_ble_eq_true rfl) rc64 ((p_M_whereIn D v1 v2 σ hx2).dle (by omega)) ?_
      refine hl_goto (tg := 25) d138_21 rfl ?_
      have h := Option.some.inj h
      subst h
      exact hl_iret d138_25 rfl
def f_Vw_lampOn (v1 : Int32) (σ : hl_M) : Int32 :=
  if (f_X_within v1 (f_Gr_cells σ)) = 0 then
  0 else
  f_X_lampIn (σ.2 37 2) (σ.2 37 3) v1
set_option maxRecDepth 20000 in
theorem p_Vw_lampOn {X : hl_X} (D : Nat) (v1 : Int32) (σ : hl_M) {r : Int32} (h : f_Vw_lampOn v1 σ = r) : hl_R X (D + 1) y141 0 [(0, .ref 37), (1, .int v1)] [] σ (some (.int r)) σ := by
  unfold f_Vw_lampOn at h
  refine hl_iload_n (i := 1) d141_0 rfl rfl ?_
  refine hl_aload_n (i := 0) d141_1 rfl rfl (by decide) ?_
  refine hl_gr d141_2 gVw_9_37 ?_
  refine hl_cVi (D := D) (z := y50) (n := 0) (av := []) (st := [.int v1]) d141_5 mlVw_62 rfl (Nat.le_of_ble_eq_true rfl) (Nat.le_of_ble_eq_true rfl) rc4 ((p_Gr_cells D σ rfl).dle (by omega)) ?_
  refine hl_cNi (D := D) (z := y2) (n := 2) (av := [.int v1, .int (f_Gr_cells σ)]) (st := []) d141_8 mlVw_46 rfl (Nat.le_of_ble_eq_true rfl) (Nat.le_of_ble_eq_true rfl) ((p_X_within D v1 (f_Gr_cells σ) σ rfl).dle (by omega)) ?_
  refine hl_if_eq (tg := 29) d141_11 rfl (fun hc => ?_) (fun hc => ?_)
  · have h := hl_pos hc h
    refine hl_iconst d141_29 ki0 ?_
    subst h
    exact hl_iret d141_30 rfl
  · have h := hl_neg hc h
    refine hl_aload_n (i := 0) d141_14 rfl rfl (by decide) ?_
    refine hl_gl d141_15 gVw_19_37 ?_
    refine hl_aload_n (i := 0) d141_18 rfl rfl (by decide) ?_
    refine hl_gl d141_19 gVw_23_37 ?_
    refine hl_iload_n (i := 1) d141_22 rfl rfl ?_
    refine hl_cNi (D := D) (z := y37) (n := 3) (av := [.long (σ.2 37 2), .long (σ.2 37 3), .int v1]) (st := []) d141_23 mlVw_66 rfl (Nat.le_of_ble_eq_true rfl) (Nat.le_of_ble_eq_true rfl) ((p_X_lampIn D (σ.2 37 2) (σ.2 37 3) v1 σ rfl).dle (by omega)) ?_
    refine hl_goto (tg := 30) d141_26 rfl ?_
    subst h
    exact hl_iret d141_30 rfl
def f_X_lit (v1 : Int32) (v2 : Int32) (σ : hl_M) : Option (Int32 × hl_M) :=
  if (f_X_within v1 100) = 0 then
  some (((-1), σ)) else
  if (f_X_within v2 (f_Gr_cells σ)) = 0 then
  some (((-1), σ)) else
  (f_Vw_look v1 ((-1)) σ).bind fun x1 =>
  some ((f_Vw_lampOn v2 x1, x1))
set_option maxRecDepth 20000 in
theorem p_X_lit {X : hl_X} (D : Nat) (v1 : Int32) (v2 : Int32) (σ : hl_M) {r : Int32} {τ : hl_M} (h : f_X_lit v1 v2 σ = some (r, τ)) : hl_R X (D + 3) y140 0 [(0, .ref 0), (1, .int v1), (2, .int v2)] [] σ (some (.int r)) τ := by
  unfold f_X_lit at h
  refine hl_iload_n (i := 1) d140_0 rfl rfl ?_
  refine hl_bipush d140_1 kb100 ?_
  refine hl_cSi (D := (D + 2)) (z := y2) (n := 2) (av := [.int v1, .int 100]) (st := []) d140_3 mlX_154 rfl (Nat.le_of_ble_eq_true rfl) (Nat.le_of_ble_eq_true rfl) ((p_X_within D v1 100 σ rfl).dle (by omega)) ?_
  refine hl_if_eq (tg := 23) d140_6 rfl (fun hc => ?_) (fun hc => ?_)
  · have h := hl_pos hc h
    refine hl_iconst d140_23 kim1 ?_
    obtain ⟨e1, e2⟩ := hl_some2 h
    subst e1; subst e2
    exact hl_iret d140_24 rfl
  · have h := hl_neg hc h
    refine hl_iload_n (i := 2) d140_9 rfl rfl ?_
    refine hl_aload_n (i := 0) d140_10 rfl rfl (by decide) ?_
    refine hl_gr d140_11 gX_28_0 ?_
    refine hl_cVi (D := (D + 2)) (z := y50) (n := 0) (av := []) (st := [.int v2]) d140_14 mlX_200 rfl (Nat.le_of_ble_eq_true rfl) (Nat.le_of_ble_eq_true rfl) rc4 ((p_Gr_cells D σ rfl).dle (by omega)) ?_
    refine hl_cSi (D := (D + 2)) (z := y2) (n := 2) (av := [.int v2, .int (f_Gr_cells σ)]) (st := []) d140_17 mlX_154 rfl (Nat.le_of_ble_eq_true rfl) (Nat.le_of_ble_eq_true rfl) ((p_X_within D v2 (f_Gr_cells σ) σ rfl).dle (by omega)) ?_
    refine hl_if_ne (tg := 25) d140_20 rfl (fun hc => ?_) (fun hc => ?_)
    · have h := hl_neg hc h
      refine hl_aload_n (i := 0) d140_25 rfl rfl (by decide) ?_
      refine hl_gr d140_26 gX_58_0 ?_
      refine hl_iload_n (i := 1) d140_29 rfl rfl ?_
      refine hl_iconst d140_30 kim1 ?_
      obtain ⟨x1, hx1, h⟩ := hl_bind h
      refine hl_cVv (D := (D + 2)) (z := y103) (n := 2) (av := [.int v1, .int ((-1))]) (st := []) d140_31 mlX_219 rfl (Nat.le_of_ble_eq_true rfl) (Nat.le_of_ble_eq_true rfl) rc37 ((p_Vw_look D v1 ((-1)) σ hx1).dle (by omega)) ?_
      refine hl_aload_n (i := 0) d140_34 rfl rfl (by decide) ?_
      refine hl_gr d140_35 gX_58_0 ?_
      refine hl_iload_n (i := 2) d140_38 rfl rfl ?_
      refine hl_cVi (D := (D + 2)) (z := y141) (n := 1) (av := [.int v2]) (st := []) d140_39 mlX_223 rfl (Nat.le_of_ble_eq_true rfl) (Nat.le_of_ble_eq_true rfl) rc37 ((p_Vw_lampOn D v2 x1 rfl).dle (by omega)) ?_
      obtain ⟨e1, e2⟩ := hl_some2 h
      subst e1; subst e2
      exact hl_iret d140_42 rfl
    · have h := hl_pos hc h
      refine hl_iconst d140_23 kim1 ?_
      obtain ⟨e1, e2⟩ := hl_some2 h
      subst e1; subst e2
      exact hl_iret d140_24 rfl
def f_M_lit (v1 : Int32) (v2 : Int32) (σ : hl_M) : Option (Int32) :=
  if (f_M_isBeat v1) = 0 then
  some ((-1)) else
  if (f_M_isCell v2 σ) = 0 then
  some ((-1)) else
  (f_M_litIn v1 v2 σ).bind fun x1 =>
  some x1
set_option maxRecDepth 20000 in
theorem p_M_lit {X : hl_X} (D : Nat) (v1 : Int32) (v2 : Int32) (σ : hl_M) {r : Int32} (h : f_M_lit v1 v2 σ = some r) : hl_R X (D + 2) y142 0 [(0, .ref 64), (1, .int v1), (2, .int v2)] [] σ (some (.int r)) σ := by
  unfold f_M_lit at h
  refine hl_iload_n (i := 1) d142_0 rfl rfl ?_
  refine hl_cSi (D := (D + 1)) (z := y139) (n := 1) (av := [.int v1]) (st := []) d142_1 mlM_409 rfl (Nat.le_of_ble_eq_true rfl) (Nat.le_of_ble_eq_true rfl) ((p_M_isBeat D v1 σ rfl).dle (by omega)) ?_
  refine hl_if_eq (tg := 24) d142_4 rfl (fun hc => ?_) (fun hc => ?_)
  · have h := hl_pos hc h
    refine hl_iconst d142_24 kim1 ?_
    have h := Option.some.inj h
    subst h
    exact hl_iret d142_25 rfl
  · have h := hl_neg hc h
    refine hl_aload_n (i := 0) d142_7 rfl rfl (by decide) ?_
    refine hl_iload_n (i := 2) d142_8 rfl rfl ?_
    refine hl_cVi (D := (D + 1)) (z := y134) (n := 1) (av := [.int v2]) (st := []) d142_9 mlM_332 rfl (Nat.le_of_ble_eq_true rfl) (Nat.le_of_ble_eq_true rfl) rc64 ((p_M_isCell D v2 σ rfl).dle (by omega)) ?_
    refine hl_if_eq (tg := 24) d142_12 rfl (fun hc => ?_) (fun hc => ?_)
    · have h := hl_pos hc h
      refine hl_iconst d142_24 kim1 ?_
      have h := Option.some.inj h
      subst h
      exact hl_iret d142_25 rfl
    · have h := hl_neg hc h
      refine hl_aload_n (i := 0) d142_15 rfl rfl (by decide) ?_
      refine hl_iload_n (i := 1) d142_16 rfl rfl ?_
      refine hl_iload_n (i := 2) d142_17 rfl rfl ?_
      obtain ⟨x1, hx1, h⟩ := hl_bind h
      refine hl_cVi (D := (D + 1)) (z := y116) (n := 2) (av := [.int v1, .int v2]) (st := []) d142_18 mlM_361 rfl (Nat.le_of_ble_eq_true rfl) (Nat.le_of_ble_eq_true rfl) rc64 ((p_M_litIn D v1 v2 σ hx1).dle (by omega)) ?_
      refine hl_goto (tg := 25) d142_21 rfl ?_
      have h := Option.some.inj h
      subst h
      exact hl_iret d142_25 rfl
def f_Wk_areInClash (v1 : Int32) (v2 : Int32) (v3 : Int32) (σ : hl_M) : Option (Int32) :=
  (f_Wk_cellOf v1 v3 σ).bind fun x1 =>
  (f_Wk_cellOf v2 v3 σ).bind fun x2 =>
  if x1 = x2 then
  some 1 else
  if v3 ≤ 0 then
  some 0 else
  (f_Wk_cellOf v2 (v3 - 1) σ).bind fun x3 =>
  if x1 = x3 then
  (f_Wk_cellOf v1 (v3 - 1) σ).bind fun x4 =>
  if x2 = x4 then
  some 1 else
  some 0 else
  some 0
set_option maxRecDepth 20000 in
theorem p_Wk_areInClash {X : hl_X} (D : Nat) (v1 : Int32) (v2 : Int32) (v3 : Int32) (σ : hl_M) {r : Int32} (h : f_Wk_areInClash v1 v2 v3 σ = some r) : hl_R X (D + 2) y145 0 [(0, .ref 25), (1, .int v1), (2, .int v2), (3, .int v3)] [] σ (some (.int r)) σ := by
  unfold f_Wk_areInClash at h
  refine hl_aload_n (i := 0) d145_0 rfl rfl (by decide) ?_
  refine hl_iload_n (i := 1) d145_1 rfl rfl ?_
  refine hl_iload_n (i := 3) d145_2 rfl rfl ?_
  obtain ⟨x1, hx1, h⟩ := hl_bind h
  refine hl_cVi (D := (D + 1)) (z := y104) (n := 2) (av := [.int v1, .int v3]) (st := []) d145_3 mlWk_45 rfl (Nat.le_of_ble_eq_true rfl) (Nat.le_of_ble_eq_true rfl) rc25 ((p_Wk_cellOf D v1 v3 σ hx1).dle (by omega)) ?_
  refine hl_istore (ls2 := [(4, .int x1), (0, .ref 25), (1, .int v1), (2, .int v2), (3, .int v3)]) d145_6 (by decide) rfl ?_
  refine hl_aload_n (i := 0) d145_8 rfl rfl (by decide) ?_
  refine hl_iload_n (i := 2) d145_9 rfl rfl ?_
  refine hl_iload_n (i := 3) d145_10 rfl rfl ?_
  obtain ⟨x2, hx2, h⟩ := hl_bind h
  refine hl_cVi (D := (D + 1)) (z := y104) (n := 2) (av := [.int v2, .int v3]) (st := []) d145_11 mlWk_45 rfl (Nat.le_of_ble_eq_true rfl) (Nat.le_of_ble_eq_true rfl) rc25 ((p_Wk_cellOf D v2 v3 σ hx2).dle (by omega)) ?_
  refine hl_istore (ls2 := [(5, .int x2), (4, .int x1), (0, .ref 25), (1, .int v1), (2, .int v2), (3, .int v3)]) d145_14 (by decide) rfl ?_
  refine hl_iload d145_16 rfl ?_
  refine hl_iload d145_18 rfl ?_
  refine hl_icmp_ne (tg := 25) d145_20 rfl (fun hc => ?_) (fun hc => ?_)
  · have h := hl_neg hc h
    refine hl_iload_n (i := 3) d145_25 rfl rfl ?_
    refine hl_if_le (tg := 59) d145_26 rfl (fun hc => ?_) (fun hc => ?_)
    · have h := hl_pos hc h
      refine hl_iconst d145_59 ki0 ?_
      have h := Option.some.inj h
      subst h
      exact hl_zret d145_60 rfl (by decide)
    · have h := hl_neg hc h
      refine hl_iload d145_29 rfl ?_
      refine hl_aload_n (i := 0) d145_31 rfl rfl (by decide) ?_
      refine hl_iload_n (i := 2) d145_32 rfl rfl ?_
      refine hl_iload_n (i := 3) d145_33 rfl rfl ?_
      refine hl_iconst d145_34 ki1 ?_
      refine hl_isub d145_35 ?_
      obtain ⟨x3, hx3, h⟩ := hl_bind h
      refine hl_cVi (D := (D + 1)) (z := y104) (n := 2) (av := [.int v2, .int (v3 - 1)]) (st := [.int x1]) d145_36 mlWk_45 rfl (Nat.le_of_ble_eq_true rfl) (Nat.le_of_ble_eq_true rfl) rc25 ((p_Wk_cellOf D v2 (v3 - 1) σ hx3).dle (by omega)) ?_
      refine hl_icmp_ne (tg := 59) d145_39 rfl (fun hc => ?_) (fun hc => ?_)
      · have h := hl_neg hc h
        refine hl_iconst d145_59 ki0 ?_
        have h := Option.some.inj h
        subst h
        exact hl_zret d145_60 rfl (by decide)
      · have h := hl_pos hc h
        refine hl_iload d145_42 rfl ?_
        refine hl_aload_n (i := 0) d145_44 rfl rfl (by decide) ?_
        refine hl_iload_n (i := 1) d145_45 rfl rfl ?_
        refine hl_iload_n (i := 3) d145_46 rfl rfl ?_
        refine hl_iconst d145_47 ki1 ?_
        refine hl_isub d145_48 ?_
        obtain ⟨x4, hx4, h⟩ := hl_bind h
        refine hl_cVi (D := (D + 1)) (z := y104) (n := 2) (av := [.int v1, .int (v3 - 1)]) (st := [.int x2]) d145_49 mlWk_45 rfl (Nat.le_of_ble_eq_true rfl) (Nat.le_of_ble_eq_true rfl) rc25 ((p_Wk_cellOf D v1 (v3 - 1) σ hx4).dle (by omega)) ?_
        refine hl_icmp_ne (tg := 59) d145_52 rfl (fun hc => ?_) (fun hc => ?_)
        · have h := hl_neg hc h
          refine hl_iconst d145_59 ki0 ?_
          have h := Option.some.inj h
          subst h
          exact hl_zret d145_60 rfl (by decide)
        · have h := hl_pos hc h
          refine hl_iconst d145_55 ki1 ?_
          refine hl_goto (tg := 60) d145_56 rfl ?_
          have h := Option.some.inj h
          subst h
          exact hl_zret d145_60 rfl (by decide)
  · have h := hl_pos hc h
    refine hl_iconst d145_23 ki1 ?_
    have h := Option.some.inj h
    subst h
    exact hl_zret d145_24 rfl (by decide)
def f_Wk_clashIn_L17 (v1 : Int32) (v2 : Int32) (σ : hl_M) (s : Int32) : Option ((Int32) ⊕ ((Unit) ⊕ (Int32))) :=
  if (σ.1 4 3) ≤ s then
  some (.inr (.inl (()))) else
  (f_Wk_areInClash v2 s v1 σ).bind fun x1 =>
  if x1 = 0 then
  some (.inl (s + 1)) else
  some (.inr (.inr (s)))
def f_Wk_clashIn_L2 (v1 : Int32) (σ : hl_M) (s : Int32) : Option ((Int32) ⊕ ((Int32 × Int32) ⊕ (Int32))) :=
  if (σ.1 4 3) ≤ s then
  some (.inr (.inr (((-1))))) else
  (hl_lp (f_Wk_clashIn_L17 v1 s σ) hl_big (s + 1)).bind fun x2 =>
  Sum.elim (fun x3 =>
  some (.inl (s + 1))) (fun x4 =>
  some (.inr (.inl ((s, x4))))) x2
def f_Wk_clashIn (v1 : Int32) (σ : hl_M) : Option (Int32) :=
  (hl_lp (f_Wk_clashIn_L2 v1 σ) hl_big 0).bind fun x5 =>
  Sum.elim (fun x6 =>
  some ((x6.1 * 10) + x6.2)) (fun x7 =>
  some x7) x5
set_option maxRecDepth 20000 in
theorem p_Wk_clashIn_L17 {X : hl_X} (D : Nat) (v1 : Int32) (v2 : Int32) (σ : hl_M) (s : Int32) {o : (Int32) ⊕ ((Unit) ⊕ (Int32))} {v : Option Value} (h : f_Wk_clashIn_L17 v1 v2 σ s = some o) (k1 : ∀ (c0 : Int32), o = .inl c0 → hl_R X (D + 3) y144 17 [(0, .ref 25), (1, .int v1), (2, .int v2), (3, .int c0)] [] σ v σ) (k2 : o = .inr (.inl ()) → hl_R X (D + 3) y144 51 [(0, .ref 25), (1, .int v1), (2, .int v2)] [] σ v σ) (k3 : ∀ (a0 : Int32), o = .inr (.inr (a0)) → hl_R X (D + 3) y144 38 [(2, .int v2), (3, .int a0)] [] σ v σ) : hl_R X (D + 3) y144 17 [(0, .ref 25), (1, .int v1), (2, .int v2), (3, .int s)] [] σ v σ := by
  unfold f_Wk_clashIn_L17 at h
  refine hl_iload_n (i := 3) d144_17 rfl rfl ?_
  refine hl_aload_n (i := 0) d144_18 rfl rfl (by decide) ?_
  refine hl_gr d144_19 gWk_16_25 ?_
  refine hl_gi d144_22 gWk_20_4 ?_
  refine hl_icmp_ge (tg := 51) d144_25 rfl (fun hc => ?_) (fun hc => ?_)
  · have h := hl_pos hc h
    have h := Option.some.inj h
    subst h
    exact hl_loc (k2 rfl) ⟨rfl, rfl, rfl, trivial⟩
  · have h := hl_neg hc h
    refine hl_aload_n (i := 0) d144_28 rfl rfl (by decide) ?_
    refine hl_iload_n (i := 2) d144_29 rfl rfl ?_
    refine hl_iload_n (i := 3) d144_30 rfl rfl ?_
    refine hl_iload_n (i := 1) d144_31 rfl rfl ?_
    obtain ⟨x1, hx1, h⟩ := hl_bind h
    refine hl_cVi (D := (D + 2)) (z := y145) (n := 3) (av := [.int v2, .int s, .int v1]) (st := []) d144_32 mlWk_48 rfl (Nat.le_of_ble_eq_true rfl) (Nat.le_of_ble_eq_true rfl) rc25 ((p_Wk_areInClash D v2 s v1 σ hx1).dle (by omega)) ?_
    refine hl_if_eq (tg := 45) d144_35 rfl (fun hc => ?_) (fun hc => ?_)
    · have h := hl_pos hc h
      refine hl_iinc (ls2 := [(3, .int (s + 1)), (0, .ref 25), (1, .int v1), (2, .int v2)]) d144_45 rfl kx1 (by decide) rfl ?_
      refine hl_goto (tg := 17) d144_48 rfl ?_
      have h := Option.some.inj h
      subst h
      exact hl_loc (k1 (s + 1) rfl) ⟨rfl, rfl, rfl, rfl, trivial⟩
    · have h := hl_neg hc h
      have h := Option.some.inj h
      subst h
      exact hl_loc (k3 s rfl) ⟨rfl, rfl, trivial⟩
set_option maxRecDepth 20000 in
theorem p_Wk_clashIn_L2 {X : hl_X} (D : Nat) (v1 : Int32) (σ : hl_M) (s : Int32) {o : (Int32) ⊕ ((Int32 × Int32) ⊕ (Int32))} {v : Option Value} (h : f_Wk_clashIn_L2 v1 σ s = some o) (k1 : ∀ (c0 : Int32), o = .inl c0 → hl_R X (D + 3) y144 2 [(0, .ref 25), (1, .int v1), (2, .int c0)] [] σ v σ) (k2 : ∀ (a0 : Int32) (a1 : Int32), o = .inr (.inl (a0, a1)) → hl_R X (D + 3) y144 38 [(2, .int a0), (3, .int a1)] [] σ v σ) (kr : ∀ (a : Int32), o = .inr (.inr (a)) → v = some (.int a)) : hl_R X (D + 3) y144 2 [(0, .ref 25), (1, .int v1), (2, .int s)] [] σ v σ := by
  unfold f_Wk_clashIn_L2 at h
  refine hl_iload_n (i := 2) d144_2 rfl rfl ?_
  refine hl_aload_n (i := 0) d144_3 rfl rfl (by decide) ?_
  refine hl_gr d144_4 gWk_16_25 ?_
  refine hl_gi d144_7 gWk_20_4 ?_
  refine hl_icmp_ge (tg := 57) d144_10 rfl (fun hc => ?_) (fun hc => ?_)
  · have h := hl_pos hc h
    refine hl_iconst d144_57 kim1 ?_
    have h := Option.some.inj h
    subst h
    have e1 := kr ((-1)) rfl
    subst e1
    exact hl_iret d144_58 rfl
  · have h := hl_neg hc h
    refine hl_iload_n (i := 2) d144_13 rfl rfl ?_
    refine hl_iconst d144_14 ki1 ?_
    refine hl_iadd d144_15 ?_
    refine hl_istore_n (i := 3) (ls2 := [(3, .int (s + 1)), (0, .ref 25), (1, .int v1), (2, .int s)]) d144_16 rfl (by decide) rfl ?_
    obtain ⟨x2, hx2, h⟩ := hl_bind h
    refine hl_R.loc (ls' := [(0, .ref 25), (1, .int v1), (2, .int s), (3, .int (s + 1))]) ⟨rfl, rfl, rfl, rfl, trivial⟩ ?_
    refine hl_lp_run1 (P := fun (c0 : Int32) => hl_R X (D + 3) y144 17 [(0, .ref 25), (1, .int v1), (2, .int s), (3, .int c0)] [] σ v σ) (Sum.elim (fun x : Unit => hl_R X (D + 3) y144 51 [(0, .ref 25), (1, .int v1), (2, .int s)] [] σ v σ) (fun x : Int32 => hl_R X (D + 3) y144 38 [(2, .int s), (3, .int x)] [] σ v σ)) (fun c0 o ho h1 h2 => p_Wk_clashIn_L17 D v1 s σ c0 ho h1 (fun e => h2 (.inl ()) e) (fun a0 e => h2 (.inr (a0)) e)) hl_big (s + 1) x2 hx2 ?_
    rcases hl_sum h with ⟨x3, e_x3, h⟩ | ⟨x4, e_x4, h⟩
    · subst e_x3
      refine hl_iinc (ls2 := [(2, .int (s + 1)), (0, .ref 25), (1, .int v1)]) d144_51 rfl kx1 (by decide) rfl ?_
      refine hl_goto (tg := 2) d144_54 rfl ?_
      have h := Option.some.inj h
      subst h
      exact hl_loc (k1 (s + 1) rfl) ⟨rfl, rfl, rfl, trivial⟩
    · subst e_x4
      have h := Option.some.inj h
      subst h
      exact hl_loc (k2 s x4 rfl) ⟨rfl, rfl, trivial⟩
set_option maxRecDepth 20000 in
theorem p_Wk_clashIn {X : hl_X} (D : Nat) (v1 : Int32) (σ : hl_M) {r : Int32} (h : f_Wk_clashIn v1 σ = some r) : hl_R X (D + 3) y144 0 [(0, .ref 25), (1, .int v1)] [] σ (some (.int r)) σ := by
  unfold f_Wk_clashIn at h
  refine hl_iconst d144_0 ki0 ?_
  refine hl_istore_n (i := 2) (ls2 := [(2, .int 0), (0, .ref 25), (1, .int v1)]) d144_1 rfl (by decide) rfl ?_
  obtain ⟨x5, hx5, h⟩ := hl_bind h
  refine hl_R.loc (ls' := [(0, .ref 25), (1, .int v1), (2, .int 0)]) ⟨rfl, rfl, rfl, trivial⟩ ?_
  refine hl_lp_run1 (P := fun (c0 : Int32) => hl_R X (D + 3) y144 2 [(0, .ref 25), (1, .int v1), (2, .int c0)] [] σ (some (.int r)) σ) (Sum.elim (fun x : Int32 × Int32 => hl_R X (D + 3) y144 38 [(2, .int x.1), (3, .int x.2)] [] σ (some (.int r)) σ) (fun a : Int32 => ((some (.int r)) : Option Value) = some (.int a))) (fun c0 o ho h1 h2 => p_Wk_clashIn_L2 D v1 σ c0 ho h1 (fun a0 a1 e => h2 (.inl (a0, a1)) e) (fun a e => h2 (.inr (a)) e)) hl_big 0 x5 hx5 ?_
  rcases hl_sum h with ⟨x6, e_x6, h⟩ | ⟨x7, e_x7, h⟩
  · subst e_x6
    refine hl_iload_n (i := 2) d144_38 rfl rfl ?_
    refine hl_bipush d144_39 kb10 ?_
    refine hl_imul d144_41 ?_
    refine hl_iload_n (i := 3) d144_42 rfl rfl ?_
    refine hl_iadd d144_43 ?_
    have h := Option.some.inj h
    subst h
    exact hl_iret d144_44 rfl
  · subst e_x7
    cases h
    rfl
def f_X_clash_L12 (v1 : Int32) (σ : hl_M) (s : Int32) : Option ((Int32) ⊕ ((Int32 × Int32) ⊕ (Int32))) :=
  if 100 ≤ s then
  some (.inr (.inr (((-1))))) else
  (f_Wk_clashIn s σ).bind fun x1 =>
  if x1 = ((-1)) then
  some (.inl (s + 1)) else
  some (.inr (.inl ((s, x1))))
def f_X_clash (v1 : Int32) (σ : hl_M) : Option (Int32) :=
  if (f_X_within v1 3) = 0 then
  some ((-1)) else
  (hl_lp (f_X_clash_L12 v1 σ) hl_big 0).bind fun x2 =>
  Sum.elim (fun x3 =>
  if v1 = 0 then
  some x3.1 else
  if v1 = 1 then
  some (x3.2 / 10) else
  some (x3.2 - x3.2 / 10 * 10)) (fun x4 =>
  some x4) x2
set_option maxRecDepth 20000 in
theorem p_X_clash_L12 {X : hl_X} (D : Nat) (v1 : Int32) (σ : hl_M) (s : Int32) {o : (Int32) ⊕ ((Int32 × Int32) ⊕ (Int32))} {v : Option Value} (h : f_X_clash_L12 v1 σ s = some o) (k1 : ∀ (c0 : Int32), o = .inl c0 → hl_R X (D + 4) y143 12 [(0, .ref 0), (1, .int v1), (2, .int c0)] [] σ v σ) (k2 : ∀ (a0 : Int32) (a1 : Int32), o = .inr (.inl (a0, a1)) → hl_R X (D + 4) y143 32 [(1, .int v1), (2, .int a0), (3, .int a1)] [] σ v σ) (kr : ∀ (a : Int32), o = .inr (.inr (a)) → v = some (.int a)) : hl_R X (D + 4) y143 12 [(0, .ref 0), (1, .int v1), (2, .int s)] [] σ v σ := by
  unfold f_X_clash_L12 at h
  refine hl_iload_n (i := 2) d143_12 rfl rfl ?_
  refine hl_bipush d143_13 kb100 ?_
  refine hl_icmp_ge (tg := 63) d143_15 rfl (fun hc => ?_) (fun hc => ?_)
  · have h := hl_pos hc h
    refine hl_iconst d143_63 kim1 ?_
    have h := Option.some.inj h
    subst h
    have e1 := kr ((-1)) rfl
    subst e1
    exact hl_iret d143_64 rfl
  · have h := hl_neg hc h
    refine hl_aload_n (i := 0) d143_18 rfl rfl (by decide) ?_
    refine hl_gr d143_19 gX_49_0 ?_
    refine hl_iload_n (i := 2) d143_22 rfl rfl ?_
    obtain ⟨x1, hx1, h⟩ := hl_bind h
    refine hl_cVi (D := (D + 3)) (z := y144) (n := 1) (av := [.int s]) (st := []) d143_23 mlX_226 rfl (Nat.le_of_ble_eq_true rfl) (Nat.le_of_ble_eq_true rfl) rc25 ((p_Wk_clashIn D s σ hx1).dle (by omega)) ?_
    refine hl_istore_n (i := 3) (ls2 := [(3, .int x1), (0, .ref 0), (1, .int v1), (2, .int s)]) d143_26 rfl (by decide) rfl ?_
    refine hl_iload_n (i := 3) d143_27 rfl rfl ?_
    refine hl_iconst d143_28 kim1 ?_
    refine hl_icmp_eq (tg := 57) d143_29 rfl (fun hc => ?_) (fun hc => ?_)
    · have h := hl_pos hc h
      refine hl_iinc (ls2 := [(2, .int (s + 1)), (3, .int x1), (0, .ref 0), (1, .int v1)]) d143_57 rfl kx1 (by decide) rfl ?_
      refine hl_goto (tg := 12) d143_60 rfl ?_
      have h := Option.some.inj h
      subst h
      exact hl_loc (k1 (s + 1) rfl) ⟨rfl, rfl, rfl, trivial⟩
    · have h := hl_neg hc h
      have h := Option.some.inj h
      subst h
      exact hl_loc (k2 s x1 rfl) ⟨rfl, rfl, rfl, trivial⟩
set_option maxRecDepth 20000 in
theorem p_X_clash {X : hl_X} (D : Nat) (v1 : Int32) (σ : hl_M) {r : Int32} (h : f_X_clash v1 σ = some r) : hl_R X (D + 4) y143 0 [(0, .ref 0), (1, .int v1)] [] σ (some (.int r)) σ := by
  unfold f_X_clash at h
  refine hl_iload_n (i := 1) d143_0 rfl rfl ?_
  refine hl_iconst d143_1 ki3 ?_
  refine hl_cSi (D := (D + 3)) (z := y2) (n := 2) (av := [.int v1, .int 3]) (st := []) d143_2 mlX_154 rfl (Nat.le_of_ble_eq_true rfl) (Nat.le_of_ble_eq_true rfl) ((p_X_within D v1 3 σ rfl).dle (by omega)) ?_
  refine hl_if_ne (tg := 10) d143_5 rfl (fun hc => ?_) (fun hc => ?_)
  · have h := hl_neg hc h
    refine hl_iconst d143_10 ki0 ?_
    refine hl_istore_n (i := 2) (ls2 := [(2, .int 0), (0, .ref 0), (1, .int v1)]) d143_11 rfl (by decide) rfl ?_
    obtain ⟨x2, hx2, h⟩ := hl_bind h
    refine hl_R.loc (ls' := [(0, .ref 0), (1, .int v1), (2, .int 0)]) ⟨rfl, rfl, rfl, trivial⟩ ?_
    refine hl_lp_run1 (P := fun (c0 : Int32) => hl_R X (D + 4) y143 12 [(0, .ref 0), (1, .int v1), (2, .int c0)] [] σ (some (.int r)) σ) (Sum.elim (fun x : Int32 × Int32 => hl_R X (D + 4) y143 32 [(1, .int v1), (2, .int x.1), (3, .int x.2)] [] σ (some (.int r)) σ) (fun a : Int32 => ((some (.int r)) : Option Value) = some (.int a))) (fun c0 o ho h1 h2 => p_X_clash_L12 D v1 σ c0 ho h1 (fun a0 a1 e => h2 (.inl (a0, a1)) e) (fun a e => h2 (.inr (a)) e)) hl_big 0 x2 hx2 ?_
    rcases hl_sum h with ⟨x3, e_x3, h⟩ | ⟨x4, e_x4, h⟩
    · subst e_x3
      refine hl_iload_n (i := 1) d143_32 rfl rfl ?_
      refine hl_if_ne (tg := 40) d143_33 rfl (fun hc => ?_) (fun hc => ?_)
      · have h := hl_neg hc h
        refine hl_iload_n (i := 1) d143_40 rfl rfl ?_
        refine hl_iconst d143_41 ki1 ?_
        refine hl_icmp_ne (tg := 52) d143_42 rfl (fun hc => ?_) (fun hc => ?_)
        · have h := hl_neg hc h
          refine hl_iload_n (i := 3) d143_52 rfl rfl ?_
          refine hl_bipush d143_53 kb10 ?_
          refine hl_irem d143_55 (by decide) ?_
          have h := Option.some.inj h
          subst h
          exact hl_iret d143_56 rfl
        · have h := hl_pos hc h
          refine hl_iload_n (i := 3) d143_45 rfl rfl ?_
          refine hl_bipush d143_46 kb10 ?_
          refine hl_idiv d143_48 (by decide) ?_
          refine hl_goto (tg := 56) d143_49 rfl ?_
          have h := Option.some.inj h
          subst h
          exact hl_iret d143_56 rfl
      · have h := hl_pos hc h
        refine hl_iload_n (i := 2) d143_36 rfl rfl ?_
        refine hl_goto (tg := 56) d143_37 rfl ?_
        have h := Option.some.inj h
        subst h
        exact hl_iret d143_56 rfl
    · subst e_x4
      cases h
      rfl
  · have h := hl_pos hc h
    refine hl_iconst d143_8 kim1 ?_
    have h := Option.some.inj h
    subst h
    exact hl_iret d143_9 rfl
def f_M_doClash (v1 : Int32) (v2 : Int32) (v3 : Int32) (σ : hl_M) : Option (Int32) :=
  (f_M_whereIn v1 v3 σ).bind fun x1 =>
  (f_M_whereIn v2 v3 σ).bind fun x2 =>
  if x1 = x2 then
  some 1 else
  if v3 ≤ 0 then
  some 0 else
  (f_M_whereIn v1 v3 σ).bind fun x3 =>
  (f_M_whereIn v2 (v3 - 1) σ).bind fun x4 =>
  if x3 = x4 then
  (f_M_whereIn v2 v3 σ).bind fun x5 =>
  (f_M_whereIn v1 (v3 - 1) σ).bind fun x6 =>
  if x5 = x6 then
  some 1 else
  some 0 else
  some 0
set_option maxRecDepth 20000 in
theorem p_M_doClash {X : hl_X} (D : Nat) (v1 : Int32) (v2 : Int32) (v3 : Int32) (σ : hl_M) {r : Int32} (h : f_M_doClash v1 v2 v3 σ = some r) : hl_R X (D + 1) y148 0 [(0, .ref 64), (1, .int v1), (2, .int v2), (3, .int v3)] [] σ (some (.int r)) σ := by
  unfold f_M_doClash at h
  refine hl_aload_n (i := 0) d148_0 rfl rfl (by decide) ?_
  refine hl_iload_n (i := 1) d148_1 rfl rfl ?_
  refine hl_iload_n (i := 3) d148_2 rfl rfl ?_
  obtain ⟨x1, hx1, h⟩ := hl_bind h
  refine hl_cVi (D := D) (z := y117) (n := 2) (av := [.int v1, .int v3]) (st := []) d148_3 mlM_349 rfl (Nat.le_of_ble_eq_true rfl) (Nat.le_of_ble_eq_true rfl) rc64 ((p_M_whereIn D v1 v3 σ hx1).dle (by omega)) ?_
  refine hl_aload_n (i := 0) d148_6 rfl rfl (by decide) ?_
  refine hl_iload_n (i := 2) d148_7 rfl rfl ?_
  refine hl_iload_n (i := 3) d148_8 rfl rfl ?_
  obtain ⟨x2, hx2, h⟩ := hl_bind h
  refine hl_cVi (D := D) (z := y117) (n := 2) (av := [.int v2, .int v3]) (st := [.int x1]) d148_9 mlM_349 rfl (Nat.le_of_ble_eq_true rfl) (Nat.le_of_ble_eq_true rfl) rc64 ((p_M_whereIn D v2 v3 σ hx2).dle (by omega)) ?_
  refine hl_icmp_ne (tg := 17) d148_12 rfl (fun hc => ?_) (fun hc => ?_)
  · have h := hl_neg hc h
    refine hl_iload_n (i := 3) d148_17 rfl rfl ?_
    refine hl_if_le (tg := 59) d148_18 rfl (fun hc => ?_) (fun hc => ?_)
    · have h := hl_pos hc h
      refine hl_iconst d148_59 ki0 ?_
      have h := Option.some.inj h
      subst h
      exact hl_zret d148_60 rfl (by decide)
    · have h := hl_neg hc h
      refine hl_aload_n (i := 0) d148_21 rfl rfl (by decide) ?_
      refine hl_iload_n (i := 1) d148_22 rfl rfl ?_
      refine hl_iload_n (i := 3) d148_23 rfl rfl ?_
      obtain ⟨x3, hx3, h⟩ := hl_bind h
      refine hl_cVi (D := D) (z := y117) (n := 2) (av := [.int v1, .int v3]) (st := []) d148_24 mlM_349 rfl (Nat.le_of_ble_eq_true rfl) (Nat.le_of_ble_eq_true rfl) rc64 ((p_M_whereIn D v1 v3 σ hx3).dle (by omega)) ?_
      refine hl_aload_n (i := 0) d148_27 rfl rfl (by decide) ?_
      refine hl_iload_n (i := 2) d148_28 rfl rfl ?_
      refine hl_iload_n (i := 3) d148_29 rfl rfl ?_
      refine hl_iconst d148_30 ki1 ?_
      refine hl_isub d148_31 ?_
      obtain ⟨x4, hx4, h⟩ := hl_bind h
      refine hl_cVi (D := D) (z := y117) (n := 2) (av := [.int v2, .int (v3 - 1)]) (st := [.int x3]) d148_32 mlM_349 rfl (Nat.le_of_ble_eq_true rfl) (Nat.le_of_ble_eq_true rfl) rc64 ((p_M_whereIn D v2 (v3 - 1) σ hx4).dle (by omega)) ?_
      refine hl_icmp_ne (tg := 59) d148_35 rfl (fun hc => ?_) (fun hc => ?_)
      · have h := hl_neg hc h
        refine hl_iconst d148_59 ki0 ?_
        have h := Option.some.inj h
        subst h
        exact hl_zret d148_60 rfl (by decide)
      · have h := hl_pos hc h
        refine hl_aload_n (i := 0) d148_38 rfl rfl (by decide) ?_
        refine hl_iload_n (i := 2) d148_39 rfl rfl ?_
        refine hl_iload_n (i := 3) d148_40 rfl rfl ?_
        obtain ⟨x5, hx5, h⟩ := hl_bind h
        refine hl_cVi (D := D) (z := y117) (n := 2) (av := [.int v2, .int v3]) (st := []) d148_41 mlM_349 rfl (Nat.le_of_ble_eq_true rfl) (Nat.le_of_ble_eq_true rfl) rc64 ((p_M_whereIn D v2 v3 σ hx5).dle (by omega)) ?_
        refine hl_aload_n (i := 0) d148_44 rfl rfl (by decide) ?_
        refine hl_iload_n (i := 1) d148_45 rfl rfl ?_
        refine hl_iload_n (i := 3) d148_46 rfl rfl ?_
        refine hl_iconst d148_47 ki1 ?_
        refine hl_isub d148_48 ?_
        obtain ⟨x6, hx6, h⟩ := hl_bind h
        refine hl_cVi (D := D) (z := y117) (n := 2) (av := [.int v1, .int (v3 - 1)]) (st := [.int x5]) d148_49 mlM_349 rfl (Nat.le_of_ble_eq_true rfl) (Nat.le_of_ble_eq_true rfl) rc64 ((p_M_whereIn D v1 (v3 - 1) σ hx6).dle (by omega)) ?_
        refine hl_icmp_ne (tg := 59) d148_52 rfl (fun hc => ?_) (fun hc => ?_)
        · have h := hl_neg hc h
          refine hl_iconst d148_59 ki0 ?_
          have h := Option.some.inj h
          subst h
          exact hl_zret d148_60 rfl (by decide)
        · have h := hl_pos hc h
          refine hl_iconst d148_55 ki1 ?_
          refine hl_goto (tg := 60) d148_56 rfl ?_
          have h := Option.some.inj h
          subst h
          exact hl_zret d148_60 rfl (by decide)
  · have h := hl_pos hc h
    refine hl_iconst d148_15 ki1 ?_
    have h := Option.some.inj h
    subst h
    exact hl_zret d148_16 rfl (by decide)
def f_M_clashIn_L14 (v1 : Int32) (v2 : Int32) (σ : hl_M) (s : Int32) : Option ((Int32) ⊕ ((Unit) ⊕ (Int32))) :=
  (f_M_personMany σ).bind fun x2 =>
  if x2 ≤ s then
  some (.inr (.inl (()))) else
  (f_M_doClash v2 s v1 σ).bind fun x3 =>
  if x3 = 0 then
  some (.inl (s + 1)) else
  some (.inr (.inr (s)))
def f_M_clashIn_L2 (v1 : Int32) (σ : hl_M) (s : Int32) : Option ((Int32) ⊕ ((Int32 × Int32) ⊕ (Int32))) :=
  (f_M_personMany σ).bind fun x1 =>
  if x1 ≤ s then
  some (.inr (.inr (((-1))))) else
  (hl_lp (f_M_clashIn_L14 v1 s σ) hl_big (s + 1)).bind fun x4 =>
  Sum.elim (fun x5 =>
  some (.inl (s + 1))) (fun x6 =>
  some (.inr (.inl ((s, x6))))) x4
def f_M_clashIn (v1 : Int32) (σ : hl_M) : Option (Int32) :=
  (hl_lp (f_M_clashIn_L2 v1 σ) hl_big 0).bind fun x7 =>
  Sum.elim (fun x8 =>
  some ((10 * x8.1) + x8.2)) (fun x9 =>
  some x9) x7
set_option maxRecDepth 20000 in
theorem p_M_clashIn_L14 {X : hl_X} (D : Nat) (v1 : Int32) (v2 : Int32) (σ : hl_M) (s : Int32) {o : (Int32) ⊕ ((Unit) ⊕ (Int32))} {v : Option Value} (h : f_M_clashIn_L14 v1 v2 σ s = some o) (k1 : ∀ (c0 : Int32), o = .inl c0 → hl_R X (D + 2) y147 14 [(0, .ref 64), (1, .int v1), (2, .int v2), (3, .int c0)] [] σ v σ) (k2 : o = .inr (.inl ()) → hl_R X (D + 2) y147 45 [(0, .ref 64), (1, .int v1), (2, .int v2)] [] σ v σ) (k3 : ∀ (a0 : Int32), o = .inr (.inr (a0)) → hl_R X (D + 2) y147 32 [(2, .int v2), (3, .int a0)] [] σ v σ) : hl_R X (D + 2) y147 14 [(0, .ref 64), (1, .int v1), (2, .int v2), (3, .int s)] [] σ v σ := by
  unfold f_M_clashIn_L14 at h
  refine hl_iload_n (i := 3) d147_14 rfl rfl ?_
  refine hl_aload_n (i := 0) d147_15 rfl rfl (by decide) ?_
  obtain ⟨x2, hx2, h⟩ := hl_bind h
  refine hl_cVi (D := (D + 1)) (z := y93) (n := 0) (av := []) (st := [.int s]) d147_16 mlM_335 rfl (Nat.le_of_ble_eq_true rfl) (Nat.le_of_ble_eq_true rfl) rc64 ((p_M_personMany D σ hx2).dle (by omega)) ?_
  refine hl_icmp_ge (tg := 45) d147_19 rfl (fun hc => ?_) (fun hc => ?_)
  · have h := hl_pos hc h
    have h := Option.some.inj h
    subst h
    exact hl_loc (k2 rfl) ⟨rfl, rfl, rfl, trivial⟩
  · have h := hl_neg hc h
    refine hl_aload_n (i := 0) d147_22 rfl rfl (by decide) ?_
    refine hl_iload_n (i := 2) d147_23 rfl rfl ?_
    refine hl_iload_n (i := 3) d147_24 rfl rfl ?_
    refine hl_iload_n (i := 1) d147_25 rfl rfl ?_
    obtain ⟨x3, hx3, h⟩ := hl_bind h
    refine hl_cVi (D := (D + 1)) (z := y148) (n := 3) (av := [.int v2, .int s, .int v1]) (st := []) d147_26 mlM_352 rfl (Nat.le_of_ble_eq_true rfl) (Nat.le_of_ble_eq_true rfl) rc64 ((p_M_doClash D v2 s v1 σ hx3).dle (by omega)) ?_
    refine hl_if_eq (tg := 39) d147_29 rfl (fun hc => ?_) (fun hc => ?_)
    · have h := hl_pos hc h
      refine hl_iinc (ls2 := [(3, .int (s + 1)), (0, .ref 64), (1, .int v1), (2, .int v2)]) d147_39 rfl kx1 (by decide) rfl ?_
      refine hl_goto (tg := 14) d147_42 rfl ?_
      have h := Option.some.inj h
      subst h
      exact hl_loc (k1 (s + 1) rfl) ⟨rfl, rfl, rfl, rfl, trivial⟩
    · have h := hl_neg hc h
      have h := Option.some.inj h
      subst h
      exact hl_loc (k3 s rfl) ⟨rfl, rfl, trivial⟩
set_option maxRecDepth 20000 in
theorem p_M_clashIn_L2 {X : hl_X} (D : Nat) (v1 : Int32) (σ : hl_M) (s : Int32) {o : (Int32) ⊕ ((Int32 × Int32) ⊕ (Int32))} {v : Option Value} (h : f_M_clashIn_L2 v1 σ s = some o) (k1 : ∀ (c0 : Int32), o = .inl c0 → hl_R X (D + 2) y147 2 [(0, .ref 64), (1, .int v1), (2, .int c0)] [] σ v σ) (k2 : ∀ (a0 : Int32) (a1 : Int32), o = .inr (.inl (a0, a1)) → hl_R X (D + 2) y147 32 [(2, .int a0), (3, .int a1)] [] σ v σ) (kr : ∀ (a : Int32), o = .inr (.inr (a)) → v = some (.int a)) : hl_R X (D + 2) y147 2 [(0, .ref 64), (1, .int v1), (2, .int s)] [] σ v σ := by
  unfold f_M_clashIn_L2 at h
  refine hl_iload_n (i := 2) d147_2 rfl rfl ?_
  refine hl_aload_n (i := 0) d147_3 rfl rfl (by decide) ?_
  obtain ⟨x1, hx1, h⟩ := hl_bind h
  refine hl_cVi (D := (D + 1)) (z := y93) (n := 0) (av := []) (st := [.int s]) d147_4 mlM_335 rfl (Nat.le_of_ble_eq_true rfl) (Nat.le_of_ble_eq_true rfl) rc64 ((p_M_personMany D σ hx1).dle (by omega)) ?_
  refine hl_icmp_ge (tg := 51) d147_7 rfl (fun hc => ?_) (fun hc => ?_)
  · have h := hl_pos hc h
    refine hl_iconst d147_51 kim1 ?_
    have h := Option.some.inj h
    subst h
    have e1 := kr ((-1)) rfl
    subst e1
    exact hl_iret d147_52 rfl
  · have h := hl_neg hc h
    refine hl_iload_n (i := 2) d147_10 rfl rfl ?_
    refine hl_iconst d147_11 ki1 ?_
    refine hl_iadd d147_12 ?_
    refine hl_istore_n (i := 3) (ls2 := [(3, .int (s + 1)), (0, .ref 64), (1, .int v1), (2, .int s)]) d147_13 rfl (by decide) rfl ?_
    obtain ⟨x4, hx4, h⟩ := hl_bind h
    refine hl_R.loc (ls' := [(0, .ref 64), (1, .int v1), (2, .int s), (3, .int (s + 1))]) ⟨rfl, rfl, rfl, rfl, trivial⟩ ?_
    refine hl_lp_run1 (P := fun (c0 : Int32) => hl_R X (D + 2) y147 14 [(0, .ref 64), (1, .int v1), (2, .int s), (3, .int c0)] [] σ v σ) (Sum.elim (fun x : Unit => hl_R X (D + 2) y147 45 [(0, .ref 64), (1, .int v1), (2, .int s)] [] σ v σ) (fun x : Int32 => hl_R X (D + 2) y147 32 [(2, .int s), (3, .int x)] [] σ v σ)) (fun c0 o ho h1 h2 => p_M_clashIn_L14 D v1 s σ c0 ho h1 (fun e => h2 (.inl ()) e) (fun a0 e => h2 (.inr (a0)) e)) hl_big (s + 1) x4 hx4 ?_
    rcases hl_sum h with ⟨x5, e_x5, h⟩ | ⟨x6, e_x6, h⟩
    · subst e_x5
      refine hl_iinc (ls2 := [(2, .int (s + 1)), (0, .ref 64), (1, .int v1)]) d147_45 rfl kx1 (by decide) rfl ?_
      refine hl_goto (tg := 2) d147_48 rfl ?_
      have h := Option.some.inj h
      subst h
      exact hl_loc (k1 (s + 1) rfl) ⟨rfl, rfl, rfl, trivial⟩
    · subst e_x6
      have h := Option.some.inj h
      subst h
      exact hl_loc (k2 s x6 rfl) ⟨rfl, rfl, trivial⟩
set_option maxRecDepth 20000 in
theorem p_M_clashIn {X : hl_X} (D : Nat) (v1 : Int32) (σ : hl_M) {r : Int32} (h : f_M_clashIn v1 σ = some r) : hl_R X (D + 2) y147 0 [(0, .ref 64), (1, .int v1)] [] σ (some (.int r)) σ := by
  unfold f_M_clashIn at h
  refine hl_iconst d147_0 ki0 ?_
  refine hl_istore_n (i := 2) (ls2 := [(2, .int 0), (0, .ref 64), (1, .int v1)]) d147_1 rfl (by decide) rfl ?_
  obtain ⟨x7, hx7, h⟩ := hl_bind h
  refine hl_R.loc (ls' := [(0, .ref 64), (1, .int v1), (2, .int 0)]) ⟨rfl, rfl, rfl, trivial⟩ ?_
  refine hl_lp_run1 (P := fun (c0 : Int32) => hl_R X (D + 2) y147 2 [(0, .ref 64), (1, .int v1), (2, .int c0)] [] σ (some (.int r)) σ) (Sum.elim (fun x : Int32 × Int32 => hl_R X (D + 2) y147 32 [(2, .int x.1), (3, .int x.2)] [] σ (some (.int r)) σ) (fun a : Int32 => ((some (.int r)) : Option Value) = some (.int a))) (fun c0 o ho h1 h2 => p_M_clashIn_L2 D v1 σ c0 ho h1 (fun a0 a1 e => h2 (.inl (a0, a1)) e) (fun a e => h2 (.inr (a)) e)) hl_big 0 x7 hx7 ?_
  rcases hl_sum h with ⟨x8, e_x8, h⟩ | ⟨x9, e_x9, h⟩
  · subst e_x8
    refine hl_bipush d147_32 kb10 ?_
    refine hl_iload_n (i := 2) d147_34 rfl rfl ?_
    refine hl_imul d147_35 ?_
    refine hl_iload_n (i := 3) d147_36 rfl rfl ?_
    refine hl_iadd d147_37 ?_
    have h := Option.some.inj h
    subst h
    exact hl_iret d147_38 rfl
  · subst e_x9
    cases h
    rfl
def f_M_clash_L16 (v1 : Int32) (σ : hl_M) (s : Int32) : Option ((Int32) ⊕ ((Int32 × Int32) ⊕ (Int32))) :=
  if 100 ≤ s then
  some (.inr (.inr (((-1))))) else
  (f_M_clashIn s σ).bind fun x1 =>
  if x1 = ((-1)) then
  some (.inl (s + 1)) else
  some (.inr (.inl ((s, x1))))
def f_M_clash (v1 : Int32) (σ : hl_M) : Option (Int32) :=
  if (f_M_isIn v1.toInt64 0 2) = 0 then
  some ((-1)) else
  (hl_lp (f_M_clash_L16 v1 σ) hl_big 0).bind fun x2 =>
  Sum.elim (fun x3 =>
  if v1 = 0 then
  some x3.1 else
  if v1 = 1 then
  some (x3.2 / 10) else
  some (x3.2 - x3.2 / 10 * 10)) (fun x4 =>
  some x4) x2
set_option maxRecDepth 20000 in
theorem p_M_clash_L16 {X : hl_X} (D : Nat) (v1 : Int32) (σ : hl_M) (s : Int32) {o : (Int32) ⊕ ((Int32 × Int32) ⊕ (Int32))} {v : Option Value} (h : f_M_clash_L16 v1 σ s = some o) (k1 : ∀ (c0 : Int32), o = .inl c0 → hl_R X (D + 3) y146 16 [(0, .ref 64), (1, .int v1), (2, .int c0)] [] σ v σ) (k2 : ∀ (a0 : Int32) (a1 : Int32), o = .inr (.inl (a0, a1)) → hl_R X (D + 3) y146 33 [(1, .int v1), (2, .int a0), (3, .int a1)] [] σ v σ) (kr : ∀ (a : Int32), o = .inr (.inr (a)) → v = some (.int a)) : hl_R X (D + 3) y146 16 [(0, .ref 64), (1, .int v1), (2, .int s)] [] σ v σ := by
  unfold f_M_clash_L16 at h
  refine hl_iload_n (i := 2) d146_16 rfl rfl ?_
  refine hl_bipush d146_17 kb100 ?_
  refine hl_icmp_ge (tg := 64) d146_19 rfl (fun hc => ?_) (fun hc => ?_)
  · have h := hl_pos hc h
    refine hl_iconst d146_64 kim1 ?_
    have h := Option.some.inj h
    subst h
    have e1 := kr ((-1)) rfl
    subst e1
    exact hl_iret d146_65 rfl
  · have h := hl_neg hc h
    refine hl_aload_n (i := 0) d146_22 rfl rfl (by decide) ?_
    refine hl_iload_n (i := 2) d146_23 rfl rfl ?_
    obtain ⟨x1, hx1, h⟩ := hl_bind h
    refine hl_cVi (D := (D + 2)) (z := y147) (n := 1) (av := [.int s]) (st := []) d146_24 mlM_414 rfl (Nat.le_of_ble_eq_true rfl) (Nat.le_of_ble_eq_true rfl) rc64 ((p_M_clashIn D s σ hx1).dle (by omega)) ?_
    refine hl_istore_n (i := 3) (ls2 := [(3, .int x1), (0, .ref 64), (1, .int v1), (2, .int s)]) d146_27 rfl (by decide) rfl ?_
    refine hl_iload_n (i := 3) d146_28 rfl rfl ?_
    refine hl_iconst d146_29 kim1 ?_
    refine hl_icmp_eq (tg := 58) d146_30 rfl (fun hc => ?_) (fun hc => ?_)
    · have h := hl_pos hc h
      refine hl_iinc (ls2 := [(2, .int (s + 1)), (3, .int x1), (0, .ref 64), (1, .int v1)]) d146_58 rfl kx1 (by decide) rfl ?_
      refine hl_goto (tg := 16) d146_61 rfl ?_
      have h := Option.some.inj h
      subst h
      exact hl_loc (k1 (s + 1) rfl) ⟨rfl, rfl, rfl, trivial⟩
    · have h := hl_neg hc h
      have h := Option.some.inj h
      subst h
      exact hl_loc (k2 s x1 rfl) ⟨rfl, rfl, rfl, trivial⟩
set_option maxRecDepth 20000 in
theorem p_M_clash {X : hl_X} (D : Nat) (v1 : Int32) (σ : hl_M) {r : Int32} (h : f_M_clash v1 σ = some r) : hl_R X (D + 3) y146 0 [(0, .ref 64), (1, .int v1)] [] σ (some (.int r)) σ := by
  unfold f_M_clash at h
  refine hl_iload_n (i := 1) d146_0 rfl rfl ?_
  refine hl_i2l d146_1 ?_
  refine hl_lconst (x := 0) d146_2 (by decide) ?_
  refine hl_ldc2 d146_3 wlM_412 ?_
  refine hl_cSi (D := (D + 2)) (z := y70) (n := 3) (av := [.long v1.toInt64, .long 0, .long 2]) (st := []) d146_6 mlM_216 rfl (Nat.le_of_ble_eq_true rfl) (Nat.le_of_ble_eq_true rfl) ((p_M_isIn D v1.toInt64 0 2 σ rfl).dle (by omega)) ?_
  refine hl_if_ne (tg := 14) d146_9 rfl (fun hc => ?_) (fun hc => ?_)
  · have h := hl_neg hc h
    refine hl_iconst d146_14 ki0 ?_
    refine hl_istore_n (i := 2) (ls2 := [(2, .int 0), (0, .ref 64), (1, .int v1)]) d146_15 rfl (by decide) rfl ?_
    obtain ⟨x2, hx2, h⟩ := hl_bind h
    refine hl_R.loc (ls' := [(0, .ref 64), (1, .int v1), (2, .int 0)]) ⟨rfl, rfl, rfl, trivial⟩ ?_
    refine hl_lp_run1 (P := fun (c0 : Int32) => hl_R X (D + 3) y146 16 [(0, .ref 64), (1, .int v1), (2, .int c0)] [] σ (some (.int r)) σ) (Sum.elim (fun x : Int32 × Int32 => hl_R X (D + 3) y146 33 [(1, .int v1), (2, .int x.1), (3, .int x.2)] [] σ (some (.int r)) σ) (fun a : Int32 => ((some (.int r)) : Option Value) = some (.int a))) (fun c0 o ho h1 h2 => p_M_clash_L16 D v1 σ c0 ho h1 (fun a0 a1 e => h2 (.inl (a0, a1)) e) (fun a e => h2 (.inr (a)) e)) hl_big 0 x2 hx2 ?_
    rcases hl_sum h with ⟨x3, e_x3, h⟩ | ⟨x4, e_x4, h⟩
    · subst e_x3
      refine hl_iload_n (i := 1) d146_33 rfl rfl ?_
      refine hl_if_ne (tg := 41) d146_34 rfl (fun hc => ?_) (fun hc => ?_)
      · have h := hl_neg hc h
        refine hl_iload_n (i := 1) d146_41 rfl rfl ?_
        refine hl_iconst d146_42 ki1 ?_
        refine hl_icmp_ne (tg := 53) d146_43 rfl (fun hc => ?_) (fun hc => ?_)
        · have h := hl_neg hc h
          refine hl_iload_n (i := 3) d146_53 rfl rfl ?_
          refine hl_bipush d146_54 kb10 ?_
          refine hl_irem d146_56 (by decide) ?_
          have h := Option.some.inj h
          subst h
          exact hl_iret d146_57 rfl
        · have h := hl_pos hc h
          refine hl_iload_n (i := 3) d146_46 rfl rfl ?_
          refine hl_bipush d146_47 kb10 ?_
          refine hl_idiv d146_49 (by decide) ?_
          refine hl_goto (tg := 57) d146_50 rfl ?_
          have h := Option.some.inj h
          subst h
          exact hl_iret d146_57 rfl
      · have h := hl_pos hc h
        refine hl_iload_n (i := 2) d146_37 rfl rfl ?_
        refine hl_goto (tg := 57) d146_38 rfl ?_
        have h := Option.some.inj h
        subst h
        exact hl_iret d146_57 rfl
    · subst e_x4
      cases h
      rfl
  · have h := hl_pos hc h
    refine hl_iconst d146_12 kim1 ?_
    have h := Option.some.inj h
    subst h
    exact hl_iret d146_13 rfl
def f_X_clashes_L4 (σ : hl_M) (s : Int32 × Int32) : Option ((Int32 × Int32) ⊕ (Int32)) :=
  if 100 ≤ s.2 then
  some (.inr s.1) else
  (f_Wk_clashIn s.2 σ).bind fun x1 =>
  if x1 = ((-1)) then
  some (.inl ((s.1, s.2 + 1))) else
  some (.inl ((s.1 + 1, s.2 + 1)))
def f_X_clashes (σ : hl_M) : Option (Int32) :=
  (hl_lp (f_X_clashes_L4 σ) hl_big ((0, 0))).bind fun x2 =>
  some x2
set_option maxRecDepth 20000 in
theorem p_X_clashes_L4 {X : hl_X} (D : Nat) (σ : hl_M) (s : Int32 × Int32) {o : (Int32 × Int32) ⊕ (Int32)} {v : Option Value} (h : f_X_clashes_L4 σ s = some o) (k1 : ∀ (c0 : Int32) (c1 : Int32), o = .inl ((c0, c1)) → hl_R X (D + 4) y149 4 [(0, .ref 0), (1, .int c0), (2, .int c1)] [] σ v σ) (k2 : ∀ (a0 : Int32), o = .inr a0 → hl_R X (D + 4) y149 31 [(1, .int a0)] [] σ v σ) : hl_R X (D + 4) y149 4 [(0, .ref 0), (1, .int s.1), (2, .int s.2)] [] σ v σ := by
  unfold f_X_clashes_L4 at h
  refine hl_iload_n (i := 2) d149_4 rfl rfl ?_
  refine hl_bipush d149_5 kb100 ?_
  refine hl_icmp_ge (tg := 31) d149_7 rfl (fun hc => ?_) (fun hc => ?_)
  · have h := hl_pos hc h
    have h := Option.some.inj h
    subst h
    exact hl_loc (k2 s.1 rfl) ⟨rfl, trivial⟩
  · have h := hl_neg hc h
    refine hl_aload_n (i := 0) d149_10 rfl rfl (by decide) ?_
    refine hl_gr d149_11 gX_49_0 ?_
    refine hl_iload_n (i := 2) d149_14 rfl rfl ?_
    obtain ⟨x1, hx1, h⟩ := hl_bind h
    refine hl_cVi (D := (D + 3)) (z := y144) (n := 1) (av := [.int s.2]) (st := []) d149_15 mlX_226 rfl (Nat.le_of_ble_eq_true rfl) (Nat.le_of_ble_eq_true rfl) rc25 ((p_Wk_clashIn D s.2 σ hx1).dle (by omega)) ?_
    refine hl_iconst d149_18 kim1 ?_
    refine hl_icmp_eq (tg := 25) d149_19 rfl (fun hc => ?_) (fun hc => ?_)
    · have h := hl_pos hc h
      refine hl_iinc (ls2 := [(2, .int (s.2 + 1)), (0, .ref 0), (1, .int s.1)]) d149_25 rfl kx1 (by decide) rfl ?_
      refine hl_goto (tg := 4) d149_28 rfl ?_
      have h := Option.some.inj h
      subst h
      exact hl_loc (k1 s.1 (s.2 + 1) rfl) ⟨rfl, rfl, rfl, trivial⟩
    · have h := hl_neg hc h
      refine hl_iinc (ls2 := [(1, .int (s.1 + 1)), (0, .ref 0), (2, .int s.2)]) d149_22 rfl kx1 (by decide) rfl ?_
      refine hl_iinc (ls2 := [(2, .int (s.2 + 1)), (1, .int (s.1 + 1)), (0, .ref 0)]) d149_25 rfl kx1 (by decide) rfl ?_
      refine hl_goto (tg := 4) d149_28 rfl ?_
      have h := Option.some.inj h
      subst h
      exact hl_loc (k1 (s.1 + 1) (s.2 + 1) rfl) ⟨rfl, rfl, rfl, trivial⟩
set_option maxRecDepth 20000 in
theorem p_X_clashes {X : hl_X} (D : Nat) (σ : hl_M) {r : Int32} (h : f_X_clashes σ = some r) : hl_R X (D + 4) y149 0 [(0, .ref 0)] [] σ (some (.int r)) σ := by
  unfold f_X_clashes at h
  refine hl_iconst d149_0 ki0 ?_
  refine hl_istore_n (i := 1) (ls2 := [(1, .int 0), (0, .ref 0)]) d149_1 rfl (by decide) rfl ?_
  refine hl_iconst d149_2 ki0 ?_
  refine hl_istore_n (i := 2) (ls2 := [(2, .int 0), (1, .int 0), (0, .ref 0)]) d149_3 rfl (by decide) rfl ?_
  obtain ⟨x2, hx2, h⟩ := hl_bind h
  refine hl_R.loc (ls' := [(0, .ref 0), (1, .int 0), (2, .int 0)]) ⟨rfl, rfl, rfl, trivial⟩ ?_
  refine hl_lp_run2 (P := fun (c0 : Int32) (c1 : Int32) => hl_R X (D + 4) y149 4 [(0, .ref 0), (1, .int c0), (2, .int c1)] [] σ (some (.int r)) σ) (fun x : Int32 => hl_R X (D + 4) y149 31 [(1, .int x)] [] σ (some (.int r)) σ) (fun c0 c1 o ho h1 h2 => p_X_clashes_L4 D σ (c0, c1) ho h1 (fun a0 e => h2 a0 e)) hl_big 0 0 x2 hx2 ?_
  refine hl_iload_n (i := 1) d149_31 rfl rfl ?_
  have h := Option.some.inj h
  subst h
  exact hl_iret d149_32 rfl
def f_M_clashes_L4 (σ : hl_M) (s : Int32 × Int32) : Option ((Int32 × Int32) ⊕ (Int32)) :=
  if 100 ≤ s.2 then
  some (.inr s.1) else
  (f_M_clashIn s.2 σ).bind fun x1 =>
  if x1 = ((-1)) then
  some (.inl ((s.1, s.2 + 1))) else
  some (.inl ((s.1 + 1, s.2 + 1)))
def f_M_clashes (σ : hl_M) : Option (Int32) :=
  (hl_lp (f_M_clashes_L4 σ) hl_big ((0, 0))).bind fun x2 =>
  some x2
set_option maxRecDepth 20000 in
theorem p_M_clashes_L4 {X : hl_X} (D : Nat) (σ : hl_M) (s : Int32 × Int32) {o : (Int32 × Int32) ⊕ (Int32)} {v : Option Value} (h : f_M_clashes_L4 σ s = some o) (k1 : ∀ (c0 : Int32) (c1 : Int32), o = .inl ((c0, c1)) → hl_R X (D + 3) y150 4 [(0, .ref 64), (1, .int c0), (2, .int c1)] [] σ v σ) (k2 : ∀ (a0 : Int32), o = .inr a0 → hl_R X (D + 3) y150 28 [(1, .int a0)] [] σ v σ) : hl_R X (D + 3) y150 4 [(0, .ref 64), (1, .int s.1), (2, .int s.2)] [] σ v σ := by
  unfold f_M_clashes_L4 at h
  refine hl_iload_n (i := 2) d150_4 rfl rfl ?_
  refine hl_bipush d150_5 kb100 ?_
  refine hl_icmp_ge (tg := 28) d150_7 rfl (fun hc => ?_) (fun hc => ?_)
  · have h := hl_pos hc h
    have h := Option.some.inj h
    subst h
    exact hl_loc (k2 s.1 rfl) ⟨rfl, trivial⟩
  · have h := hl_neg hc h
    refine hl_aload_n (i := 0) d150_10 rfl rfl (by decide) ?_
    refine hl_iload_n (i := 2) d150_11 rfl rfl ?_
    obtain ⟨x1, hx1, h⟩ := hl_bind h
    refine hl_cVi (D := (D + 2)) (z := y147) (n := 1) (av := [.int s.2]) (st := []) d150_12 mlM_414 rfl (Nat.le_of_ble_eq_true rfl) (Nat.le_of_ble_eq_true rfl) rc64 ((p_M_clashIn D s.2 σ hx1).dle (by omega)) ?_
    refine hl_iconst d150_15 kim1 ?_
    refine hl_icmp_eq (tg := 22) d150_16 rfl (fun hc => ?_) (fun hc => ?_)
    · have h := hl_pos hc h
      refine hl_iinc (ls2 := [(2, .int (s.2 + 1)), (0, .ref 64), (1, .int s.1)]) d150_22 rfl kx1 (by decide) rfl ?_
      refine hl_goto (tg := 4) d150_25 rfl ?_
      have h := Option.some.inj h
      subst h
      exact hl_loc (k1 s.1 (s.2 + 1) rfl) ⟨rfl, rfl, rfl, trivial⟩
    · have h := hl_neg hc h
      refine hl_iinc (ls2 := [(1, .int (s.1 + 1)), (0, .ref 64), (2, .int s.2)]) d150_19 rfl kx1 (by decide) rfl ?_
      refine hl_iinc (ls2 := [(2, .int (s.2 + 1)), (1, .int (s.1 + 1)), (0, .ref 64)]) d150_22 rfl kx1 (by decide) rfl ?_
      refine hl_goto (tg := 4) d150_25 rfl ?_
      have h := Option.some.inj h
      subst h
      exact hl_loc (k1 (s.1 + 1) (s.2 + 1) rfl) ⟨rfl, rfl, rfl, trivial⟩
set_option maxRecDepth 20000 in
theorem p_M_clashes {X : hl_X} (D : Nat) (σ : hl_M) {r : Int32} (h : f_M_clashes σ = some r) : hl_R X (D + 3) y150 0 [(0, .ref 64)] [] σ (some (.int r)) σ := by
  unfold f_M_clashes at h
  refine hl_iconst d150_0 ki0 ?_
  refine hl_istore_n (i := 1) (ls2 := [(1, .int 0), (0, .ref 64)]) d150_1 rfl (by decide) rfl ?_
  refine hl_iconst d150_2 ki0 ?_
  refine hl_istore_n (i := 2) (ls2 := [(2, .int 0), (1, .int 0), (0, .ref 64)]) d150_3 rfl (by decide) rfl ?_
  obtain ⟨x2, hx2, h⟩ := hl_bind h
  refine hl_R.loc (ls' := [(0, .ref 64), (1, .int 0), (2, .int 0)]) ⟨rfl, rfl, rfl, trivial⟩ ?_
  refine hl_lp_run2 (P := fun (c0 : Int32) (c1 : Int32) => hl_R X (D + 3) y150 4 [(0, .ref 64), (1, .int c0), (2, .int c1)] [] σ (some (.int r)) σ) (fun x : Int32 => hl_R X (D + 3) y150 28 [(1, .int x)] [] σ (some (.int r)) σ) (fun c0 c1 o ho h1 h2 => p_M_clashes_L4 D σ (c0, c1) ho h1 (fun a0 e => h2 a0 e)) hl_big 0 0 x2 hx2 ?_
  refine hl_iload_n (i := 1) d150_28 rfl rfl ?_
  have h := Option.some.inj h
  subst h
  exact hl_iret d150_29 rfl
def f_Wk_movesIn (v1 : Int32) (v2 : Int32) (σ : hl_M) : Option (Int32) :=
  (f_Wk_cellOf v1 v2 σ).bind fun x1 =>
  (f_Wk_cellOf v1 (v2 - 1) σ).bind fun x2 =>
  if x1 = x2 then
  some 0 else
  some 1
set_option maxRecDepth 20000 in
theorem p_Wk_movesIn {X : hl_X} (D : Nat) (v1 : Int32) (v2 : Int32) (σ : hl_M) {r : Int32} (h : f_Wk_movesIn v1 v2 σ = some r) : hl_R X (D + 2) y152 0 [(0, .ref 25), (1, .int v1), (2, .int v2)] [] σ (some (.int r)) σ := by
  unfold f_Wk_movesIn at h
  refine hl_aload_n (i := 0) d152_0 rfl rfl (by decide) ?_
  refine hl_iload_n (i := 1) d152_1 rfl rfl ?_
  refine hl_iload_n (i := 2) d152_2 rfl rfl ?_
  obtain ⟨x1, hx1, h⟩ := hl_bind h
  refine hl_cVi (D := (D + 1)) (z := y104) (n := 2) (av := [.int v1, .int v2]) (st := []) d152_3 mlWk_45 rfl (Nat.le_of_ble_eq_true rfl) (Nat.le_of_ble_eq_true rfl) rc25 ((p_Wk_cellOf D v1 v2 σ hx1).dle (by omega)) ?_
  refine hl_aload_n (i := 0) d152_6 rfl rfl (by decide) ?_
  refine hl_iload_n (i := 1) d152_7 rfl rfl ?_
  refine hl_iload_n (i := 2) d152_8 rfl rfl ?_
  refine hl_iconst d152_9 ki1 ?_
  refine hl_isub d152_10 ?_
  obtain ⟨x2, hx2, h⟩ := hl_bind h
  refine hl_cVi (D := (D + 1)) (z := y104) (n := 2) (av := [.int v1, .int (v2 - 1)]) (st := [.int x1]) d152_11 mlWk_45 rfl (Nat.le_of_ble_eq_true rfl) (Nat.le_of_ble_eq_true rfl) rc25 ((p_Wk_cellOf D v1 (v2 - 1) σ hx2).dle (by omega)) ?_
  refine hl_icmp_eq (tg := 21) d152_14 rfl (fun hc => ?_) (fun hc => ?_)
  · have h := hl_pos hc h
    refine hl_iconst d152_21 ki0 ?_
    have h := Option.some.inj h
    subst h
    exact hl_zret d152_22 rfl (by decide)
  · have h := hl_neg hc h
    refine hl_iconst d152_17 ki1 ?_
    refine hl_goto (tg := 22) d152_18 rfl ?_
    have h := Option.some.inj h
    subst h
    exact hl_zret d152_22 rfl (by decide)
def f_X_still_L18 (v1 : Int32) (σ : hl_M) (s : Int32) : Option ((Int32) ⊕ ((Unit) ⊕ (Int32))) :=
  if 100 ≤ s then
  some (.inr (.inl (()))) else
  (f_Wk_movesIn v1 s σ).bind fun x1 =>
  if x1 = 0 then
  some (.inr (.inr (s))) else
  some (.inl (s + 1))
def f_X_still (v1 : Int32) (σ : hl_M) : Option (Int32) :=
  if (f_X_within v1 (σ.1 4 3)) = 0 then
  some ((-1)) else
  (hl_lp (f_X_still_L18 v1 σ) hl_big 1).bind fun x2 =>
  Sum.elim (fun x3 =>
  some ((-1))) (fun x4 =>
  some x4) x2
set_option maxRecDepth 20000 in
theorem p_X_still_L18 {X : hl_X} (D : Nat) (v1 : Int32) (σ : hl_M) (s : Int32) {o : (Int32) ⊕ ((Unit) ⊕ (Int32))} {v : Option Value} (h : f_X_still_L18 v1 σ s = some o) (k1 : ∀ (c0 : Int32), o = .inl c0 → hl_R X (D + 3) y151 18 [(0, .ref 0), (1, .int v1), (2, .int c0)] [] σ v σ) (k2 : o = .inr (.inl ()) → hl_R X (D + 3) y151 44 [] [] σ v σ) (kr : ∀ (a : Int32), o = .inr (.inr (a)) → v = some (.int a)) : hl_R X (D + 3) y151 18 [(0, .ref 0), (1, .int v1), (2, .int s)] [] σ v σ := by
  unfold f_X_still_L18 at h
  refine hl_iload_n (i := 2) d151_18 rfl rfl ?_
  refine hl_bipush d151_19 kb100 ?_
  refine hl_icmp_ge (tg := 44) d151_21 rfl (fun hc => ?_) (fun hc => ?_)
  · have h := hl_pos hc h
    have h := Option.some.inj h
    subst h
    exact hl_loc (k2 rfl) trivial
  · have h := hl_neg hc h
    refine hl_aload_n (i := 0) d151_24 rfl rfl (by decide) ?_
    refine hl_gr d151_25 gX_49_0 ?_
    refine hl_iload_n (i := 1) d151_28 rfl rfl ?_
    refine hl_iload_n (i := 2) d151_29 rfl rfl ?_
    obtain ⟨x1, hx1, h⟩ := hl_bind h
    refine hl_cVi (D := (D + 2)) (z := y152) (n := 2) (av := [.int v1, .int s]) (st := []) d151_30 mlX_229 rfl (Nat.le_of_ble_eq_true rfl) (Nat.le_of_ble_eq_true rfl) rc25 ((p_Wk_movesIn D v1 s σ hx1).dle (by omega)) ?_
    refine hl_if_ne (tg := 38) d151_33 rfl (fun hc => ?_) (fun hc => ?_)
    · have h := hl_neg hc h
      refine hl_iinc (ls2 := [(2, .int (s + 1)), (0, .ref 0), (1, .int v1)]) d151_38 rfl kx1 (by decide) rfl ?_
      refine hl_goto (tg := 18) d151_41 rfl ?_
      have h := Option.some.inj h
      subst h
      exact hl_loc (k1 (s + 1) rfl) ⟨rfl, rfl, rfl, trivial⟩
    · have h := hl_pos hc h
      refine hl_iload_n (i := 2) d151_36 rfl rfl ?_
      have h := Option.some.inj h
      subst h
      have e1 := kr s rfl
      subst e1
      exact hl_iret d151_37 rfl
set_option maxRecDepth 20000 in
theorem p_X_still {X : hl_X} (D : Nat) (v1 : Int32) (σ : hl_M) {r : Int32} (h : f_X_still v1 σ = some r) : hl_R X (D + 3) y151 0 [(0, .ref 0), (1, .int v1)] [] σ (some (.int r)) σ := by
  unfold f_X_still at h
  refine hl_iload_n (i := 1) d151_0 rfl rfl ?_
  refine hl_aload_n (i := 0) d151_1 rfl rfl (by decide) ?_
  refine hl_gr d151_2 gX_28_0 ?_
  refine hl_gi d151_5 gX_139_4 ?_
  refine hl_cSi (D := (D + 2)) (z := y2) (n := 2) (av := [.int v1, .int (σ.1 4 3)]) (st := []) d151_8 mlX_154 rfl (Nat.le_of_ble_eq_true rfl) (Nat.le_of_ble_eq_true rfl) ((p_X_within D v1 (σ.1 4 3) σ rfl).dle (by omega)) ?_
  refine hl_if_ne (tg := 16) d151_11 rfl (fun hc => ?_) (fun hc => ?_)
  · have h := hl_neg hc h
    refine hl_iconst d151_16 ki1 ?_
    refine hl_istore_n (i := 2) (ls2 := [(2, .int 1), (0, .ref 0), (1, .int v1)]) d151_17 rfl (by decide) rfl ?_
    obtain ⟨x2, hx2, h⟩ := hl_bind h
    refine hl_R.loc (ls' := [(0, .ref 0), (1, .int v1), (2, .int 1)]) ⟨rfl, rfl, rfl, trivial⟩ ?_
    refine hl_lp_run1 (P := fun (c0 : Int32) => hl_R X (D + 3) y151 18 [(0, .ref 0), (1, .int v1), (2, .int c0)] [] σ (some (.int r)) σ) (Sum.elim (fun x : Unit => hl_R X (D + 3) y151 44 [] [] σ (some (.int r)) σ) (fun a : Int32 => ((some (.int r)) : Option Value) = some (.int a))) (fun c0 o ho h1 h2 => p_X_still_L18 D v1 σ c0 ho h1 (fun e => h2 (.inl ()) e) (fun a e => h2 (.inr (a)) e)) hl_big 1 x2 hx2 ?_
    rcases hl_sum h with ⟨x3, e_x3, h⟩ | ⟨x4, e_x4, h⟩
    · subst e_x3
      refine hl_iconst d151_44 kim1 ?_
      have h := Option.some.inj h
      subst h
      exact hl_iret d151_45 rfl
    · subst e_x4
      cases h
      rfl
  · have h := hl_pos hc h
    refine hl_iconst d151_14 kim1 ?_
    have h := Option.some.inj h
    subst h
    exact hl_iret d151_15 rfl
def f_M_still_L12 (v1 : Int32) (σ : hl_M) (s : Int32) : Option ((Int32) ⊕ ((Unit) ⊕ (Int32))) :=
  if 100 ≤ s then
  some (.inr (.inl (()))) else
  (f_M_whereIn v1 s σ).bind fun x2 =>
  (f_M_whereIn v1 (s - 1) σ).bind fun x3 =>
  if x2 = x3 then
  some (.inr (.inr (s))) else
  some (.inl (s + 1))
def f_M_still (v1 : Int32) (σ : hl_M) : Option (Int32) :=
  (f_M_isPerson v1 σ).bind fun x1 =>
  if x1 = 0 then
  some ((-1)) else
  (hl_lp (f_M_still_L12 v1 σ) hl_big 1).bind fun x4 =>
  Sum.elim (fun x5 =>
  some ((-1))) (fun x6 =>
  some x6) x4
set_option maxRecDepth 20000 in
theorem p_M_still_L12 {X : hl_X} (D : Nat) (v1 : Int32) (σ : hl_M) (s : Int32) {o : (Int32) ⊕ ((Unit) ⊕ (Int32))} {v : Option Value} (h : f_M_still_L12 v1 σ s = some o) (k1 : ∀ (c0 : Int32), o = .inl c0 → hl_R X (D + 2) y153 12 [(0, .ref 64), (1, .int v1), (2, .int c0)] [] σ v σ) (k2 : o = .inr (.inl ()) → hl_R X (D + 2) y153 43 [] [] σ v σ) (kr : ∀ (a : Int32), o = .inr (.inr (a)) → v = some (.int a)) : hl_R X (D + 2) y153 12 [(0, .ref 64), (1, .int v1), (2, .int s)] [] σ v σ := by
  unfold f_M_still_L12 at h
  refine hl_iload_n (i := 2) d153_12 rfl rfl ?_
  refine hl_bipush d153_13 kb100 ?_
  refine hl_icmp_ge (tg := 43) d153_15 rfl (fun hc => ?_) (fun hc => ?_)
  · have h := hl_pos hc h
    have h := Option.some.inj h
    subst h
    exact hl_loc (k2 rfl) trivial
  · have h := hl_neg hc h
    refine hl_aload_n (i := 0) d153_18 rfl rfl (by decide) ?_
    refine hl_iload_n (i := 1) d153_19 rfl rfl ?_
    refine hl_iload_n (i := 2) d153_20 rfl rfl ?_
    obtain ⟨x2, hx2, h⟩ := hl_bind h
    refine hl_cVi (D := (D + 1)) (z := y117) (n := 2) (av := [.int v1, .int s]) (st := []) d153_21 mlM_349 rfl (Nat.le_of_ble_eq_true rfl) (Nat.le_of_ble_eq_true rfl) rc64 ((p_M_whereIn D v1 s σ hx2).dle (by omega)) ?_
    refine hl_aload_n (i := 0) d153_24 rfl rfl (by decide) ?_
    refine hl_iload_n (i := 1) d153_25 rfl rfl ?_
    refine hl_iload_n (i := 2) d153_26 rfl rfl ?_
    refine hl_iconst d153_27 ki1 ?_
    refine hl_isub d153_28 ?_
    obtain ⟨x3, hx3, h⟩ := hl_bind h
    refine hl_cVi (D := (D + 1)) (z := y117) (n := 2) (av := [.int v1, .int (s - 1)]) (st := [.int x2]) d153_29 mlM_349 rfl (Nat.le_of_ble_eq_true rfl) (Nat.le_of_ble_eq_true rfl) rc64 ((p_M_whereIn D v1 (s - 1) σ hx3).dle (by omega)) ?_
    refine hl_icmp_ne (tg := 37) d153_32 rfl (fun hc => ?_) (fun hc => ?_)
    · have h := hl_neg hc h
      refine hl_iinc (ls2 := [(2, .int (s + 1)), (0, .ref 64), (1, .int v1)]) d153_37 rfl kx1 (by decide) rfl ?_
      refine hl_goto (tg := 12) d153_40 rfl ?_
      have h := Option.some.inj h
      subst h
      exact hl_loc (k1 (s + 1) rfl) ⟨rfl, rfl, rfl, trivial⟩
    · have h := hl_pos hc h
      refine hl_iload_n (i := 2) d153_35 rfl rfl ?_
      have h := Option.some.inj h
      subst h
      have e1 := kr s rfl
      subst e1
      exact hl_iret d153_36 rfl
set_option maxRecDepth 20000 in
theorem p_M_still {X : hl_X} (D : Nat) (v1 : Int32) (σ : hl_M) {r : Int32} (h : f_M_still v1 σ = some r) : hl_R X (D + 2) y153 0 [(0, .ref 64), (1, .int v1)] [] σ (some (.int r)) σ := by
  unfold f_M_still at h
  refine hl_aload_n (i := 0) d153_0 rfl rfl (by decide) ?_
  refine hl_iload_n (i := 1) d153_1 rfl rfl ?_
  obtain ⟨x1, hx1, h⟩ := hl_bind h
  refine hl_cVi (D := (D + 1)) (z := y126) (n := 1) (av := [.int v1]) (st := []) d153_2 mlM_394 rfl (Nat.le_of_ble_eq_true rfl) (Nat.le_of_ble_eq_true rfl) rc64 ((p_M_isPerson D v1 σ hx1).dle (by omega)) ?_
  refine hl_if_ne (tg := 10) d153_5 rfl (fun hc => ?_) (fun hc => ?_)
  · have h := hl_neg hc h
    refine hl_iconst d153_10 ki1 ?_
    refine hl_istore_n (i := 2) (ls2 := [(2, .int 1), (0, .ref 64), (1, .int v1)]) d153_11 rfl (by decide) rfl ?_
    obtain ⟨x4, hx4, h⟩ := hl_bind h
    refine hl_R.loc (ls' := [(0, .ref 64), (1, .int v1), (2, .int 1)]) ⟨rfl, rfl, rfl, trivial⟩ ?_
    refine hl_lp_run1 (P := fun (c0 : Int32) => hl_R X (D + 2) y153 12 [(0, .ref 64), (1, .int v1), (2, .int c0)] [] σ (some (.int r)) σ) (Sum.elim (fun x : Unit => hl_R X (D + 2) y153 43 [] [] σ (some (.int r)) σ) (fun a : Int32 => ((some (.int r)) : Option Value) = some (.int a))) (fun c0 o ho h1 h2 => p_M_still_L12 D v1 σ c0 ho h1 (fun e => h2 (.inl ()) e) (fun a e => h2 (.inr (a)) e)) hl_big 1 x4 hx4 ?_
    rcases hl_sum h with ⟨x5, e_x5, h⟩ | ⟨x6, e_x6, h⟩
    · subst e_x5
      refine hl_iconst d153_43 kim1 ?_
      have h := Option.some.inj h
      subst h
      exact hl_iret d153_44 rfl
    · subst e_x6
      cases h
      rfl
  · have h := hl_pos hc h
    refine hl_iconst d153_8 kim1 ?_
    have h := Option.some.inj h
    subst h
    exact hl_iret d153_9 rfl
def f_Vw_turned_L18 (v1 : Int64) (v3 : Int64) (σ : hl_M) (s : Int64 × Int32) : Option ((Int64 × Int32) ⊕ (Int64)) :=
  if (σ.1 4 1) ≤ s.2 then
  some (.inr s.1) else
  some (.inl ((s.1 ||| ((((v1.toUInt64 >>> ((s.2 * (σ.1 4 0)).toInt64.toUInt64 &&& Int64.toUInt64 63)).toInt64) &&& v3) <<< (((((σ.1 4 1) - 1) - s.2) * (σ.1 4 0)).toInt64 &&& 63)), s.2 + 1)))
def f_Vw_turned (v1 : Int64) (σ : hl_M) : Option (Int64) :=
  (hl_lp (f_Vw_turned_L18 v1 (((1 : Int64) <<< ((σ.1 4 0).toInt64 &&& 63)) - 1) σ) hl_big ((0, 0))).bind fun x1 =>
  some x1
set_option maxRecDepth 20000 in
theorem p_Vw_turned_L18 {X : hl_X} (D : Nat) (v1 : Int64) (v3 : Int64) (σ : hl_M) (s : Int64 × Int32) {o : (Int64 × Int32) ⊕ (Int64)} {v : Option Value} (h : f_Vw_turned_L18 v1 v3 σ s = some o) (k1 : ∀ (c0 : Int64) (c1 : Int32), o = .inl ((c0, c1)) → hl_R X D y157 18 [(0, .ref 37), (1, .long v1), (3, .long v3), (5, .long c0), (7, .int c1)] [] σ v σ) (k2 : ∀ (a0 : Int64), o = .inr a0 → hl_R X D y157 80 [(5, .long a0)] [] σ v σ) : hl_R X D y157 18 [(0, .ref 37), (1, .long v1), (3, .long v3), (5, .long s.1), (7, .int s.2)] [] σ v σ := by
  unfold f_Vw_turned_L18 at h
  refine hl_iload d157_18 rfl ?_
  refine hl_aload_n (i := 0) d157_20 rfl rfl (by decide) ?_
  refine hl_gr d157_21 gVw_9_37 ?_
  refine hl_gi d157_24 gVw_59_4 ?_
  refine hl_icmp_ge (tg := 80) d157_27 rfl (fun hc => ?_) (fun hc => ?_)
  · have h := hl_pos hc h
    have h := Option.some.inj h
    subst h
    exact hl_loc (k2 s.1 rfl) ⟨rfl, trivial⟩
  · have h := hl_neg hc h
    refine hl_lload_n (i := 1) d157_30 rfl rfl ?_
    refine hl_iload d157_31 rfl ?_
    refine hl_aload_n (i := 0) d157_33 rfl rfl (by decide) ?_
    refine hl_gr d157_34 gVw_9_37 ?_
    refine hl_gi d157_37 gVw_56_4 ?_
    refine hl_imul d157_40 ?_
    refine hl_lushr d157_41 ?_
    refine hl_lload_n (i := 3) d157_42 rfl rfl ?_
    refine hl_land d157_43 ?_
    refine hl_lstore (ls2 := [(8, .long (((v1.toUInt64 >>> ((s.2 * (σ.1 4 0)).toInt64.toUInt64 &&& Int64.toUInt64 63)).toInt64) &&& v3)), (0, .ref 37), (1, .long v1), (3, .long v3), (5, .long s.1), (7, .int s.2)]) d157_44 (by decide) rfl ?_
    refine hl_lload d157_46 rfl ?_
    refine hl_lload d157_48 rfl ?_
    refine hl_aload_n (i := 0) d157_50 rfl rfl (by decide) ?_
    refine hl_gr d157_51 gVw_9_37 ?_
    refine hl_gi d157_54 gVw_59_4 ?_
    refine hl_iconst d157_57 ki1 ?_
    refine hl_isub d157_58 ?_
    refine hl_iload d157_59 rfl ?_
    refine hl_isub d157_61 ?_
    refine hl_aload_n (i := 0) d157_62 rfl rfl (by decide) ?_
    refine hl_gr d157_63 gVw_9_37 ?_
    refine hl_gi d157_66 gVw_56_4 ?_
    refine hl_imul d157_69 ?_
    refine hl_lshl d157_70 ?_
    refine hl_lor d157_71 ?_
    refine hl_lstore (ls2 := [(5, .long (s.1 ||| ((((v1.toUInt64 >>> ((s.2 * (σ.1 4 0)).toInt64.toUInt64 &&& Int64.toUInt64 63)).toInt64) &&& v3) <<< (((((σ.1 4 1) - 1) - s.2) * (σ.1 4 0)).toInt64 &&& 63)))), (8, .long (((v1.toUInt64 >>> ((s.2 * (σ.1 4 0)).toInt64.toUInt64 &&& Int64.toUInt64 63)).toInt64) &&& v3)), (0, .ref 37), (1, .long v1), (3, .long v3), (7, .int s.2)]) d157_72 (by decide) rfl ?_
    refine hl_iinc (ls2 := [(7, .int (s.2 + 1)), (5, .long (s.1 ||| ((((v1.toUInt64 >>> ((s.2 * (σ.1 4 0)).toInt64.toUInt64 &&& Int64.toUInt64 63)).toInt64) &&& v3) <<< (((((σ.1 4 1) - 1) - s.2) * (σ.1 4 0)).toInt64 &&& 63)))), (8, .long (((v1.toUInt64 >>> ((s.2 * (σ.1 4 0)).toInt64.toUInt64 &&& Int64.toUInt64 63)).toInt64) &&& v3)), (0, .ref 37), (1, .long v1), (3, .long v3)]) d157_74 rfl kx1 (by decide) rfl ?_
    refine hl_goto (tg := 18) d157_77 rfl ?_
    have h := Option.some.inj h
    subst h
    exact hl_loc (k1 (s.1 ||| ((((v1.toUInt64 >>> ((s.2 * (σ.1 4 0)).toInt64.toUInt64 &&& Int64.toUInt64 63)).toInt64) &&& v3) <<< (((((σ.1 4 1) - 1) - s.2) * (σ.1 4 0)).toInt64 &&& 63))) (s.2 + 1) rfl) ⟨rfl, rfl, rfl, rfl, rfl, trivial⟩
set_option maxRecDepth 20000 in
theorem p_Vw_turned {X : hl_X} (D : Nat) (v1 : Int64) (σ : hl_M) {r : Int64} (h : f_Vw_turned v1 σ = some r) : hl_R X D y157 0 [(0, .ref 37), (1, .long v1)] [] σ (some (.long r)) σ := by
  unfold f_Vw_turned at h
  refine hl_lconst (x := 1) d157_0 (by decide) ?_
  refine hl_aload_n (i := 0) d157_1 rfl rfl (by decide) ?_
  refine hl_gr d157_2 gVw_9_37 ?_
  refine hl_gi d157_5 gVw_56_4 ?_
  refine hl_lshl d157_8 ?_
  refine hl_lconst (x := 1) d157_9 (by decide) ?_
  refine hl_lsub d157_10 ?_
  refine hl_lstore_n (i := 3) (ls2 := [(3, .long (((1 : Int64) <<< ((σ.1 4 0).toInt64 &&& 63)) - 1)), (0, .ref 37), (1, .long v1)]) d157_11 rfl (by decide) rfl ?_
  refine hl_lconst (x := 0) d157_12 (by decide) ?_
  refine hl_lstore (ls2 := [(5, .long 0), (3, .long (((1 : Int64) <<< ((σ.1 4 0).toInt64 &&& 63)) - 1)), (0, .ref 37), (1, .long v1)]) d157_13 (by decide) rfl ?_
  refine hl_iconst d157_15 ki0 ?_
  refine hl_istore (ls2 := [(7, .int 0), (5, .long 0), (3, .long (((1 : Int64) <<< ((σ.1 4 0).toInt64 &&& 63)) - 1)), (0, .ref 37), (1, .long v1)]) d157_16 (by decide) rfl ?_
  obtain ⟨x1, hx1, h⟩ := hl_bind h
  refine hl_R.loc (ls' := [(0, .ref 37), (1, .long v1), (3, .long (((1 : Int64) <<< ((σ.1 4 0).toInt64 &&& 63)) - 1)), (5, .long 0), (7, .int 0)]) ⟨rfl, rfl, rfl, rfl, rfl, trivial⟩ ?_
  refine hl_lp_run2 (P := fun (c0 : Int64) (c1 : Int32) => hl_R X D y157 18 [(0, .ref 37), (1, .long v1), (3, .long (((1 : Int64) <<< ((σ.1 4 0).toInt64 &&& 63)) - 1)), (5, .long c0), (7, .int c1)] [] σ (some (.long r)) σ) (fun x : Int64 => hl_R X D y157 80 [(5, .long x)] [] σ (some (.long r)) σ) (fun c0 c1 o ho h1 h2 => p_Vw_turned_L18 D v1 (((1 : Int64) <<< ((σ.1 4 0).toInt64 &&& 63)) - 1) σ (c0, c1) ho h1 (fun a0 e => h2 a0 e)) hl_big 0 0 x1 hx1 ?_
  refine hl_lload d157_80 rfl ?_
  have h := Option.some.inj h
  subst h
  exact hl_lret d157_82 rfl
def f_Vw_turnOver (σ : hl_M) : Option (hl_M) :=
  (f_Vw_turned (σ.2 37 2) σ).bind fun x1 =>
  (f_Vw_turned ((hl_sl σ 37 2 x1).2 37 3) (hl_sl σ 37 2 x1)).bind fun x2 =>
  some (hl_sl (hl_sl σ 37 2 x1) 37 3 x2)
set_option maxRecDepth 20000 in
theorem p_Vw_turnOver {X : hl_X} (D : Nat) (σ : hl_M) {τ : hl_M} (h : f_Vw_turnOver σ = some τ) : hl_R X (D + 1) y156 0 [(0, .ref 37)] [] σ none τ := by
  unfold f_Vw_turnOver at h
  refine hl_aload_n (i := 0) d156_0 rfl rfl (by decide) ?_
  refine hl_aload_n (i := 0) d156_1 rfl rfl (by decide) ?_
  refine hl_aload_n (i := 0) d156_2 rfl rfl (by decide) ?_
  refine hl_gl d156_3 gVw_19_37 ?_
  obtain ⟨x1, hx1, h⟩ := hl_bind h
  refine hl_cVl (D := D) (z := y157) (n := 1) (av := [.long (σ.2 37 2)]) (st := [.ref 37]) d156_6 mlVw_52 rfl (Nat.le_of_ble_eq_true rfl) (Nat.le_of_ble_eq_true rfl) rc37 ((p_Vw_turned D (σ.2 37 2) σ hx1).dle (by omega)) ?_
  refine hl_pl d156_9 qVw_19_37 ?_
  refine hl_aload_n (i := 0) d156_12 rfl rfl (by decide) ?_
  refine hl_aload_n (i := 0) d156_13 rfl rfl (by decide) ?_
  refine hl_aload_n (i := 0) d156_14 rfl rfl (by decide) ?_
  refine hl_gl d156_15 gVw_23_37 ?_
  obtain ⟨x2, hx2, h⟩ := hl_bind h
  refine hl_cVl (D := D) (z := y157) (n := 1) (av := [.long ((hl_sl σ 37 2 x1).2 37 3)]) (st := [.ref 37]) d156_18 mlVw_52 rfl (Nat.le_of_ble_eq_true rfl) (Nat.le_of_ble_eq_true rfl) rc37 ((p_Vw_turned D ((hl_sl σ 37 2 x1).2 37 3) (hl_sl σ 37 2 x1) hx2).dle (by omega)) ?_
  refine hl_pl d156_21 qVw_23_37 ?_
  have h := Option.some.inj h
  subst h
  exact hl_vret d156_24 rfl
def f_X_look (v1 : Int32) (v2 : Int32) (σ : hl_M) : Option (hl_M) :=
  (f_Vw_look v1 ((-1)) σ).bind fun x1 =>
  if v2 = 0 then
  some x1 else
  (f_Vw_turnOver x1).bind fun x2 =>
  some x2
set_option maxRecDepth 20000 in
theorem p_X_look {X : hl_X} (D : Nat) (v1 : Int32) (v2 : Int32) (σ : hl_M) {τ : hl_M} (h : f_X_look v1 v2 σ = some τ) : hl_R X (D + 3) y155 0 [(0, .ref 0), (1, .int v1), (2, .int v2)] [] σ none τ := by
  unfold f_X_look at h
  refine hl_aload_n (i := 0) d155_0 rfl rfl (by decide) ?_
  refine hl_gr d155_1 gX_58_0 ?_
  refine hl_iload_n (i := 1) d155_4 rfl rfl ?_
  refine hl_iconst d155_5 kim1 ?_
  obtain ⟨x1, hx1, h⟩ := hl_bind h
  refine hl_cVv (D := (D + 2)) (z := y103) (n := 2) (av := [.int v1, .int ((-1))]) (st := []) d155_6 mlX_219 rfl (Nat.le_of_ble_eq_true rfl) (Nat.le_of_ble_eq_true rfl) rc37 ((p_Vw_look D v1 ((-1)) σ hx1).dle (by omega)) ?_
  refine hl_iload_n (i := 2) d155_9 rfl rfl ?_
  refine hl_if_eq (tg := 20) d155_10 rfl (fun hc => ?_) (fun hc => ?_)
  · have h := hl_pos hc h
    have h := Option.some.inj h
    subst h
    exact hl_vret d155_20 rfl
  · have h := hl_neg hc h
    refine hl_aload_n (i := 0) d155_13 rfl rfl (by decide) ?_
    refine hl_gr d155_14 gX_58_0 ?_
    obtain ⟨x2, hx2, h⟩ := hl_bind h
    refine hl_cVv (D := (D + 2)) (z := y156) (n := 0) (av := []) (st := []) d155_17 mlX_339 rfl (Nat.le_of_ble_eq_true rfl) (Nat.le_of_ble_eq_true rfl) rc37 ((p_Vw_turnOver D x1 hx2).dle (by omega)) ?_
    have h := Option.some.inj h
    subst h
    exact hl_vret d155_20 rfl
def f_Vw_wordRead_L2 (σ : hl_M) (s : Int32) : Option ((Int32) ⊕ ((Unit) ⊕ (Int32))) :=
  if (σ.1 4 8) ≤ s then
  some (.inr (.inl (()))) else
  (f_Vw_farFrom s σ).bind fun x1 =>
  if x1 = 0 then
  some (.inr (.inr (s))) else
  some (.inl (s + 1))
def f_Vw_wordRead (σ : hl_M) : Option (Int32) :=
  (hl_lp (f_Vw_wordRead_L2 σ) hl_big 0).bind fun x2 =>
  Sum.elim (fun x3 =>
  some ((-1))) (fun x4 =>
  some x4) x2
set_option maxRecDepth 20000 in
theorem p_Vw_wordRead_L2 {X : hl_X} (D : Nat) (σ : hl_M) (s : Int32) {o : (Int32) ⊕ ((Unit) ⊕ (Int32))} {v : Option Value} (h : f_Vw_wordRead_L2 σ s = some o) (k1 : ∀ (c0 : Int32), o = .inl c0 → hl_R X (D + 2) y158 2 [(0, .ref 37), (1, .int c0)] [] σ v σ) (k2 : o = .inr (.inl ()) → hl_R X (D + 2) y158 29 [] [] σ v σ) (kr : ∀ (a : Int32), o = .inr (.inr (a)) → v = some (.int a)) : hl_R X (D + 2) y158 2 [(0, .ref 37), (1, .int s)] [] σ v σ := by
  unfold f_Vw_wordRead_L2 at h
  refine hl_iload_n (i := 1) d158_2 rfl rfl ?_
  refine hl_aload_n (i := 0) d158_3 rfl rfl (by decide) ?_
  refine hl_gr d158_4 gVw_9_37 ?_
  refine hl_gi d158_7 gVw_76_4 ?_
  refine hl_icmp_ge (tg := 29) d158_10 rfl (fun hc => ?_) (fun hc => ?_)
  · have h := hl_pos hc h
    have h := Option.some.inj h
    subst h
    exact hl_loc (k2 rfl) trivial
  · have h := hl_neg hc h
    refine hl_aload_n (i := 0) d158_13 rfl rfl (by decide) ?_
    refine hl_iload_n (i := 1) d158_14 rfl rfl ?_
    obtain ⟨x1, hx1, h⟩ := hl_bind h
    refine hl_cVi (D := (D + 1)) (z := y106) (n := 1) (av := [.int s]) (st := []) d158_15 mlVw_86 rfl (Nat.le_of_ble_eq_true rfl) (Nat.le_of_ble_eq_true rfl) rc37 ((p_Vw_farFrom D s σ hx1).dle (by omega)) ?_
    refine hl_if_ne (tg := 23) d158_18 rfl (fun hc => ?_) (fun hc => ?_)
    · have h := hl_neg hc h
      refine hl_iinc (ls2 := [(1, .int (s + 1)), (0, .ref 37)]) d158_23 rfl kx1 (by decide) rfl ?_
      refine hl_goto (tg := 2) d158_26 rfl ?_
      have h := Option.some.inj h
      subst h
      exact hl_loc (k1 (s + 1) rfl) ⟨rfl, rfl, trivial⟩
    · have h := hl_pos hc h
      refine hl_iload_n (i := 1) d158_21 rfl rfl ?_
      have h := Option.some.inj h
      subst h
      have e1 := kr s rfl
      subst e1
      exact hl_iret d158_22 rfl
set_option maxRecDepth 20000 in
theorem p_Vw_wordRead {X : hl_X} (D : Nat) (σ : hl_M) {r : Int32} (h : f_Vw_wordRead σ = some r) : hl_R X (D + 2) y158 0 [(0, .ref 37)] [] σ (some (.int r)) σ := by
  unfold f_Vw_wordRead at h
  refine hl_iconst d158_0 ki0 ?_
  refine hl_istore_n (i := 1) (ls2 := [(1, .int 0), (0, .ref 37)]) d158_1 rfl (by decide) rfl ?_
  obtain ⟨x2, hx2, h⟩ := hl_bind h
  refine hl_R.loc (ls' := [(0, .ref 37), (1, .int 0)]) ⟨rfl, rfl, trivial⟩ ?_
  refine hl_lp_run1 (P := fun (c0 : Int32) => hl_R X (D + 2) y158 2 [(0, .ref 37), (1, .int c0)] [] σ (some (.int r)) σ) (Sum.elim (fun x : Unit => hl_R X (D + 2) y158 29 [] [] σ (some (.int r)) σ) (fun a : Int32 => ((some (.int r)) : Option Value) = some (.int a))) (fun c0 o ho h1 h2 => p_Vw_wordRead_L2 D σ c0 ho h1 (fun e => h2 (.inl ()) e) (fun a e => h2 (.inr (a)) e)) hl_big 0 x2 hx2 ?_
  rcases hl_sum h with ⟨x3, e_x3, h⟩ | ⟨x4, e_x4, h⟩
  · subst e_x3
    refine hl_iconst d158_29 kim1 ?_
    have h := Option.some.inj h
    subst h
    exact hl_iret d158_30 rfl
  · subst e_x4
    cases h
    rfl
def f_X_read (v1 : Int32) (v2 : Int32) (σ : hl_M) : Option (Int32 × hl_M) :=
  if (f_X_within v1 100) = 0 then
  some (((-1), σ)) else
  (f_X_look v1 v2 σ).bind fun x1 =>
  (f_Vw_wordRead x1).bind fun x2 =>
  some ((x2, x1))
set_option maxRecDepth 20000 in
theorem p_X_read {X : hl_X} (D : Nat) (v1 : Int32) (v2 : Int32) (σ : hl_M) {r : Int32} {τ : hl_M} (h : f_X_read v1 v2 σ = some (r, τ)) : hl_R X (D + 4) y154 0 [(0, .ref 0), (1, .int v1), (2, .int v2)] [] σ (some (.int r)) τ := by
  unfold f_X_read at h
  refine hl_iload_n (i := 1) d154_0 rfl rfl ?_
  refine hl_bipush d154_1 kb100 ?_
  refine hl_cSi (D := (D + 3)) (z := y2) (n := 2) (av := [.int v1, .int 100]) (st := []) d154_3 mlX_154 rfl (Nat.le_of_ble_eq_true rfl) (Nat.le_of_ble_eq_true rfl) ((p_X_within D v1 100 σ rfl).dle (by omega)) ?_
  refine hl_if_ne (tg := 11) d154_6 rfl (fun hc => ?_) (fun hc => ?_)
  · have h := hl_neg hc h
    refine hl_aload_n (i := 0) d154_11 rfl rfl (by decide) ?_
    refine hl_iload_n (i := 1) d154_12 rfl rfl ?_
    refine hl_iload_n (i := 2) d154_13 rfl rfl ?_
    obtain ⟨x1, hx1, h⟩ := hl_bind h
    refine hl_cVv (D := (D + 3)) (z := y155) (n := 2) (av := [.int v1, .int v2]) (st := []) d154_14 mlX_232 rfl (Nat.le_of_ble_eq_true rfl) (Nat.le_of_ble_eq_true rfl) rc0 ((p_X_look D v1 v2 σ hx1).dle (by omega)) ?_
    refine hl_aload_n (i := 0) d154_17 rfl rfl (by decide) ?_
    refine hl_gr d154_18 gX_58_0 ?_
    obtain ⟨x2, hx2, h⟩ := hl_bind h
    refine hl_cVi (D := (D + 3)) (z := y158) (n := 0) (av := []) (st := []) d154_21 mlX_235 rfl (Nat.le_of_ble_eq_true rfl) (Nat.le_of_ble_eq_true rfl) rc37 ((p_Vw_wordRead D x1 hx2).dle (by omega)) ?_
    obtain ⟨e1, e2⟩ := hl_some2 h
    subst e1; subst e2
    exact hl_iret d154_24 rfl
  · have h := hl_pos hc h
    refine hl_iconst d154_9 kim1 ?_
    obtain ⟨e1, e2⟩ := hl_some2 h
    subst e1; subst e2
    exact hl_iret d154_10 rfl
def f_M_readIn_L2 (v1 : Int32) (v2 : Int32) (σ : hl_M) (s : Int32) : Option ((Int32) ⊕ ((Unit) ⊕ (Int32))) :=
  (f_M_wordMany σ).bind fun x1 =>
  if x1 ≤ s then
  some (.inr (.inl (()))) else
  (f_M_farFrom v1 s v2 σ).bind fun x2 =>
  if x2 = 0 then
  some (.inr (.inr (s))) else
  some (.inl (s + 1))
def f_M_readIn (v1 : Int32) (v2 : Int32) (σ : hl_M) : Option (Int32) :=
  (hl_lp (f_M_readIn_L2 v1 v2 σ) hl_big 0).bind fun x3 =>
  Sum.elim (fun x4 =>
  some ((-1))) (fun x5 =>
  some x5) x3
set_option maxRecDepth 20000 in
theorem p_M_readIn_L2 {X : hl_X} (D : Nat) (v1 : Int32) (v2 : Int32) (σ : hl_M) (s : Int32) {o : (Int32) ⊕ ((Unit) ⊕ (Int32))} {v : Option Value} (h : f_M_readIn_L2 v1 v2 σ s = some o) (k1 : ∀ (c0 : Int32), o = .inl c0 → hl_R X (D + 3) y160 2 [(0, .ref 64), (1, .int v1), (2, .int v2), (3, .int c0)] [] σ v σ) (k2 : o = .inr (.inl ()) → hl_R X (D + 3) y160 28 [] [] σ v σ) (kr : ∀ (a : Int32), o = .inr (.inr (a)) → v = some (.int a)) : hl_R X (D + 3) y160 2 [(0, .ref 64), (1, .int v1), (2, .int v2), (3, .int s)] [] σ v σ := by
  unfold f_M_readIn_L2 at h
  refine hl_iload_n (i := 3) d160_2 rfl rfl ?_
  refine hl_aload_n (i := 0) d160_3 rfl rfl (by decide) ?_
  obtain ⟨x1, hx1, h⟩ := hl_bind h
  refine hl_cVi (D := (D + 2)) (z := y111) (n := 0) (av := []) (st := [.int s]) d160_4 mlM_338 rfl (Nat.le_of_ble_eq_true rfl) (Nat.le_of_ble_eq_true rfl) rc64 ((p_M_wordMany D σ hx1).dle (by omega)) ?_
  refine hl_icmp_ge (tg := 28) d160_7 rfl (fun hc => ?_) (fun hc => ?_)
  · have h := hl_pos hc h
    have h := Option.some.inj h
    subst h
    exact hl_loc (k2 rfl) trivial
  · have h := hl_neg hc h
    refine hl_aload_n (i := 0) d160_10 rfl rfl (by decide) ?_
    refine hl_iload_n (i := 1) d160_11 rfl rfl ?_
    refine hl_iload_n (i := 3) d160_12 rfl rfl ?_
    refine hl_iload_n (i := 2) d160_13 rfl rfl ?_
    obtain ⟨x2, hx2, h⟩ := hl_bind h
    refine hl_cVi (D := (D + 2)) (z := y115) (n := 3) (av := [.int v1, .int s, .int v2]) (st := []) d160_14 mlM_364 rfl (Nat.le_of_ble_eq_true rfl) (Nat.le_of_ble_eq_true rfl) rc64 ((p_M_farFrom D v1 s v2 σ hx2).dle (by omega)) ?_
    refine hl_if_ne (tg := 22) d160_17 rfl (fun hc => ?_) (fun hc => ?_)
    · have h := hl_neg hc h
      refine hl_iinc (ls2 := [(3, .int (s + 1)), (0, .ref 64), (1, .int v1), (2, .int v2)]) d160_22 rfl kx1 (by decide) rfl ?_
      refine hl_goto (tg := 2) d160_25 rfl ?_
      have h := Option.some.inj h
      subst h
      exact hl_loc (k1 (s + 1) rfl) ⟨rfl, rfl, rfl, rfl, trivial⟩
    · have h := hl_pos hc h
      refine hl_iload_n (i := 3) d160_20 rfl rfl ?_
      have h := Option.some.inj h
      subst h
      have e1 := kr s rfl
      subst e1
      exact hl_iret d160_21 rfl
set_option maxRecDepth 20000 in
theorem p_M_readIn {X : hl_X} (D : Nat) (v1 : Int32) (v2 : Int32) (σ : hl_M) {r : Int32} (h : f_M_readIn v1 v2 σ = some r) : hl_R X (D + 3) y160 0 [(0, .ref 64), (1, .int v1), (2, .int v2)] [] σ (some (.int r)) σ := by
  unfold f_M_readIn at h
  refine hl_iconst d160_0 ki0 ?_
  refine hl_istore_n (i := 3) (ls2 := [(3, .int 0), (0, .ref 64), (1, .int v1), (2, .int v2)]) d160_1 rfl (by decide) rfl ?_
  obtain ⟨x3, hx3, h⟩ := hl_bind h
  refine hl_R.loc (ls' := [(0, .ref 64), (1, .int v1), (2, .int v2), (3, .int 0)]) ⟨rfl, rfl, rfl, rfl, trivial⟩ ?_
  refine hl_lp_run1 (P := fun (c0 : Int32) => hl_R X (D + 3) y160 2 [(0, .ref 64), (1, .int v1), (2, .int v2), (3, .int c0)] [] σ (some (.int r)) σ) (Sum.elim (fun x : Unit => hl_R X (D + 3) y160 28 [] [] σ (some (.int r)) σ) (fun a : Int32 => ((some (.int r)) : Option Value) = some (.int a))) (fun c0 o ho h1 h2 => p_M_readIn_L2 D v1 v2 σ c0 ho h1 (fun e => h2 (.inl ()) e) (fun a e => h2 (.inr (a)) e)) hl_big 0 x3 hx3 ?_
  rcases hl_sum h with ⟨x4, e_x4, h⟩ | ⟨x5, e_x5, h⟩
  · subst e_x4
    refine hl_iconst d160_28 kim1 ?_
    have h := Option.some.inj h
    subst h
    exact hl_iret d160_29 rfl
  · subst e_x5
    cases h
    rfl
def f_M_read (v1 : Int32) (v2 : Int32) (σ : hl_M) : Option (Int32) :=
  if (f_M_isBeat v1) = 0 then
  some ((-1)) else
  (f_M_readIn v1 v2 σ).bind fun x1 =>
  some x1
set_option maxRecDepth 20000 in
theorem p_M_read {X : hl_X} (D : Nat) (v1 : Int32) (v2 : Int32) (σ : hl_M) {r : Int32} (h : f_M_read v1 v2 σ = some r) : hl_R X (D + 4) y159 0 [(0, .ref 64), (1, .int v1), (2, .int v2)] [] σ (some (.int r)) σ := by
  unfold f_M_read at h
  refine hl_iload_n (i := 1) d159_0 rfl rfl ?_
  refine hl_cSi (D := (D + 3)) (z := y139) (n := 1) (av := [.int v1]) (st := []) d159_1 mlM_409 rfl (Nat.le_of_ble_eq_true rfl) (Nat.le_of_ble_eq_true rfl) ((p_M_isBeat D v1 σ rfl).dle (by omega)) ?_
  refine hl_if_eq (tg := 16) d159_4 rfl (fun hc => ?_) (fun hc => ?_)
  · have h := hl_pos hc h
    refine hl_iconst d159_16 kim1 ?_
    have h := Option.some.inj h
    subst h
    exact hl_iret d159_17 rfl
  · have h := hl_neg hc h
    refine hl_aload_n (i := 0) d159_7 rfl rfl (by decide) ?_
    refine hl_iload_n (i := 1) d159_8 rfl rfl ?_
    refine hl_iload_n (i := 2) d159_9 rfl rfl ?_
    obtain ⟨x1, hx1, h⟩ := hl_bind h
    refine hl_cVi (D := (D + 3)) (z := y160) (n := 2) (av := [.int v1, .int v2]) (st := []) d159_10 mlM_417 rfl (Nat.le_of_ble_eq_true rfl) (Nat.le_of_ble_eq_true rfl) rc64 ((p_M_readIn D v1 v2 σ hx1).dle (by omega)) ?_
    refine hl_goto (tg := 17) d159_13 rfl ?_
    have h := Option.some.inj h
    subst h
    exact hl_iret d159_17 rfl
