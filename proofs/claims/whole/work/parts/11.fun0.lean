theorem hl_some2 {α β : Type} {a c : α} {b d : β} (h : some (a, b) = some (c, d)) : a = c ∧ b = d := Prod.mk.inj (Option.some.inj h)
theorem hl_lp_run1 {A0 E : Type} {b : A0 → Option ((A0) ⊕ E)} {P : A0 → Prop} (G : E → Prop) (hs : ∀ a0 o, b a0 = some o → (∀ c0, o = .inl c0 → P c0) → (∀ x, o = .inr x → G x) → P a0) : ∀ n a0 x, hl_lp b n a0 = some x → G x → P a0 := fun n a0 x h hG => hl_lp_run (P := fun s : A0 => P s) G (fun s o ho h1 h2 => hs s o ho (fun c0 e => h1 c0 e) h2) n a0 x h hG
theorem hl_lp_run2 {A0 A1 E : Type} {b : (A0 × A1) → Option ((A0 × A1) ⊕ E)} {P : A0 → A1 → Prop} (G : E → Prop) (hs : ∀ a0 a1 o, b (a0, a1) = some o → (∀ c0 c1, o = .inl (c0, c1) → P c0 c1) → (∀ x, o = .inr x → G x) → P a0 a1) : ∀ n a0 a1 x, hl_lp b n (a0, a1) = some x → G x → P a0 a1 := fun n a0 a1 x h hG => hl_lp_run (P := fun s : A0 × A1 => P s.1 s.2) G (fun s o ho h1 h2 => hs s.1 s.2 o ho (fun c0 c1 e => h1 (c0, c1) e) h2) n (a0, a1) x h hG
theorem hl_lp_run3 {A0 A1 A2 E : Type} {b : (A0 × A1 × A2) → Option ((A0 × A1 × A2) ⊕ E)} {P : A0 → A1 → A2 → Prop} (G : E → Prop) (hs : ∀ a0 a1 a2 o, b (a0, a1, a2) = some o → (∀ c0 c1 c2, o = .inl (c0, c1, c2) → P c0 c1 c2) → (∀ x, o = .inr x → G x) → P a0 a1 a2) : ∀ n a0 a1 a2 x, hl_lp b n (a0, a1, a2) = some x → G x → P a0 a1 a2 := fun n a0 a1 a2 x h hG => hl_lp_run (P := fun s : A0 × A1 × A2 => P s.1 s.2.1 s.2.2) G (fun s o ho h1 h2 => hs s.1 s.2.1 s.2.2 o ho (fun c0 c1 c2 e => h1 (c0, c1, c2) e) h2) n (a0, a1, a2) x h hG
theorem hl_lp_run4 {A0 A1 A2 A3 E : Type} {b : (A0 × A1 × A2 × A3) → Option ((A0 × A1 × A2 × A3) ⊕ E)} {P : A0 → A1 → A2 → A3 → Prop} (G : E → Prop) (hs : ∀ a0 a1 a2 a3 o, b (a0, a1, a2, a3) = some o → (∀ c0 c1 c2 c3, o = .inl (c0, c1, c2, c3) → P c0 c1 c2 c3) → (∀ x, o = .inr x → G x) → P a0 a1 a2 a3) : ∀ n a0 a1 a2 a3 x, hl_lp b n (a0, a1, a2, a3) = some x → G x → P a0 a1 a2 a3 := fun n a0 a1 a2 a3 x h hG => hl_lp_run (P := fun s : A0 × A1 × A2 × A3 => P s.1 s.2.1 s.2.2.1 s.2.2.2) G (fun s o ho h1 h2 => hs s.1 s.2.1 s.2.2.1 s.2.2.2 o ho (fun c0 c1 c2 c3 e => h1 (c0, c1, c2, c3) e) h2) n (a0, a1, a2, a3) x h hG
theorem hl_lp_run5 {A0 A1 A2 A3 A4 E : Type} {b : (A0 × A1 × A2 × A3 × A4) → Option ((A0 × A1 × A2 × A3 × A4) ⊕ E)} {P : A0 → A1 → A2 → A3 → A4 → Prop} (G : E → Prop) (hs : ∀ a0 a1 a2 a3 a4 o, b (a0, a1, a2, a3, a4) = some o → (∀ c0 c1 c2 c3 c4, o = .inl (c0, c1, c2, c3, c4) → P c0 c1 c2 c3 c4) → (∀ x, o = .inr x → G x) → P a0 a1 a2 a3 a4) : ∀ n a0 a1 a2 a3 a4 x, hl_lp b n (a0, a1, a2, a3, a4) = some x → G x → P a0 a1 a2 a3 a4 := fun n a0 a1 a2 a3 a4 x h hG => hl_lp_run (P := fun s : A0 × A1 × A2 × A3 × A4 => P s.1 s.2.1 s.2.2.1 s.2.2.2.1 s.2.2.2.2) G (fun s o ho h1 h2 => hs s.1 s.2.1 s.2.2.1 s.2.2.2.1 s.2.2.2.2 o ho (fun c0 c1 c2 c3 c4 e => h1 (c0, c1, c2, c3, c4) e) h2) n (a0, a1, a2, a3, a4) x h hG
theorem hl_lp_run6 {A0 A1 A2 A3 A4 A5 E : Type} {b : (A0 × A1 × A2 × A3 × A4 × A5) → Option ((A0 × A1 × A2 × A3 × A4 × A5) ⊕ E)} {P : A0 → A1 → A2 → A3 → A4 → A5 → Prop} (G : E → Prop) (hs : ∀ a0 a1 a2 a3 a4 a5 o, b (a0, a1, a2, a3, a4, a5) = some o → (∀ c0 c1 c2 c3 c4 c5, o = .inl (c0, c1, c2, c3, c4, c5) → P c0 c1 c2 c3 c4 c5) → (∀ x, o = .inr x → G x) → P a0 a1 a2 a3 a4 a5) : ∀ n a0 a1 a2 a3 a4 a5 x, hl_lp b n (a0, a1, a2, a3, a4, a5) = some x → G x → P a0 a1 a2 a3 a4 a5 := fun n a0 a1 a2 a3 a4 a5 x h hG => hl_lp_run (P := fun s : A0 × A1 × A2 × A3 × A4 × A5 => P s.1 s.2.1 s.2.2.1 s.2.2.2.1 s.2.2.2.2.1 s.2.2.2.2.2) G (fun s o ho h1 h2 => hs s.1 s.2.1 s.2.2.1 s.2.2.2.1 s.2.2.2.2.1 s.2.2.2.2.2 o ho (fun c0 c1 c2 c3 c4 c5 e => h1 (c0, c1, c2, c3, c4, c5) e) h2) n (a0, a1, a2, a3, a4, a5) x h hG
theorem hl_lp_run7 {A0 A1 A2 A3 A4 A5 A6 E : Type} {b : (A0 × A1 × A2 × A3 × A4 × A5 × A6) → Option ((A0 × A1 × A2 × A3 × A4 × A5 × A6) ⊕ E)} {P : A0 → A1 → A2 → A3 → A4 → A5 → A6 → Prop} (G : E → Prop) (hs : ∀ a0 a1 a2 a3 a4 a5 a6 o, b (a0, a1, a2, a3, a4, a5, a6) = some o → (∀ c0 c1 c2 c3 c4 c5 c6, o = .inl (c0, c1, c2, c3, c4, c5, c6) → P c0 c1 c2 c3 c4 c5 c6) → (∀ x, o = .inr x → G x) → P a0 a1 a2 a3 a4 a5 a6) : ∀ n a0 a1 a2 a3 a4 a5 a6 x, hl_lp b n (a0, a1, a2, a3, a4, a5, a6) = some x → G x → P a0 a1 a2 a3 a4 a5 a6 := fun n a0 a1 a2 a3 a4 a5 a6 x h hG => hl_lp_run (P := fun s : A0 × A1 × A2 × A3 × A4 × A5 × A6 => P s.1 s.2.1 s.2.2.1 s.2.2.2.1 s.2.2.2.2.1 s.2.2.2.2.2.1 s.2.2.2.2.2.2) G (fun s o ho h1 h2 => hs s.1 s.2.1 s.2.2.1 s.2.2.2.1 s.2.2.2.2.1 s.2.2.2.2.2.1 s.2.2.2.2.2.2 o ho (fun c0 c1 c2 c3 c4 c5 c6 e => h1 (c0, c1, c2, c3, c4, c5, c6) e) h2) n (a0, a1, a2, a3, a4, a5, a6) x h hG
theorem hl_lp_run8 {A0 A1 A2 A3 A4 A5 A6 A7 E : Type} {b : (A0 × A1 × A2 × A3 × A4 × A5 × A6 × A7) → Option ((A0 × A1 × A2 × A3 × A4 × A5 × A6 × A7) ⊕ E)} {P : A0 → A1 → A2 → A3 → A4 → A5 → A6 → A7 → Prop} (G : E → Prop) (hs : ∀ a0 a1 a2 a3 a4 a5 a6 a7 o, b (a0, a1, a2, a3, a4, a5, a6, a7) = some o → (∀ c0 c1 c2 c3 c4 c5 c6 c7, o = .inl (c0, c1, c2, c3, c4, c5, c6, c7) → P c0 c1 c2 c3 c4 c5 c6 c7) → (∀ x, o = .inr x → G x) → P a0 a1 a2 a3 a4 a5 a6 a7) : ∀ n a0 a1 a2 a3 a4 a5 a6 a7 x, hl_lp b n (a0, a1, a2, a3, a4, a5, a6, a7) = some x → G x → P a0 a1 a2 a3 a4 a5 a6 a7 := fun n a0 a1 a2 a3 a4 a5 a6 a7 x h hG => hl_lp_run (P := fun s : A0 × A1 × A2 × A3 × A4 × A5 × A6 × A7 => P s.1 s.2.1 s.2.2.1 s.2.2.2.1 s.2.2.2.2.1 s.2.2.2.2.2.1 s.2.2.2.2.2.2.1 s.2.2.2.2.2.2.2) G (fun s o ho h1 h2 => hs s.1 s.2.1 s.2.2.1 s.2.2.2.1 s.2.2.2.2.1 s.2.2.2.2.2.1 s.2.2.2.2.2.2.1 s.2.2.2.2.2.2.2 o ho (fun c0 c1 c2 c3 c4 c5 c6 c7 e => h1 (c0, c1, c2, c3, c4, c5, c6, c7) e) h2) n (a0, a1, a2, a3, a4, a5, a6, a7) x h hG
theorem hl_loc {X : hl_X} {D : Nat} {y : hl_Y} {pc : Nat} {ls ls2 : List (Nat × Value)} {st : List Value} {σ τ : hl_M} {v : Option Value} (k : hl_R X D y pc ls2 st σ v τ) (h : hl_sub ls2 ls) : hl_R X D y pc ls st σ v τ := hl_R.loc h k
def hl_yk : Nat → hl_Y := fun k => if k = 0 then y230 else if k = 1 then y231 else if k = 2 then y233 else if k = 3 then y236 else if k = 4 then y240 else y230
def hl_RQ (X : hl_X) (D k : Nat) (σ τ : hl_M) : Prop := hl_R X D (hl_yk k) 0 [(0, .ref 55)] [] σ none τ
def f_X_within (v0 : Int32) (v1 : Int32) : Int32 :=
  if v0 < 0 then
  0 else
  if v1 ≤ v0 then
  0 else
  1
set_option maxRecDepth 20000 in
theorem p_X_within {X : hl_X} (D : Nat) (v0 : Int32) (v1 : Int32) (σ : hl_M) {r : Int32} (h : f_X_within v0 v1 = r) : hl_R X D y2 0 [(0, .int v0), (1, .int v1)] [] σ (some (.int r)) σ := by
  unfold f_X_within at h
  refine hl_iload_n (i := 0) d2_0 rfl rfl ?_
  refine hl_if_lt (tg := 13) d2_1 rfl (fun hc => ?_) (fun hc => ?_)
  · have h := hl_pos hc h
    refine hl_iconst d2_13 ki0 ?_
    subst h
    exact hl_zret d2_14 rfl (by decide)
  · have h := hl_neg hc h
    refine hl_iload_n (i := 0) d2_4 rfl rfl ?_
    refine hl_iload_n (i := 1) d2_5 rfl rfl ?_
    refine hl_icmp_ge (tg := 13) d2_6 rfl (fun hc => ?_) (fun hc => ?_)
    · have h := hl_pos hc h
      refine hl_iconst d2_13 ki0 ?_
      subst h
      exact hl_zret d2_14 rfl (by decide)
    · have h := hl_neg hc h
      refine hl_iconst d2_9 ki1 ?_
      refine hl_goto (tg := 14) d2_10 rfl ?_
      subst h
      exact hl_zret d2_14 rfl (by decide)
def f_Tape_put_L3 (v1 : Int32) (s : Int32 × hl_M) : Option ((Int32 × hl_M) ⊕ (hl_M)) :=
  if s.1 < 0 then
  some (.inr s.2) else
  if (f_X_within (s.2.1 1 1) 1600) = 0 then
  some (.inl ((s.1 + (-8), s.2))) else
  if hl_b (s.2.1 1 1) 1600 then
  some (.inl ((s.1 + (-8), hl_si (hl_si s.2 2 (s.2.1 1 1).toNatClampNeg (vp_nar .byte ((v1 >>> (s.1 &&& 31)).toInt8.toInt32))) 1 1 (((hl_si s.2 2 (s.2.1 1 1).toNatClampNeg (vp_nar .byte ((v1 >>> (s.1 &&& 31)).toInt8.toInt32))).1 1 1) + 1)))) else none
def f_Tape_put (v1 : Int32) (σ : hl_M) : Option (hl_M) :=
  (hl_lp (f_Tape_put_L3 v1) hl_big ((24, σ))).bind fun x1 =>
  some x1
set_option maxRecDepth 20000 in
theorem p_Tape_put_L3 {X : hl_X} (D : Nat) (v1 : Int32) (s : Int32 × hl_M) {o : (Int32 × hl_M) ⊕ (hl_M)} {v : Option Value} {τ : hl_M} (h : f_Tape_put_L3 v1 s = some o) (k1 : ∀ (c0 : Int32) (c1 : hl_M), o = .inl ((c0, c1)) → hl_R X (D + 1) y1 3 [(0, .ref 1), (1, .int v1), (2, .int c0)] [] c1 v τ) (k2 : ∀ (a0 : hl_M), o = .inr a0 → hl_R X (D + 1) y1 51 [] [] a0 v τ) : hl_R X (D + 1) y1 3 [(0, .ref 1), (1, .int v1), (2, .int s.1)] [] s.2 v τ := by
  unfold f_Tape_put_L3 at h
  refine hl_iload_n (i := 2) d1_3 rfl rfl ?_
  refine hl_if_lt (tg := 51) d1_4 rfl (fun hc => ?_) (fun hc => ?_)
  · have h := hl_pos hc h
    have h := Option.some.inj h
    subst h
    exact hl_loc (k2 s.2 rfl) trivial
  · have h := hl_neg hc h
    refine hl_aload_n (i := 0) d1_7 rfl rfl (by decide) ?_
    refine hl_gi d1_8 gTape_15_1 ?_
    refine hl_aload_n (i := 0) d1_11 rfl rfl (by decide) ?_
    refine hl_gr d1_12 gTape_9_1 ?_
    refine hl_alen d1_15 sh2 (by decide) kn1600 ?_
    refine hl_cNi (D := D) (z := y2) (n := 2) (av := [.int (s.2.1 1 1), .int 1600]) (st := []) d1_16 mlTape_19 rfl (Nat.le_of_ble_eq_true rfl) (Nat.le_of_ble_eq_true rfl) ((p_X_within D (s.2.1 1 1) 1600 s.2 rfl).dle (by omega)) ?_
    refine hl_if_eq (tg := 45) d1_19 rfl (fun hc => ?_) (fun hc => ?_)
    · have h := hl_pos hc h
      refine hl_iinc (ls2 := [(2, .int (s.1 + (-8))), (0, .ref 1), (1, .int v1)]) d1_45 rfl kxm8 (by decide) rfl ?_
      refine hl_goto (tg := 3) d1_48 rfl ?_
      have h := Option.some.inj h
      subst h
      exact hl_loc (k1 (s.1 + (-8)) s.2 rfl) ⟨rfl, rfl, rfl, trivial⟩
    · have h := hl_neg hc h
      refine hl_aload_n (i := 0) d1_22 rfl rfl (by decide) ?_
      refine hl_gr d1_23 gTape_9_1 ?_
      refine hl_aload_n (i := 0) d1_26 rfl rfl (by decide) ?_
      refine hl_gi d1_27 gTape_15_1 ?_
      refine hl_iload_n (i := 1) d1_30 rfl rfl ?_
      refine hl_iload_n (i := 2) d1_31 rfl rfl ?_
      refine hl_ishr d1_32 ?_
      refine hl_i2b d1_33 ?_
      obtain ⟨hb, h⟩ := hl_gd h
      refine hl_bast (q := 2) d1_34 sh2 (hl_b_in hb) ?_
      refine hl_aload_n (i := 0) d1_35 rfl rfl (by decide) ?_
      refine hl_dup d1_36 rfl ?_
      refine hl_gi d1_37 gTape_15_1 ?_
      refine hl_iconst d1_40 ki1 ?_
      refine hl_iadd d1_41 ?_
      refine hl_pi d1_42 qTape_15_1 ?_
      refine hl_iinc (ls2 := [(2, .int (s.1 + (-8))), (0, .ref 1), (1, .int v1)]) d1_45 rfl kxm8 (by decide) rfl ?_
      refine hl_goto (tg := 3) d1_48 rfl ?_
      have h := Option.some.inj h
      subst h
      exact hl_loc (k1 (s.1 + (-8)) (hl_si (hl_si s.2 2 (s.2.1 1 1).toNatClampNeg (vp_nar .byte ((v1 >>> (s.1 &&& 31)).toInt8.toInt32))) 1 1 (((hl_si s.2 2 (s.2.1 1 1).toNatClampNeg (vp_nar .byte ((v1 >>> (s.1 &&& 31)).toInt8.toInt32))).1 1 1) + 1)) rfl) ⟨rfl, rfl, rfl, trivial⟩
set_option maxRecDepth 20000 in
theorem p_Tape_put {X : hl_X} (D : Nat) (v1 : Int32) (σ : hl_M) {τ : hl_M} (h : f_Tape_put v1 σ = some τ) : hl_R X (D + 1) y1 0 [(0, .ref 1), (1, .int v1)] [] σ none τ := by
  unfold f_Tape_put at h
  refine hl_bipush d1_0 kb24 ?_
  refine hl_istore_n (i := 2) (ls2 := [(2, .int 24), (0, .ref 1), (1, .int v1)]) d1_2 rfl (by decide) rfl ?_
  obtain ⟨x1, hx1, h⟩ := hl_bind h
  refine hl_R.loc (ls' := [(0, .ref 1), (1, .int v1), (2, .int 24)]) ⟨rfl, rfl, rfl, trivial⟩ ?_
  refine hl_lp_run2 (P := fun (c0 : Int32) (c1 : hl_M) => hl_R X (D + 1) y1 3 [(0, .ref 1), (1, .int v1), (2, .int c0)] [] c1 none τ) (fun x : hl_M => hl_R X (D + 1) y1 51 [] [] x none τ) (fun c0 c1 o ho h1 h2 => p_Tape_put_L3 D v1 (c0, c1) ho h1 (fun a0 e => h2 a0 e)) hl_big 24 σ x1 hx1 ?_
  have h := Option.some.inj h
  subst h
  exact hl_vret d1_51 rfl
def f_X_feed (v1 : Int32) (v2 : Int32) (v3 : Int32) (v4 : Int32) (v5 : Int32) (σ : hl_M) : Option (Int32 × hl_M) :=
  if ((σ.1 1 1) + 20) ≤ 1600 then
  (f_Tape_put v1 σ).bind fun x1 =>
  (f_Tape_put v2 x1).bind fun x2 =>
  (f_Tape_put v3 x2).bind fun x3 =>
  (f_Tape_put v4 x3).bind fun x4 =>
  (f_Tape_put v5 x4).bind fun x5 =>
  some ((x5.1 1 1, x5)) else
  some (((-1), σ))
set_option maxRecDepth 20000 in
theorem p_X_feed {X : hl_X} (D : Nat) (v1 : Int32) (v2 : Int32) (v3 : Int32) (v4 : Int32) (v5 : Int32) (σ : hl_M) {r : Int32} {τ : hl_M} (h : f_X_feed v1 v2 v3 v4 v5 σ = some (r, τ)) : hl_R X (D + 2) y0 0 [(0, .ref 0), (1, .int v1), (2, .int v2), (3, .int v3), (4, .int v4), (5, .int v5)] [] σ (some (.int r)) τ := by
  unfold f_X_feed at h
  refine hl_aload_n (i := 0) d0_0 rfl rfl (by decide) ?_
  refine hl_gr d0_1 gX_10_0 ?_
  refine hl_gi d0_4 gX_92_1 ?_
  refine hl_bipush d0_7 kb20 ?_
  refine hl_iadd d0_9 ?_
  refine hl_sipush d0_10 ks1600 ?_
  refine hl_icmp_le (tg := 18) d0_13 rfl (fun hc => ?_) (fun hc => ?_)
  · have h := hl_pos hc h
    refine hl_aload_n (i := 0) d0_18 rfl rfl (by decide) ?_
    refine hl_gr d0_19 gX_10_0 ?_
    refine hl_iload_n (i := 1) d0_22 rfl rfl ?_
    obtain ⟨x1, hx1, h⟩ := hl_bind h
    refine hl_cVv (D := (D + 1)) (z := y1) (n := 1) (av := [.int v1]) (st := []) d0_23 mlX_96 rfl (Nat.le_of_ble_eq_true rfl) (Nat.le_of_ble_eq_true rfl) rc1 ((p_Tape_put D v1 σ hx1).dle (by omega)) ?_
    refine hl_aload_n (i := 0) d0_26 rfl rfl (by decide) ?_
    refine hl_gr d0_27 gX_10_0 ?_
    refine hl_iload_n (i := 2) d0_30 rfl rfl ?_
    obtain ⟨x2, hx2, h⟩ := hl_bind h
    refine hl_cVv (D := (D + 1)) (z := y1) (n := 1) (av := [.int v2]) (st := []) d0_31 mlX_96 rfl (Nat.le_of_ble_eq_true rfl) (Nat.le_of_ble_eq_true rfl) rc1 ((p_Tape_put D v2 x1 hx2).dle (by omega)) ?_
    refine hl_aload_n (i := 0) d0_34 rfl rfl (by decide) ?_
    refine hl_gr d0_35 gX_10_0 ?_
    refine hl_iload_n (i := 3) d0_38 rfl rfl ?_
    obtain ⟨x3, hx3, h⟩ := hl_bind h
    refine hl_cVv (D := (D + 1)) (z := y1) (n := 1) (av := [.int v3]) (st := []) d0_39 mlX_96 rfl (Nat.le_of_ble_eq_true rfl) (Nat.le_of_ble_eq_true rfl) rc1 ((p_Tape_put D v3 x2 hx3).dle (by omega)) ?_
    refine hl_aload_n (i := 0) d0_42 rfl rfl (by decide) ?_
    refine hl_gr d0_43 gX_10_0 ?_
    refine hl_iload d0_46 rfl ?_
    obtain ⟨x4, hx4, h⟩ := hl_bind h
    refine hl_cVv (D := (D + 1)) (z := y1) (n := 1) (av := [.int v4]) (st := []) d0_48 mlX_96 rfl (Nat.le_of_ble_eq_true rfl) (Nat.le_of_ble_eq_true rfl) rc1 ((p_Tape_put D v4 x3 hx4).dle (by omega)) ?_
    refine hl_aload_n (i := 0) d0_51 rfl rfl (by decide) ?_
    refine hl_gr d0_52 gX_10_0 ?_
    refine hl_iload d0_55 rfl ?_
    obtain ⟨x5, hx5, h⟩ := hl_bind h
    refine hl_cVv (D := (D + 1)) (z := y1) (n := 1) (av := [.int v5]) (st := []) d0_57 mlX_96 rfl (Nat.le_of_ble_eq_true rfl) (Nat.le_of_ble_eq_true rfl) rc1 ((p_Tape_put D v5 x4 hx5).dle (by omega)) ?_
    refine hl_aload_n (i := 0) d0_60 rfl rfl (by decide) ?_
    refine hl_gr d0_61 gX_10_0 ?_
    refine hl_gi d0_64 gX_92_1 ?_
    obtain ⟨e1, e2⟩ := hl_some2 h
    subst e1; subst e2
    exact hl_iret d0_67 rfl
  · have h := hl_neg hc h
    refine hl_iconst d0_16 kim1 ?_
    obtain ⟨e1, e2⟩ := hl_some2 h
    subst e1; subst e2
    exact hl_iret d0_17 rfl
def f_M_feed_j71 (v1 : Int32) (v2 : Int32) (v3 : Int32) (v4 : Int32) (v5 : Int32) (v6 : Int32) (s0 : Int32) (σ : hl_M) : Option ((Int32 × hl_M) ⊕ (hl_M)) :=
  if hl_b (σ.1 64 1) 1600 then
  some (.inl ((v6 + 1, hl_si (hl_si σ 65 (σ.1 64 1).toNatClampNeg ((s0 >>> ((8 * (3 - (v6 - v6 / 4 * 4))) &&& 31)) &&& 255)) 64 1 (((hl_si σ 65 (σ.1 64 1).toNatClampNeg ((s0 >>> ((8 * (3 - (v6 - v6 / 4 * 4))) &&& 31)) &&& 255)).1 64 1) + 1)))) else none
def f_M_feed_L18 (v1 : Int32) (v2 : Int32) (v3 : Int32) (v4 : Int32) (v5 : Int32) (s : Int32 × hl_M) : Option ((Int32 × hl_M) ⊕ (hl_M)) :=
  if 20 ≤ s.1 then
  some (.inr s.2) else
  if 4 ≤ s.1 then
  if 8 ≤ s.1 then
  if 12 ≤ s.1 then
  if 16 ≤ s.1 then
  f_M_feed_j71 v1 v2 v3 v4 v5 s.1 v5 s.2 else
  f_M_feed_j71 v1 v2 v3 v4 v5 s.1 v4 s.2 else
  f_M_feed_j71 v1 v2 v3 v4 v5 s.1 v3 s.2 else
  f_M_feed_j71 v1 v2 v3 v4 v5 s.1 v2 s.2 else
  f_M_feed_j71 v1 v2 v3 v4 v5 s.1 v1 s.2
def f_M_feed (v1 : Int32) (v2 : Int32) (v3 : Int32) (v4 : Int32) (v5 : Int32) (σ : hl_M) : Option (Int32 × hl_M) :=
  if ((σ.1 64 1) + 20) ≤ 1600 then
  (hl_lp (f_M_feed_L18 v1 v2 v3 v4 v5) hl_big ((0, σ))).bind fun x1 =>
  some ((x1.1 64 1, x1)) else
  some (((-1), σ))
set_option maxRecDepth 20000 in
theorem p_M_feed_j71 {X : hl_X} (D : Nat) (v1 : Int32) (v2 : Int32) (v3 : Int32) (v4 : Int32) (v5 : Int32) (v6 : Int32) (s0 : Int32) (σ : hl_M) {o : (Int32 × hl_M) ⊕ (hl_M)} {v : Option Value} {τ : hl_M} (h : f_M_feed_j71 v1 v2 v3 v4 v5 v6 s0 σ = some o) (k1 : ∀ (c0 : Int32) (c1 : hl_M), o = .inl ((c0, c1)) → hl_R X D y3 18 [(0, .ref 64), (1, .int v1), (2, .int v2), (3, .int v3), (4, .int v4), (5, .int v5), (6, .int c0)] [] c1 v τ) (k2 : ∀ (a0 : hl_M), o = .inr a0 → hl_R X D y3 114 [(0, .ref 64)] [] a0 v τ) : hl_R X D y3 71 [(0, .ref 64), (1, .int v1), (2, .int v2), (3, .int v3), (4, .int v4), (5, .int v5), (6, .int v6)] [.int s0] σ v τ := by
  unfold f_M_feed_j71 at h
  refine hl_istore (ls2 := [(7, .int s0), (0, .ref 64), (1, .int v1), (2, .int v2), (3, .int v3), (4, .int v4), (5, .int v5), (6, .int v6)]) d3_71 (by decide) rfl ?_
  refine hl_aload_n (i := 0) d3_73 rfl rfl (by decide) ?_
  refine hl_gr d3_74 gM_7_64 ?_
  refine hl_aload_n (i := 0) d3_77 rfl rfl (by decide) ?_
  refine hl_gi d3_78 gM_170_64 ?_
  refine hl_iload d3_81 rfl ?_
  refine hl_bipush d3_83 kb8 ?_
  refine hl_iconst d3_85 ki3 ?_
  refine hl_iload d3_86 rfl ?_
  refine hl_iconst d3_88 ki4 ?_
  refine hl_irem d3_89 (by decide) ?_
  refine hl_isub d3_90 ?_
  refine hl_imul d3_91 ?_
  refine hl_ishr d3_92 ?_
  refine hl_sipush d3_93 ks255 ?_
  refine hl_iand d3_96 ?_
  obtain ⟨hb, h⟩ := hl_gd h
  refine hl_iast (q := 65) d3_97 sh65 (hl_b_in hb) ?_
  refine hl_aload_n (i := 0) d3_98 rfl rfl (by decide) ?_
  refine hl_dup d3_99 rfl ?_
  refine hl_gi d3_100 gM_170_64 ?_
  refine hl_iconst d3_103 ki1 ?_
  refine hl_iadd d3_104 ?_
  refine hl_pi d3_105 qM_170_64 ?_
  refine hl_iinc (ls2 := [(6, .int (v6 + 1)), (7, .int s0), (0, .ref 64), (1, .int v1), (2, .int v2), (3, .int v3), (4, .int v4), (5, .int v5)]) d3_108 rfl kx1 (by decide) rfl ?_
  refine hl_goto (tg := 18) d3_111 rfl ?_
  have h := Option.some.inj h
  subst h
  exact hl_loc (k1 (v6 + 1) (hl_si (hl_si σ 65 (σ.1 64 1).toNatClampNeg ((s0 >>> ((8 * (3 - (v6 - v6 / 4 * 4))) &&& 31)) &&& 255)) 64 1 (((hl_si σ 65 (σ.1 64 1).toNatClampNeg ((s0 >>> ((8 * (3 - (v6 - v6 / 4 * 4))) &&& 31)) &&& 255)).1 64 1) + 1)) rfl) ⟨rfl, rfl, rfl, rfl, rfl, rfl, rfl, trivial⟩
set_option maxRecDepth 20000 in
theorem p_M_feed_L18 {X : hl_X} (D : Nat) (v1 : Int32) (v2 : Int32) (v3 : Int32) (v4 : Int32) (v5 : Int32) (s : Int32 × hl_M) {o : (Int32 × hl_M) ⊕ (hl_M)} {v : Option Value} {τ : hl_M} (h : f_M_feed_L18 v1 v2 v3 v4 v5 s = some o) (k1 : ∀ (c0 : Int32) (c1 : hl_M), o = .inl ((c0, c1)) → hl_R X D y3 18 [(0, .ref 64), (1, .int v1), (2, .int v2), (3, .int v3), (4, .int v4), (5, .int v5), (6, .int c0)] [] c1 v τ) (k2 : ∀ (a0 : hl_M), o = .inr a0 → hl_R X D y3 114 [(0, .ref 64)] [] a0 v τ) : hl_R X D y3 18 [(0, .ref 64), (1, .int v1), (2, .int v2), (3, .int v3), (4, .int v4), (5, .int v5), (6, .int s.1)] [] s.2 v τ := by
  unfold f_M_feed_L18 at h
  refine hl_iload d3_18 rfl ?_
  refine hl_bipush d3_20 kb20 ?_
  refine hl_icmp_ge (tg := 114) d3_22 rfl (fun hc => ?_) (fun hc => ?_)
  · have h := hl_pos hc h
    have h := Option.some.inj h
    subst h
    exact hl_loc (k2 s.2 rfl) ⟨rfl, trivial⟩
  · have h := hl_neg hc h
    refine hl_iload d3_25 rfl ?_
    refine hl_iconst d3_27 ki4 ?_
    refine hl_icmp_ge (tg := 35) d3_28 rfl (fun hc => ?_) (fun hc => ?_)
    · have h := hl_pos hc h
      refine hl_iload d3_35 rfl ?_
      refine hl_bipush d3_37 kb8 ?_
      refine hl_icmp_ge (tg := 46) d3_39 rfl (fun hc => ?_) (fun hc => ?_)
      · have h := hl_pos hc h
        refine hl_iload d3_46 rfl ?_
        refine hl_bipush d3_48 kb12 ?_
        refine hl_icmp_ge (tg := 57) d3_50 rfl (fun hc => ?_) (fun hc => ?_)
        · have h := hl_pos hc h
          refine hl_iload d3_57 rfl ?_
          refine hl_bipush d3_59 kb16 ?_
          refine hl_icmp_ge (tg := 69) d3_61 rfl (fun hc => ?_) (fun hc => ?_)
          · have h := hl_pos hc h
            refine hl_iload d3_69 rfl ?_
            exact hl_loc (p_M_feed_j71 D v1 v2 v3 v4 v5 s.1 v5 s.2 h k1 k2) ⟨rfl, rfl, rfl, rfl, rfl, rfl, rfl, trivial⟩
          · have h := hl_neg hc h
            refine hl_iload d3_64 rfl ?_
            refine hl_goto (tg := 71) d3_66 rfl ?_
            exact hl_loc (p_M_feed_j71 D v1 v2 v3 v4 v5 s.1 v4 s.2 h k1 k2) ⟨rfl, rfl, rfl, rfl, rfl, rfl, rfl, trivial⟩
        · have h := hl_neg hc h
          refine hl_iload_n (i := 3) d3_53 rfl rfl ?_
          refine hl_goto (tg := 71) d3_54 rfl ?_
          exact hl_loc (p_M_feed_j71 D v1 v2 v3 v4 v5 s.1 v3 s.2 h k1 k2) ⟨rfl, rfl, rfl, rfl, rfl, rfl, rfl, trivial⟩
      · have h := hl_neg hc h
        refine hl_iload_n (i := 2) d3_42 rfl rfl ?_
        refine hl_goto (tg := 71) d3_43 rfl ?_
        exact hl_loc (p_M_feed_j71 D v1 v2 v3 v4 v5 s.1 v2 s.2 h k1 k2) ⟨rfl, rfl, rfl, rfl, rfl, rfl, rfl, trivial⟩
    · have h := hl_neg hc h
      refine hl_iload_n (i := 1) d3_31 rfl rfl ?_
      refine hl_goto (tg := 71) d3_32 rfl ?_
      exact hl_loc (p_M_feed_j71 D v1 v2 v3 v4 v5 s.1 v1 s.2 h k1 k2) ⟨rfl, rfl, rfl, rfl, rfl, rfl, rfl, trivial⟩
set_option maxRecDepth 20000 in
theorem p_M_feed {X : hl_X} (D : Nat) (v1 : Int32) (v2 : Int32) (v3 : Int32) (v4 : Int32) (v5 : Int32) (σ : hl_M) {r : Int32} {τ : hl_M} (h : f_M_feed v1 v2 v3 v4 v5 σ = some (r, τ)) : hl_R X D y3 0 [(0, .ref 64), (1, .int v1), (2, .int v2), (3, .int v3), (4, .int v4), (5, .int v5)] [] σ (some (.int r)) τ := by
  unfold f_M_feed at h
  refine hl_aload_n (i := 0) d3_0 rfl rfl (by decide) ?_
  refine hl_gi d3_1 gM_170_64 ?_
  refine hl_bipush d3_4 kb20 ?_
  refine hl_iadd d3_6 ?_
  refine hl_sipush d3_7 ks1600 ?_
  refine hl_icmp_le (tg := 15) d3_10 rfl (fun hc => ?_) (fun hc => ?_)
  · have h := hl_pos hc h
    refine hl_iconst d3_15 ki0 ?_
    refine hl_istore (ls2 := [(6, .int 0), (0, .ref 64), (1, .int v1), (2, .int v2), (3, .int v3), (4, .int v4), (5, .int v5)]) d3_16 (by decide) rfl ?_
    obtain ⟨x1, hx1, h⟩ := hl_bind h
    refine hl_R.loc (ls' := [(0, .ref 64), (1, .int v1), (2, .int v2), (3, .int v3), (4, .int v4), (5, .int v5), (6, .int 0)]) ⟨rfl, rfl, rfl, rfl, rfl, rfl, rfl, trivial⟩ ?_
    refine hl_lp_run2 (P := fun (c0 : Int32) (c1 : hl_M) => hl_R X D y3 18 [(0, .ref 64), (1, .int v1), (2, .int v2), (3, .int v3), (4, .int v4), (5, .int v5), (6, .int c0)] [] c1 (some (.int r)) τ) (fun x : hl_M => hl_R X D y3 114 [(0, .ref 64)] [] x (some (.int r)) τ) (fun c0 c1 o ho h1 h2 => p_M_feed_L18 D v1 v2 v3 v4 v5 (c0, c1) ho h1 (fun a0 e => h2 a0 e)) hl_big 0 σ x1 hx1 ?_
    refine hl_aload_n (i := 0) d3_114 rfl rfl (by decide) ?_
    refine hl_gi d3_115 gM_170_64 ?_
    obtain ⟨e1, e2⟩ := hl_some2 h
    subst e1; subst e2
    exact hl_iret d3_118 rfl
  · have h := hl_neg hc h
    refine hl_iconst d3_13 kim1 ?_
    obtain ⟨e1, e2⟩ := hl_some2 h
    subst e1; subst e2
    exact hl_iret d3_14 rfl
def f_X_end (v1 : Int32) (σ : hl_M) : Int32 × hl_M :=
  if v1 < 0 then
  (0, σ) else
  if v1 ≤ (σ.1 1 1) then
  (1, hl_si σ 1 1 v1) else
  (0, σ)
set_option maxRecDepth 20000 in
theorem p_X_end {X : hl_X} (D : Nat) (v1 : Int32) (σ : hl_M) {r : Int32} {τ : hl_M} (h : f_X_end v1 σ = (r, τ)) : hl_R X D y4 0 [(0, .ref 0), (1, .int v1)] [] σ (some (.int r)) τ := by
  unfold f_X_end at h
  refine hl_iload_n (i := 1) d4_0 rfl rfl ?_
  refine hl_if_lt (tg := 15) d4_1 rfl (fun hc => ?_) (fun hc => ?_)
  · have h := hl_pos hc h
    refine hl_iconst d4_15 ki0 ?_
    obtain ⟨e1, e2⟩ := Prod.mk.inj h
    subst e1; subst e2
    exact hl_zret d4_16 rfl (by decide)
  · have h := hl_neg hc h
    refine hl_iload_n (i := 1) d4_4 rfl rfl ?_
    refine hl_aload_n (i := 0) d4_5 rfl rfl (by decide) ?_
    refine hl_gr d4_6 gX_10_0 ?_
    refine hl_gi d4_9 gX_92_1 ?_
    refine hl_icmp_le (tg := 17) d4_12 rfl (fun hc => ?_) (fun hc => ?_)
    · have h := hl_pos hc h
      refine hl_aload_n (i := 0) d4_17 rfl rfl (by decide) ?_
      refine hl_gr d4_18 gX_10_0 ?_
      refine hl_iload_n (i := 1) d4_21 rfl rfl ?_
      refine hl_pi d4_22 qX_92_1 ?_
      refine hl_iconst d4_25 ki1 ?_
      obtain ⟨e1, e2⟩ := Prod.mk.inj h
      subst e1; subst e2
      exact hl_zret d4_26 rfl (by decide)
    · have h := hl_neg hc h
      refine hl_iconst d4_15 ki0 ?_
      obtain ⟨e1, e2⟩ := Prod.mk.inj h
      subst e1; subst e2
      exact hl_zret d4_16 rfl (by decide)
def f_M_end (v1 : Int32) (σ : hl_M) : Int32 × hl_M :=
  if v1 < 0 then
  (0, σ) else
  if v1 ≤ (σ.1 64 1) then
  (1, hl_si σ 64 1 v1) else
  (0, σ)
set_option maxRecDepth 20000 in
theorem p_M_end {X : hl_X} (D : Nat) (v1 : Int32) (σ : hl_M) {r : Int32} {τ : hl_M} (h : f_M_end v1 σ = (r, τ)) : hl_R X D y5 0 [(0, .ref 64), (1, .int v1)] [] σ (some (.int r)) τ := by
  unfold f_M_end at h
  refine hl_iload_n (i := 1) d5_0 rfl rfl ?_
  refine hl_if_lt (tg := 12) d5_1 rfl (fun hc => ?_) (fun hc => ?_)
  · have h := hl_pos hc h
    refine hl_iconst d5_12 ki0 ?_
    obtain ⟨e1, e2⟩ := Prod.mk.inj h
    subst e1; subst e2
    exact hl_zret d5_13 rfl (by decide)
  · have h := hl_neg hc h
    refine hl_iload_n (i := 1) d5_4 rfl rfl ?_
    refine hl_aload_n (i := 0) d5_5 rfl rfl (by decide) ?_
    refine hl_gi d5_6 gM_170_64 ?_
    refine hl_icmp_le (tg := 14) d5_9 rfl (fun hc => ?_) (fun hc => ?_)
    · have h := hl_pos hc h
      refine hl_aload_n (i := 0) d5_14 rfl rfl (by decide) ?_
      refine hl_iload_n (i := 1) d5_15 rfl rfl ?_
      refine hl_pi d5_16 qM_170_64 ?_
      refine hl_iconst d5_19 ki1 ?_
      obtain ⟨e1, e2⟩ := Prod.mk.inj h
      subst e1; subst e2
      exact hl_zret d5_20 rfl (by decide)
    · have h := hl_neg hc h
      refine hl_iconst d5_12 ki0 ?_
      obtain ⟨e1, e2⟩ := Prod.mk.inj h
      subst e1; subst e2
      exact hl_zret d5_13 rfl (by decide)
def f_Gr_clear_d (σ : hl_M) : hl_M :=
  hl_si (hl_si (hl_si (hl_sl (hl_si (hl_si σ 14 0 0) 14 1 0) 14 2 0) 14 3 0) 14 8 0) 14 12 0
set_option maxRecDepth 20000 in
theorem p_Gr_clear_d {X : hl_X} (D : Nat) (σ : hl_M) {τ : hl_M} (h : f_Gr_clear_d σ = τ) : hl_R X D y8 0 [(0, .ref 14)] [] σ none τ := by
  unfold f_Gr_clear_d at h
  refine hl_aload_n (i := 0) d8_0 rfl rfl (by decide) ?_
  refine hl_iconst d8_1 ki0 ?_
  refine hl_pi d8_2 qGr_40_14 ?_
  refine hl_aload_n (i := 0) d8_5 rfl rfl (by decide) ?_
  refine hl_iconst d8_6 ki0 ?_
  refine hl_pi d8_7 qGr_44_14 ?_
  refine hl_aload_n (i := 0) d8_10 rfl rfl (by decide) ?_
  refine hl_lconst (x := 0) d8_11 (by decide) ?_
  refine hl_pl d8_12 qGr_47_14 ?_
  refine hl_aload_n (i := 0) d8_15 rfl rfl (by decide) ?_
  refine hl_iconst d8_16 ki0 ?_
  refine hl_pi d8_17 qGr_51_14 ?_
  refine hl_aload_n (i := 0) d8_20 rfl rfl (by decide) ?_
  refine hl_iconst d8_21 ki0 ?_
  refine hl_pi d8_22 qGr_54_14 ?_
  refine hl_aload_n (i := 0) d8_25 rfl rfl (by decide) ?_
  refine hl_iconst d8_26 ki0 ?_
  refine hl_pi d8_27 qGr_57_14 ?_
  subst h
  exact hl_vret d8_30 rfl
def f_Tape_at (v1 : Int32) (σ : hl_M) : Option (Int32) :=
  if v1 < 0 then
  some ((-1)) else
  if (σ.1 1 1) ≤ v1 then
  some ((-1)) else
  if 1600 ≤ v1 then
  some ((-1)) else
  if hl_b v1 1600 then
  some ((σ.1 2 v1.toNatClampNeg) &&& 255) else none
set_option maxRecDepth 20000 in
theorem p_Tape_at {X : hl_X} (D : Nat) (v1 : Int32) (σ : hl_M) {r : Int32} (h : f_Tape_at v1 σ = some r) : hl_R X D y11 0 [(0, .ref 1), (1, .int v1)] [] σ (some (.int r)) σ := by
  unfold f_Tape_at at h
  refine hl_iload_n (i := 1) d11_0 rfl rfl ?_
  refine hl_if_lt (tg := 34) d11_1 rfl (fun hc => ?_) (fun hc => ?_)
  · have h := hl_pos hc h
    refine hl_iconst d11_34 kim1 ?_
    have h := Option.some.inj h
    subst h
    exact hl_iret d11_35 rfl
  · have h := hl_neg hc h
    refine hl_iload_n (i := 1) d11_4 rfl rfl ?_
    refine hl_aload_n (i := 0) d11_5 rfl rfl (by decide) ?_
    refine hl_gi d11_6 gTape_15_1 ?_
    refine hl_icmp_ge (tg := 34) d11_9 rfl (fun hc => ?_) (fun hc => ?_)
    · have h := hl_pos hc h
      refine hl_iconst d11_34 kim1 ?_
      have h := Option.some.inj h
      subst h
      exact hl_iret d11_35 rfl
    · have h := hl_neg hc h
      refine hl_iload_n (i := 1) d11_12 rfl rfl ?_
      refine hl_aload_n (i := 0) d11_13 rfl rfl (by decide) ?_
      refine hl_gr d11_14 gTape_9_1 ?_
      refine hl_alen d11_17 sh2 (by decide) kn1600 ?_
      refine hl_icmp_ge (tg := 34) d11_18 rfl (fun hc => ?_) (fun hc => ?_)
      · have h := hl_pos hc h
        refine hl_iconst d11_34 kim1 ?_
        have h := Option.some.inj h
        subst h
        exact hl_iret d11_35 rfl
      · have h := hl_neg hc h
        refine hl_aload_n (i := 0) d11_21 rfl rfl (by decide) ?_
        refine hl_gr d11_22 gTape_9_1 ?_
        refine hl_iload_n (i := 1) d11_25 rfl rfl ?_
        obtain ⟨hb, h⟩ := hl_gd h
        refine hl_bald d11_26 sh2 (hl_b_in hb) ?_
        refine hl_sipush d11_27 ks255 ?_
        refine hl_iand d11_30 ?_
        refine hl_goto (tg := 35) d11_31 rfl ?_
        have h := Option.some.inj h
        subst h
        exact hl_iret d11_35 rfl
def f_Rd_isBlank (v0 : Int32) : Int32 :=
  if v0 = 10 then
  1 else
  if v0 = 32 then
  1 else
  0
set_option maxRecDepth 20000 in
theorem p_Rd_isBlank {X : hl_X} (D : Nat) (v0 : Int32) (σ : hl_M) {r : Int32} (h : f_Rd_isBlank v0 = r) : hl_R X D y12 0 [(0, .int v0)] [] σ (some (.int r)) σ := by
  unfold f_Rd_isBlank at h
  refine hl_iload_n (i := 0) d12_0 rfl rfl ?_
  refine hl_bipush d12_1 kb10 ?_
  refine hl_icmp_eq (tg := 12) d12_3 rfl (fun hc => ?_) (fun hc => ?_)
  · have h := hl_pos hc h
    refine hl_iconst d12_12 ki1 ?_
    refine hl_goto (tg := 17) d12_13 rfl ?_
    subst h
    exact hl_zret d12_17 rfl (by decide)
  · have h := hl_neg hc h
    refine hl_iload_n (i := 0) d12_6 rfl rfl ?_
    refine hl_bipush d12_7 kb32 ?_
    refine hl_icmp_ne (tg := 16) d12_9 rfl (fun hc => ?_) (fun hc => ?_)
    · have h := hl_neg hc h
      refine hl_iconst d12_16 ki0 ?_
      subst h
      exact hl_zret d12_17 rfl (by decide)
    · have h := hl_pos hc h
      refine hl_iconst d12_12 ki1 ?_
      refine hl_goto (tg := 17) d12_13 rfl ?_
      subst h
      exact hl_zret d12_17 rfl (by decide)
def f_Rd_kindOf_j21 (v0 : Int32) : Int32 :=
  if v0 < 48 then
  3 else
  if 57 < v0 then
  3 else
  2
def f_Rd_kindOf (v0 : Int32) : Int32 :=
  if v0 = ((-1)) then
  0 else
  if v0 < 97 then
  f_Rd_kindOf_j21 v0 else
  if 122 < v0 then
  f_Rd_kindOf_j21 v0 else
  1
set_option maxRecDepth 20000 in
theorem p_Rd_kindOf_j21 {X : hl_X} (D : Nat) (v0 : Int32) (σ : hl_M) {r : Int32} (h : f_Rd_kindOf_j21 v0 = r) : hl_R X D y13 21 [(0, .int v0)] [] σ (some (.int r)) σ := by
  unfold f_Rd_kindOf_j21 at h
  refine hl_iload_n (i := 0) d13_21 rfl rfl ?_
  refine hl_bipush d13_22 kb48 ?_
  refine hl_icmp_lt (tg := 37) d13_24 rfl (fun hc => ?_) (fun hc => ?_)
  · have h := hl_pos hc h
    refine hl_iconst d13_37 ki3 ?_
    subst h
    exact hl_iret d13_38 rfl
  · have h := hl_neg hc h
    refine hl_iload_n (i := 0) d13_27 rfl rfl ?_
    refine hl_bipush d13_28 kb57 ?_
    refine hl_icmp_gt (tg := 37) d13_30 rfl (fun hc => ?_) (fun hc => ?_)
    · have h := hl_pos hc h
      refine hl_iconst d13_37 ki3 ?_
      subst h
      exact hl_iret d13_38 rfl
    · have h := hl_neg hc h
      refine hl_iconst d13_33 ki2 ?_
      refine hl_goto (tg := 38) d13_34 rfl ?_
      subst h
      exact hl_iret d13_38 rfl
set_option maxRecDepth 20000 in
theorem p_Rd_kindOf {X : hl_X} (D : Nat) (v0 : Int32) (σ : hl_M) {r : Int32} (h : f_Rd_kindOf v0 = r) : hl_R X D y13 0 [(0, .int v0)] [] σ (some (.int r)) σ := by
  unfold f_Rd_kindOf at h
  refine hl_iload_n (i := 0) d13_0 rfl rfl ?_
  refine hl_iconst d13_1 kim1 ?_
  refine hl_icmp_ne (tg := 7) d13_2 rfl (fun hc => ?_) (fun hc => ?_)
  · have h := hl_neg hc h
    refine hl_iload_n (i := 0) d13_7 rfl rfl ?_
    refine hl_bipush d13_8 kb97 ?_
    refine hl_icmp_lt (tg := 21) d13_10 rfl (fun hc => ?_) (fun hc => ?_)
    · have h := hl_pos hc h
      exact hl_loc (p_Rd_kindOf_j21 D v0 σ h) ⟨rfl, trivial⟩
    · have h := hl_neg hc h
      refine hl_iload_n (i := 0) d13_13 rfl rfl ?_
      refine hl_bipush d13_14 kb122 ?_
      refine hl_icmp_gt (tg := 21) d13_16 rfl (fun hc => ?_) (fun hc => ?_)
      · have h := hl_pos hc h
        exact hl_loc (p_Rd_kindOf_j21 D v0 σ h) ⟨rfl, trivial⟩
      · have h := hl_neg hc h
        refine hl_iconst d13_19 ki1 ?_
        subst h
        exact hl_iret d13_20 rfl
  · have h := hl_pos hc h
    refine hl_iconst d13_5 ki0 ?_
    subst h
    exact hl_iret d13_6 rfl
def f_Rd_advance_L41 (v1 : Int32) (v2 : Int32) (s : hl_M) : Option ((hl_M) ⊕ (hl_M)) :=
  if (s.1 1 1) ≤ (s.1 3 2) then
  some (.inr s) else
  (f_Tape_at (s.1 3 2) s).bind fun x1 =>
  if (f_Rd_isBlank x1) = 0 then
  some (.inr s) else
  some (.inl (hl_si s 3 2 ((s.1 3 2) + 1)))
def f_Rd_advance_j165 (v1 : Int32) (v2 : Int32) (σ : hl_M) : Option ((hl_M) ⊕ (hl_M)) :=
  some (.inl (hl_si σ 3 3 ((σ.1 3 3) + 1)))
def f_Rd_advance_L111 (v1 : Int32) (v2 : Int32) (s : hl_M) : Option ((hl_M) ⊕ (hl_M)) :=
  if (s.1 1 1) ≤ (s.1 3 3) then
  some (.inr s) else
  (f_Tape_at (s.1 3 3) s).bind fun x4 =>
  if (f_Rd_kindOf x4) = (s.1 3 1) then
  if (s.1 3 1) = 3 then
  if (s.1 3 3) = (s.1 3 2) then
  f_Rd_advance_j165 v1 v2 s else
  some (.inr s) else
  f_Rd_advance_j165 v1 v2 s else
  some (.inr s)
def f_Rd_advance_j206 (σ : hl_M) : Option (hl_M) :=
  some (hl_si σ 3 1 4)
def f_Rd_advance_j30 (s0 : Int32) (σ : hl_M) : Option (hl_M) :=
  (hl_lp (f_Rd_advance_L41 s0 (σ.1 3 3)) hl_big (hl_si σ 3 2 (σ.1 3 3))).bind fun x2 =>
  (f_Tape_at (x2.1 3 2) x2).bind fun x3 =>
  (hl_lp (f_Rd_advance_L111 s0 (σ.1 3 3)) hl_big (hl_si (hl_si x2 3 1 (f_Rd_kindOf x3)) 3 3 ((hl_si x2 3 1 (f_Rd_kindOf x3)).1 3 2))).bind fun x5 =>
  if s0 = 0 then
  some x5 else
  if (x5.1 3 2) = (σ.1 3 3) then
  if (x5.1 3 1) = 1 then
  f_Rd_advance_j206 x5 else
  if (x5.1 3 1) = 2 then
  f_Rd_advance_j206 x5 else
  some x5 else
  some x5
def f_Rd_advance (σ : hl_M) : Option (hl_M) :=
  if (σ.1 3 1) = 5 then
  some σ else
  if (σ.1 3 1) = 1 then
  f_Rd_advance_j30 1 σ else
  if (σ.1 3 1) = 2 then
  f_Rd_advance_j30 1 σ else
  f_Rd_advance_j30 0 σ
set_option maxRecDepth 20000 in
theorem p_Rd_advance_L41 {X : hl_X} (D : Nat) (v1 : Int32) (v2 : Int32) (s : hl_M) {o : (hl_M) ⊕ (hl_M)} {v : Option Value} {τ : hl_M} (h : f_Rd_advance_L41 v1 v2 s = some o) (k1 : ∀ (c0 : hl_M), o = .inl c0 → hl_R X (D + 1) y10 41 [(0, .ref 3), (1, .int v1), (2, .int v2)] [] c0 v τ) (k2 : ∀ (a0 : hl_M), o = .inr a0 → hl_R X (D + 1) y10 85 [(0, .ref 3), (1, .int v1), (2, .int v2)] [] a0 v τ) : hl_R X (D + 1) y10 41 [(0, .ref 3), (1, .int v1), (2, .int v2)] [] s v τ := by
  unfold f_Rd_advance_L41 at h
  refine hl_aload_n (i := 0) d10_41 rfl rfl (by decide) ?_
  refine hl_gi d10_42 gRd_25_3 ?_
  refine hl_aload_n (i := 0) d10_45 rfl rfl (by decide) ?_
  refine hl_gr d10_46 gRd_15_3 ?_
  refine hl_gi d10_49 gRd_34_1 ?_
  refine hl_icmp_ge (tg := 85) d10_52 rfl (fun hc => ?_) (fun hc => ?_)
  · have h := hl_pos hc h
    have h := Option.some.inj h
    subst h
    exact hl_loc (k2 s rfl) ⟨rfl, rfl, rfl, trivial⟩
  · have h := hl_neg hc h
    refine hl_aload_n (i := 0) d10_55 rfl rfl (by decide) ?_
    refine hl_gr d10_56 gRd_15_3 ?_
    refine hl_aload_n (i := 0) d10_59 rfl rfl (by decide) ?_
    refine hl_gi d10_60 gRd_25_3 ?_
    obtain ⟨x1, hx1, h⟩ := hl_bind h
    refine hl_cVi (D := D) (z := y11) (n := 1) (av := [.int (s.1 3 2)]) (st := []) d10_63 mlRd_39 rfl (Nat.le_of_ble_eq_true rfl) (Nat.le_of_ble_eq_true rfl) rc1 ((p_Tape_at D (s.1 3 2) s hx1).dle (by omega)) ?_
    refine hl_cSi (D := D) (z := y12) (n := 1) (av := [.int x1]) (st := []) d10_66 mlRd_43 rfl (Nat.le_of_ble_eq_true rfl) (Nat.le_of_ble_eq_true rfl) ((p_Rd_isBlank D x1 s rfl).dle (by omega)) ?_
    refine hl_if_eq (tg := 85) d10_69 rfl (fun hc => ?_) (fun hc => ?_)
    · have h := hl_pos hc h
      have h := Option.some.inj h
      subst h
      exact hl_loc (k2 s rfl) ⟨rfl, rfl, rfl, trivial⟩
    · have h := hl_neg hc h
      refine hl_aload_n (i := 0) d10_72 rfl rfl (by decide) ?_
      refine hl_dup d10_73 rfl ?_
      refine hl_gi d10_74 gRd_25_3 ?_
      refine hl_iconst d10_77 ki1 ?_
      refine hl_iadd d10_78 ?_
      refine hl_pi d10_79 qRd_25_3 ?_
      refine hl_goto (tg := 41) d10_82 rfl ?_
      have h := Option.some.inj h
      subst h
      exact hl_loc (k1 (hl_si s 3 2 ((s.1 3 2) + 1)) rfl) ⟨rfl, rfl, rfl, trivial⟩
set_option maxRecDepth 20000 in
theorem p_Rd_advance_j165 {X : hl_X} (D : Nat) (v1 : Int32) (v2 : Int32) (σ : hl_M) {o : (hl_M) ⊕ (hl_M)} {v : Option Value} {τ : hl_M} (h : f_Rd_advance_j165 v1 v2 σ = some o) (k1 : ∀ (c0 : hl_M), o = .inl c0 → hl_R X (D + 1) y10 111 [(0, .ref 3), (1, .int v1), (2, .int v2)] [] c0 v τ) (k2 : ∀ (a0 : hl_M), o = .inr a0 → hl_R X (D + 1) y10 178 [(0, .ref 3), (1, .int v1), (2, .int v2)] [] a0 v τ) : hl_R X (D + 1) y10 165 [(0, .ref 3), (1, .int v1), (2, .int v2)] [] σ v τ := by
  unfold f_Rd_advance_j165 at h
  refine hl_aload_n (i := 0) d10_165 rfl rfl (by decide) ?_
  refine hl_dup d10_166 rfl ?_
  refine hl_gi d10_167 gRd_28_3 ?_
  refine hl_iconst d10_170 ki1 ?_
  refine hl_iadd d10_171 ?_
  refine hl_pi d10_172 qRd_28_3 ?_
  refine hl_goto (tg := 111) d10_175 rfl ?_
  have h := Option.some.inj h
  subst h
  exact hl_loc (k1 (hl_si σ 3 3 ((σ.1 3 3) + 1)) rfl) ⟨rfl, rfl, rfl, trivial⟩
set_option maxRecDepth 20000 in
theorem p_Rd_advance_L111 {X : hl_X} (D : Nat) (v1 : Int32) (v2 : Int32) (s : hl_M) {o : (hl_M) ⊕ (hl_M)} {v : Option Value} {τ : hl_M} (h : f_Rd_advance_L111 v1 v2 s = some o) (k1 : ∀ (c0 : hl_M), o = .inl c0 → hl_R X (D + 1) y10 111 [(0, .ref 3), (1, .int v1), (2, .int v2)] [] c0 v τ) (k2 : ∀ (a0 : hl_M), o = .inr a0 → hl_R X (D + 1) y10 178 [(0, .ref 3), (1, .int v1), (2, .int v2)] [] a0 v τ) : hl_R X (D + 1) y10 111 [(0, .ref 3), (1, .int v1), (2, .int v2)] [] s v τ := by
  unfold f_Rd_advance_L111 at h
  refine hl_aload_n (i := 0) d10_111 rfl rfl (by decide) ?_
  refine hl_gi d10_112 gRd_28_3 ?_
  refine hl_aload_n (i := 0) d10_115 rfl rfl (by decide) ?_
  refine hl_gr d10_116 gRd_15_3 ?_
  refine hl_gi d10_119 gRd_34_1 ?_
  refine hl_icmp_ge (tg := 178) d10_122 rfl (fun hc => ?_) (fun hc => ?_)
  · have h := hl_pos hc h
    have h := Option.some.inj h
    subst h
    exact hl_loc (k2 s rfl) ⟨rfl, rfl, rfl, trivial⟩
  · have h := hl_neg hc h
    refine hl_aload_n (i := 0) d10_125 rfl rfl (by decide) ?_
    refine hl_gr d10_126 gRd_15_3 ?_
    refine hl_aload_n (i := 0) d10_129 rfl rfl (by decide) ?_
    refine hl_gi d10_130 gRd_28_3 ?_
    obtain ⟨x4, hx4, h⟩ := hl_bind h
    refine hl_cVi (D := D) (z := y11) (n := 1) (av := [.int (s.1 3 3)]) (st := []) d10_133 mlRd_39 rfl (Nat.le_of_ble_eq_true rfl) (Nat.le_of_ble_eq_true rfl) rc1 ((p_Tape_at D (s.1 3 3) s hx4).dle (by omega)) ?_
    refine hl_cSi (D := D) (z := y13) (n := 1) (av := [.int x4]) (st := []) d10_136 mlRd_47 rfl (Nat.le_of_ble_eq_true rfl) (Nat.le_of_ble_eq_true rfl) ((p_Rd_kindOf D x4 s rfl).dle (by omega)) ?_
    refine hl_aload_n (i := 0) d10_139 rfl rfl (by decide) ?_
    refine hl_gi d10_140 gRd_22_3 ?_
    refine hl_icmp_ne (tg := 178) d10_143 rfl (fun hc => ?_) (fun hc => ?_)
    · have h := hl_neg hc h
      have h := Option.some.inj h
      subst h
      exact hl_loc (k2 s rfl) ⟨rfl, rfl, rfl, trivial⟩
    · have h := hl_pos hc h
      refine hl_aload_n (i := 0) d10_146 rfl rfl (by decide) ?_
      refine hl_gi d10_147 gRd_22_3 ?_
      refine hl_iconst d10_150 ki3 ?_
      refine hl_icmp_ne (tg := 165) d10_151 rfl (fun hc => ?_) (fun hc => ?_)
      · have h := hl_neg hc h
        exact hl_loc (p_Rd_advance_j165 D v1 v2 s h k1 k2) ⟨rfl, rfl, rfl, trivial⟩
      · have h := hl_pos hc h
        refine hl_aload_n (i := 0) d10_154 rfl rfl (by decide) ?_
        refine hl_gi d10_155 gRd_28_3 ?_
        refine hl_aload_n (i := 0) d10_158 rfl rfl (by decide) ?_
        refine hl_gi d10_159 gRd_25_3 ?_
        refine hl_icmp_ne (tg := 178) d10_162 rfl (fun hc => ?_) (fun hc => ?_)
        · have h := hl_neg hc h
          have h := Option.some.inj h
          subst h
          exact hl_loc (k2 s rfl) ⟨rfl, rfl, rfl, trivial⟩
        · have h := hl_pos hc h
          exact hl_loc (p_Rd_advance_j165 D v1 v2 s h k1 k2) ⟨rfl, rfl, rfl, trivial⟩
set_option maxRecDepth 20000 in
theorem p_Rd_advance_j206 {X : hl_X} (D : Nat) (σ : hl_M) {τ : hl_M} (h : f_Rd_advance_j206 σ = some τ) : hl_R X (D + 1) y10 206 [(0, .ref 3)] [] σ none τ := by
  unfold f_Rd_advance_j206 at h
  refine hl_aload_n (i := 0) d10_206 rfl rfl (by decide) ?_
  refine hl_iconst d10_207 ki4 ?_
  refine hl_pi d10_208 qRd_22_3 ?_
  have h := Option.some.inj h
  subst h
  exact hl_vret d10_211 rfl
set_option maxRecDepth 20000 in
theorem p_Rd_advance_j30 {X : hl_X} (D : Nat) (s0 : Int32) (σ : hl_M) {τ : hl_M} (h : f_Rd_advance_j30 s0 σ = some τ) : hl_R X (D + 1) y10 30 [(0, .ref 3)] [.int s0] σ none τ := by
  unfold f_Rd_advance_j30 at h
  refine hl_istore_n (i := 1) (ls2 := [(1, .int s0), (0, .ref 3)]) d10_30 rfl (by decide) rfl ?_
  refine hl_aload_n (i := 0) d10_31 rfl rfl (by decide) ?_
  refine hl_gi d10_32 gRd_28_3 ?_
  refine hl_istore_n (i := 2) (ls2 := [(2, .int (σ.1 3 3)), (1, .int s0), (0, .ref 3)]) d10_35 rfl (by decide) rfl ?_
  refine hl_aload_n (i := 0) d10_36 rfl rfl (by decide) ?_
  refine hl_iload_n (i := 2) d10_37 rfl rfl ?_
  refine hl_pi d10_38 qRd_25_3 ?_
  obtain ⟨x2, hx2, h⟩ := hl_bind h
  refine hl_R.loc (ls' := [(0, .ref 3), (1, .int s0), (2, .int (σ.1 3 3))]) ⟨rfl, rfl, rfl, trivial⟩ ?_
  refine hl_lp_run1 (P := fun (c0 : hl_M) => hl_R X (D + 1) y10 41 [(0, .ref 3), (1, .int s0), (2, .int (σ.1 3 3))] [] c0 none τ) (fun x : hl_M => hl_R X (D + 1) y10 85 [(0, .ref 3), (1, .int s0), (2, .int (σ.1 3 3))] [] x none τ) (fun c0 o ho h1 h2 => p_Rd_advance_L41 D s0 (σ.1 3 3) c0 ho h1 (fun a0 e => h2 a0 e)) hl_big (hl_si σ 3 2 (σ.1 3 3)) x2 hx2 ?_
  refine hl_aload_n (i := 0) d10_85 rfl rfl (by decide) ?_
  refine hl_aload_n (i := 0) d10_86 rfl rfl (by decide) ?_
  refine hl_gr d10_87 gRd_15_3 ?_
  refine hl_aload_n (i := 0) d10_90 rfl rfl (by decide) ?_
  refine hl_gi d10_91 gRd_25_3 ?_
  obtain ⟨x3, hx3, h⟩ := hl_bind h
  refine hl_cVi (D := D) (z := y11) (n := 1) (av := [.int (x2.1 3 2)]) (st := [.ref 3]) d10_94 mlRd_39 rfl (Nat.le_of_ble_eq_true rfl) (Nat.le_of_ble_eq_true rfl) rc1 ((p_Tape_at D (x2.1 3 2) x2 hx3).dle (by omega)) ?_
  refine hl_cSi (D := D) (z := y13) (n := 1) (av := [.int x3]) (st := [.ref 3]) d10_97 mlRd_47 rfl (Nat.le_of_ble_eq_true rfl) (Nat.le_of_ble_eq_true rfl) ((p_Rd_kindOf D x3 x2 rfl).dle (by omega)) ?_
  refine hl_pi d10_100 qRd_22_3 ?_
  refine hl_aload_n (i := 0) d10_103 rfl rfl (by decide) ?_
  refine hl_aload_n (i := 0) d10_104 rfl rfl (by decide) ?_
  refine hl_gi d10_105 gRd_25_3 ?_
  refine hl_pi d10_108 qRd_28_3 ?_
  obtain ⟨x5, hx5, h⟩ := hl_bind h
  refine hl_R.loc (ls' := [(0, .ref 3), (1, .int s0), (2, .int (σ.1 3 3))]) ⟨rfl, rfl, rfl, trivial⟩ ?_
  refine hl_lp_run1 (P := fun (c0 : hl_M) => hl_R X (D + 1) y10 111 [(0, .ref 3), (1, .int s0), (2, .int (σ.1 3 3))] [] c0 none τ) (fun x : hl_M => hl_R X (D + 1) y10 178 [(0, .ref 3), (1, .int s0), (2, .int (σ.1 3 3))] [] x none τ) (fun c0 o ho h1 h2 => p_Rd_advance_L111 D s0 (σ.1 3 3) c0 ho h1 (fun a0 e => h2 a0 e)) hl_big (hl_si (hl_si x2 3 1 (f_Rd_kindOf x3)) 3 3 ((hl_si x2 3 1 (f_Rd_kindOf x3)).1 3 2)) x5 hx5 ?_
  refine hl_iload_n (i := 1) d10_178 rfl rfl ?_
  refine hl_if_eq (tg := 211) d10_179 rfl (fun hc => ?_) (fun hc => ?_)
  · have h := hl_pos hc h
    have h := Option.some.inj h
    subst h
    exact hl_vret d10_211 rfl
  · have h := hl_neg hc h
    refine hl_aload_n (i := 0) d10_182 rfl rfl (by decide) ?_
    refine hl_gi d10_183 gRd_25_3 ?_
    refine hl_iload_n (i := 2) d10_186 rfl rfl ?_
    refine hl_icmp_ne (tg := 211) d10_187 rfl (fun hc => ?_) (fun hc => ?_)
    · have h := hl_neg hc h
      have h := Option.some.inj h
      subst h
      exact hl_vret d10_211 rfl
    · have h := hl_pos hc h
      refine hl_aload_n (i := 0) d10_190 rfl rfl (by decide) ?_
      refine hl_gi d10_191 gRd_22_3 ?_
      refine hl_iconst d10_194 ki1 ?_
      refine hl_icmp_eq (tg := 206) d10_195 rfl (fun hc => ?_) (fun hc => ?_)
      · have h := hl_pos hc h
        exact hl_loc (p_Rd_advance_j206 D x5 h) ⟨rfl, trivial⟩
      · have h := hl_neg hc h
        refine hl_aload_n (i := 0) d10_198 rfl rfl (by decide) ?_
        refine hl_gi d10_199 gRd_22_3 ?_
        refine hl_iconst d10_202 ki2 ?_
        refine hl_icmp_ne (tg := 211) d10_203 rfl (fun hc => ?_) (fun hc => ?_)
        · have h := hl_neg hc h
          have h := Option.some.inj h
          subst h
          exact hl_vret d10_211 rfl
        · have h := hl_pos hc h
          exact hl_loc (p_Rd_advance_j206 D x5 h) ⟨rfl, trivial⟩
set_option maxRecDepth 20000 in
theorem p_Rd_advance {X : hl_X} (D : Nat) (σ : hl_M) {τ : hl_M} (h : f_Rd_advance σ = some τ) : hl_R X (D + 1) y10 0 [(0, .ref 3)] [] σ none τ := by
  unfold f_Rd_advance at h
  refine hl_aload_n (i := 0) d10_0 rfl rfl (by decide) ?_
  refine hl_gi d10_1 gRd_22_3 ?_
  refine hl_iconst d10_4 ki5 ?_
  refine hl_icmp_ne (tg := 9) d10_5 rfl (fun hc => ?_) (fun hc => ?_)
  · have h := hl_neg hc h
    refine hl_aload_n (i := 0) d10_9 rfl rfl (by decide) ?_
    refine hl_gi d10_10 gRd_22_3 ?_
    refine hl_iconst d10_13 ki1 ?_
    refine hl_icmp_eq (tg := 25) d10_14 rfl (fun hc => ?_) (fun hc => ?_)
    · have h := hl_pos hc h
      refine hl_iconst d10_25 ki1 ?_
      refine hl_goto (tg := 30) d10_26 rfl ?_
      exact hl_loc (p_Rd_advance_j30 D 1 σ h) ⟨rfl, trivial⟩
    · have h := hl_neg hc h
      refine hl_aload_n (i := 0) d10_17 rfl rfl (by decide) ?_
      refine hl_gi d10_18 gRd_22_3 ?_
      refine hl_iconst d10_21 ki2 ?_
      refine hl_icmp_ne (tg := 29) d10_22 rfl (fun hc => ?_) (fun hc => ?_)
      · have h := hl_neg hc h
        refine hl_iconst d10_29 ki0 ?_
        exact hl_loc (p_Rd_advance_j30 D 0 σ h) ⟨rfl, trivial⟩
      · have h := hl_pos hc h
        refine hl_iconst d10_25 ki1 ?_
        refine hl_goto (tg := 30) d10_26 rfl ?_
        exact hl_loc (p_Rd_advance_j30 D 1 σ h) ⟨rfl, trivial⟩
  · have h := hl_pos hc h
    have h := Option.some.inj h
    subst h
    exact hl_vret d10_8 rfl
def f_Rd_begin (σ : hl_M) : Option (hl_M) :=
  (f_Rd_advance (hl_si (hl_si (hl_si (hl_si (hl_si σ 3 4 0) 3 5 ((-1))) 3 1 3) 3 2 0) 3 3 0)).bind fun x1 =>
  some x1
set_option maxRecDepth 20000 in
theorem p_Rd_begin {X : hl_X} (D : Nat) (σ : hl_M) {τ : hl_M} (h : f_Rd_begin σ = some τ) : hl_R X (D + 2) y9 0 [(0, .ref 3)] [] σ none τ := by
  unfold f_Rd_begin at h
  refine hl_aload_n (i := 0) d9_0 rfl rfl (by decide) ?_
  refine hl_iconst d9_1 ki0 ?_
  refine hl_pi d9_2 qRd_19_3 ?_
  refine hl_aload_n (i := 0) d9_5 rfl rfl (by decide) ?_
  refine hl_iconst d9_6 kim1 ?_
  refine hl_pi d9_7 qRd_9_3 ?_
  refine hl_aload_n (i := 0) d9_10 rfl rfl (by decide) ?_
  refine hl_iconst d9_11 ki3 ?_
  refine hl_pi d9_12 qRd_22_3 ?_
  refine hl_aload_n (i := 0) d9_15 rfl rfl (by decide) ?_
  refine hl_iconst d9_16 ki0 ?_
  refine hl_pi d9_17 qRd_25_3 ?_
  refine hl_aload_n (i := 0) d9_20 rfl rfl (by decide) ?_
  refine hl_iconst d9_21 ki0 ?_
  refine hl_pi d9_22 qRd_28_3 ?_
  refine hl_aload_n (i := 0) d9_25 rfl rfl (by decide) ?_
  obtain ⟨x1, hx1, h⟩ := hl_bind h
  refine hl_cVv (D := (D + 1)) (z := y10) (n := 0) (av := []) (st := []) d9_26 mlRd_31 rfl (Nat.le_of_ble_eq_true rfl) (Nat.le_of_ble_eq_true rfl) rc3 ((p_Rd_advance D (hl_si (hl_si (hl_si (hl_si (hl_si σ 3 4 0) 3 5 ((-1))) 3 1 3) 3 2 0) 3 3 0) hx1).dle (by omega)) ?_
  have h := Option.some.inj h
  subst h
  exact hl_vret d9_29 rfl
def f_Rd_failed (σ : hl_M) : Int32 :=
  if (σ.1 3 4) = 0 then
  0 else
  1
set_option maxRecDepth 20000 in
theorem p_Rd_failed {X : hl_X} (D : Nat) (σ : hl_M) {r : Int32} (h : f_Rd_failed σ = r) : hl_R X D y14 0 [(0, .ref 3)] [] σ (some (.int r)) σ := by
  unfold f_Rd_failed at h
  refine hl_aload_n (i := 0) d14_0 rfl rfl (by decide) ?_
  refine hl_gi d14_1 gRd_19_3 ?_
  refine hl_if_eq (tg := 11) d14_4 rfl (fun hc => ?_) (fun hc => ?_)
  · have h := hl_pos hc h
    refine hl_iconst d14_11 ki0 ?_
    subst h
    exact hl_zret d14_12 rfl (by decide)
  · have h := hl_neg hc h
    refine hl_iconst d14_7 ki1 ?_
    refine hl_goto (tg := 12) d14_8 rfl ?_
    subst h
    exact hl_zret d14_12 rfl (by decide)
def f_Str_coder (j0 : Nat) : Int32 :=
  if (1 : Int32) = 0 then
  vp_nar .byte 1 else
  vp_nar .byte 0
set_option maxRecDepth 20000 in
theorem p_Str_coder {X : hl_X} (D : Nat) (j0 : Nat) (hj0 : j0 < hl_nS) (σ : hl_M) {r : Int32} (h : f_Str_coder j0 = r) : hl_R X D y17 0 [(0, .ref (200 + j0))] [] σ (some (.int r)) σ := by
  unfold f_Str_coder at h
  refine hl_gsC d17_0 wsStr_38 ?_
  refine hl_if_eq (tg := 13) d17_3 rfl (fun hc => ?_) (fun hc => ?_)
  · have h := hl_pos hc h
    refine hl_iconst d17_13 ki1 ?_
    subst h
    exact hl_bret d17_14 rfl rfl
  · have h := hl_neg hc h
    refine hl_aload_n (i := 0) d17_6 rfl rfl (hl_nS9 hj0).1 ?_
    refine hl_getSC d17_7 wsStr_15 hj0 ?_
    refine hl_goto (tg := 14) d17_10 rfl ?_
    subst h
    exact hl_bret d17_14 rfl rfl
def f_Str_length (j0 : Nat) : Int32 :=
  (Int32.ofNat (hl_sB j0).length) >>> ((f_Str_coder j0) &&& 31)
set_option maxRecDepth 20000 in
theorem p_Str_length {X : hl_X} (D : Nat) (j0 : Nat) (hj0 : j0 < hl_nS) (σ : hl_M) {r : Int32} (h : f_Str_length j0 = r) : hl_R X (D + 1) y16 0 [(0, .ref (200 + j0))] [] σ (some (.int r)) σ := by
  unfold f_Str_length at h
  refine hl_aload_n (i := 0) d16_0 rfl rfl (hl_nS9 hj0).1 ?_
  refine hl_getSV d16_1 wsStr_9 hj0 ?_
  refine hl_alenR d16_4 (hsb hj0) rfl ?_
  refine hl_aload_n (i := 0) d16_5 rfl rfl (hl_nS9 hj0).1 ?_
  refine hl_cVi (D := D) (z := y17) (n := 0) (av := []) (st := [.int (Int32.ofNat (hl_sB j0).length)]) d16_6 mlStr_335 rfl (Nat.le_of_ble_eq_true rfl) (Nat.le_of_ble_eq_true rfl) (Or.inr ⟨j0, hj0, rfl, rfl⟩) ((p_Str_coder D j0 hj0 σ rfl).dle (by omega)) ?_
  refine hl_ishr d16_9 ?_
  subst h
  exact hl_iret d16_10 rfl
def f_Str_isLatin1 (j0 : Nat) : Int32 :=
  if (1 : Int32) = 0 then
  0 else
  if (0 : Int32) = 0 then
  1 else
  0
set_option maxRecDepth 20000 in
theorem p_Str_isLatin1 {X : hl_X} (D : Nat) (j0 : Nat) (hj0 : j0 < hl_nS) (σ : hl_M) {r : Int32} (h : f_Str_isLatin1 j0 = r) : hl_R X D y19 0 [(0, .ref (200 + j0))] [] σ (some (.int r)) σ := by
  unfold f_Str_isLatin1 at h
  refine hl_gsC d19_0 wsStr_38 ?_
  refine hl_if_eq (tg := 17) d19_3 rfl (fun hc => ?_) (fun hc => ?_)
  · have h := hl_pos hc h
    refine hl_iconst d19_17 ki0 ?_
    subst h
    exact hl_zret d19_18 rfl (by decide)
  · have h := hl_neg hc h
    refine hl_aload_n (i := 0) d19_6 rfl rfl (hl_nS9 hj0).1 ?_
    refine hl_getSC d19_7 wsStr_15 hj0 ?_
    refine hl_if_ne (tg := 17) d19_10 rfl (fun hc => ?_) (fun hc => ?_)
    · have h := hl_neg hc h
      refine hl_iconst d19_17 ki0 ?_
      subst h
      exact hl_zret d19_18 rfl (by decide)
    · have h := hl_pos hc h
      refine hl_iconst d19_13 ki1 ?_
      refine hl_goto (tg := 18) d19_14 rfl ?_
      subst h
      exact hl_zret d19_18 rfl (by decide)
def f_Pre_checkIndex_j9 (v0 : Int32) (v1 : Int32) : Option (Int32) :=
  none
def f_Pre_checkIndex (v0 : Int32) (v1 : Int32) : Option (Int32) :=
  if v0 < 0 then
  f_Pre_checkIndex_j9 v0 v1 else
  if v0 < v1 then
  some v0 else
  f_Pre_checkIndex_j9 v0 v1
set_option maxRecDepth 20000 in
theorem p_Pre_checkIndex_j9 {X : hl_X} (D : Nat) (v0 : Int32) (v1 : Int32) (σ : hl_M) {r : Int32} (h : f_Pre_checkIndex_j9 v0 v1 = some r) : hl_R X D y22 9 [(0, .int v0), (1, .int v1), (2, .ref 999)] [] σ (some (.int r)) σ := by
  unfold f_Pre_checkIndex_j9 at h
  cases h
set_option maxRecDepth 20000 in
theorem p_Pre_checkIndex {X : hl_X} (D : Nat) (v0 : Int32) (v1 : Int32) (σ : hl_M) {r : Int32} (h : f_Pre_checkIndex v0 v1 = some r) : hl_R X D y22 0 [(0, .int v0), (1, .int v1), (2, .ref 999)] [] σ (some (.int r)) σ := by
  unfold f_Pre_checkIndex at h
  refine hl_iload_n (i := 0) d22_0 rfl rfl ?_
  refine hl_if_lt (tg := 9) d22_1 rfl (fun hc => ?_) (fun hc => ?_)
  · have h := hl_pos hc h
    exact hl_loc (p_Pre_checkIndex_j9 D v0 v1 σ h) ⟨rfl, rfl, rfl, trivial⟩
  · have h := hl_neg hc h
    refine hl_iload_n (i := 0) d22_4 rfl rfl ?_
    refine hl_iload_n (i := 1) d22_5 rfl rfl ?_
    refine hl_icmp_lt (tg := 16) d22_6 rfl (fun hc => ?_) (fun hc => ?_)
    · have h := hl_pos hc h
      refine hl_iload_n (i := 0) d22_16 rfl rfl ?_
      have h := Option.some.inj h
      subst h
      exact hl_iret d22_17 rfl
    · have h := hl_neg hc h
      exact hl_loc (p_Pre_checkIndex_j9 D v0 v1 σ h) ⟨rfl, rfl, rfl, trivial⟩
def f_Str_checkIndex (v0 : Int32) (v1 : Int32) : Option (Unit) :=
  (f_Pre_checkIndex v0 v1).bind fun x1 =>
  some (())
set_option maxRecDepth 20000 in
theorem p_Str_checkIndex {X : hl_X} (D : Nat) (v0 : Int32) (v1 : Int32) (σ : hl_M) {r : Unit} (h : f_Str_checkIndex v0 v1 = some r) : hl_R X (D + 1) y21 0 [(0, .int v0), (1, .int v1)] [] σ none σ := by
  unfold f_Str_checkIndex at h
  refine hl_iload_n (i := 0) d21_0 rfl rfl ?_
  refine hl_iload_n (i := 1) d21_1 rfl rfl ?_
  refine hl_gsF d21_2 wsStr_1053 ?_
  obtain ⟨x1, hx1, h⟩ := hl_bind h
  refine hl_cSi (D := D) (z := y22) (n := 3) (av := [.int v0, .int v1, .ref 999]) (st := []) d21_5 mlStr_1059 rfl (Nat.le_of_ble_eq_true rfl) (Nat.le_of_ble_eq_true rfl) ((p_Pre_checkIndex D v0 v1 σ hx1).dle (by omega)) ?_
  refine hl_pop d21_8 rfl ?_
  have h := Option.some.inj h
  subst h
  exact hl_vret d21_9 rfl
def f_SL_charAt (j0 : Nat) (v1 : Int32) (σ : hl_M) : Option (Int32) :=
  (f_Str_checkIndex v1 (Int32.ofNat (hl_sB j0).length)).bind fun x1 =>
  if hl_b v1 (hl_sB j0).length then
  some (vp_nar .char (((((hl_sB j0).getD v1.toNatClampNeg 0) &&& 255).toUInt32 % 65536).toInt32)) else none
set_option maxRecDepth 20000 in
theorem p_SL_charAt {X : hl_X} (D : Nat) (j0 : Nat) (hj0 : j0 < hl_nS) (v1 : Int32) (σ : hl_M) {r : Int32} (h : f_SL_charAt j0 v1 σ = some r) : hl_R X (D + 2) y20 0 [(0, .ref (300 + j0)), (1, .int v1)] [] σ (some (.int r)) σ := by
  unfold f_SL_charAt at h
  refine hl_iload_n (i := 1) d20_0 rfl rfl ?_
  refine hl_aload_n (i := 0) d20_1 rfl rfl (hl_nS9 hj0).2 ?_
  refine hl_alenR d20_2 (hsb hj0) rfl ?_
  obtain ⟨x1, hx1, h⟩ := hl_bind h
  refine hl_cSv (D := (D + 1)) (z := y21) (n := 2) (av := [.int v1, .int (Int32.ofNat (hl_sB j0).length)]) (st := []) d20_3 mlSL_9 rfl (Nat.le_of_ble_eq_true rfl) (Nat.le_of_ble_eq_true rfl) ((p_Str_checkIndex D v1 (Int32.ofNat (hl_sB j0).length) σ hx1).dle (by omega)) ?_
  refine hl_aload_n (i := 0) d20_6 rfl rfl (hl_nS9 hj0).2 ?_
  refine hl_iload_n (i := 1) d20_7 rfl rfl ?_
  obtain ⟨hb, h⟩ := hl_gd h
  refine hl_balR d20_8 (hsb hj0) (hl_b_in hb) ?_
  refine hl_sipush d20_9 ks255 ?_
  refine hl_iand d20_12 ?_
  refine hl_i2c d20_13 ?_
  have h := Option.some.inj h
  subst h
  exact hl_cret d20_14 rfl rfl
def f_Str_charAt (j0 : Nat) (v1 : Int32) (σ : hl_M) : Option (Int32) :=
  if (f_Str_isLatin1 j0) = 0 then
  none else
  (f_SL_charAt j0 v1 σ).bind fun x1 =>
  some (vp_nar .char x1)
set_option maxRecDepth 20000 in
theorem p_Str_charAt {X : hl_X} (D : Nat) (j0 : Nat) (hj0 : j0 < hl_nS) (v1 : Int32) (σ : hl_M) {r : Int32} (h : f_Str_charAt j0 v1 σ = some r) : hl_R X (D + 3) y18 0 [(0, .ref (200 + j0)), (1, .int v1)] [] σ (some (.int r)) σ := by
  unfold f_Str_charAt at h
  refine hl_aload_n (i := 0) d18_0 rfl rfl (hl_nS9 hj0).1 ?_
  refine hl_cVi (D := (D + 2)) (z := y19) (n := 0) (av := []) (st := []) d18_1 mlStr_492 rfl (Nat.le_of_ble_eq_true rfl) (Nat.le_of_ble_eq_true rfl) (Or.inr ⟨j0, hj0, rfl, rfl⟩) ((p_Str_isLatin1 D j0 hj0 σ rfl).dle (by omega)) ?_
  refine hl_if_eq (tg := 16) d18_4 rfl (fun hc => ?_) (fun hc => ?_)
  · have h := hl_pos hc h
    refine hl_aload_n (i := 0) d18_16 rfl rfl (hl_nS9 hj0).1 ?_
    refine hl_getSV d18_17 wsStr_9 hj0 ?_
    refine hl_iload_n (i := 1) d18_20 rfl rfl ?_
    cases h
  · have h := hl_neg hc h
    refine hl_aload_n (i := 0) d18_7 rfl rfl (hl_nS9 hj0).1 ?_
    refine hl_getSV d18_8 wsStr_9 hj0 ?_
    refine hl_iload_n (i := 1) d18_11 rfl rfl ?_
    obtain ⟨x1, hx1, h⟩ := hl_bind h
    refine hl_cSi (D := (D + 2)) (z := y20) (n := 2) (av := [.ref (300 + j0), .int v1]) (st := []) d18_12 mlStr_495 rfl (Nat.le_of_ble_eq_true rfl) (Nat.le_of_ble_eq_true rfl) ((p_SL_charAt D j0 hj0 v1 σ hx1).dle (by omega)) ?_
    have h := Option.some.inj h
    subst h
    exact hl_cret d18_15 rfl rfl
def f_Rd_isWord_L28 (j1 : Nat) (σ : hl_M) (s : Int32) : Option ((Int32) ⊕ ((Unit) ⊕ (Int32))) :=
  if (f_Str_length j1) ≤ s then
  some (.inr (.inl (()))) else
  (f_Tape_at ((σ.1 3 2) + s) σ).bind fun x1 =>
  (f_Str_charAt j1 s σ).bind fun x2 =>
  if x1 = x2 then
  some (.inl (s + 1)) else
  some (.inr (.inr (0)))
def f_Rd_isWord (j1 : Nat) (σ : hl_M) : Option (Int32) :=
  if (σ.1 3 1) = 1 then
  if ((σ.1 3 3) - (σ.1 3 2)) = (f_Str_length j1) then
  (hl_lp (f_Rd_isWord_L28 j1 σ) hl_big 0).bind fun x3 =>
  Sum.elim (fun x4 =>
  some 1) (fun x5 =>
  some x5) x3 else
  some 0 else
  some 0
set_option maxRecDepth 20000 in
theorem p_Rd_isWord_L28 {X : hl_X} (D : Nat) (j1 : Nat) (hj1 : j1 < hl_nS) (σ : hl_M) (s : Int32) {o : (Int32) ⊕ ((Unit) ⊕ (Int32))} {v : Option Value} (h : f_Rd_isWord_L28 j1 σ s = some o) (k1 : ∀ (c0 : Int32), o = .inl c0 → hl_R X (D + 4) y15 28 [(0, .ref 3), (1, .ref (200 + j1)), (2, .int c0)] [] σ v σ) (k2 : o = .inr (.inl ()) → hl_R X (D + 4) y15 65 [] [] σ v σ) (kr : ∀ (a : Int32), o = .inr (.inr (a)) → v = some (.int a)) : hl_R X (D + 4) y15 28 [(0, .ref 3), (1, .ref (200 + j1)), (2, .int s)] [] σ v σ := by
  unfold f_Rd_isWord_L28 at h
  refine hl_iload_n (i := 2) d15_28 rfl rfl ?_
  refine hl_aload_n (i := 1) d15_29 rfl rfl (hl_nS9 hj1).1 ?_
  refine hl_cVi (D := (D + 3)) (z := y16) (n := 0) (av := []) (st := [.int s]) d15_30 mlRd_50 rfl (Nat.le_of_ble_eq_true rfl) (Nat.le_of_ble_eq_true rfl) (Or.inr ⟨j1, hj1, rfl, rfl⟩) ((p_Str_length D j1 hj1 σ rfl).dle (by omega)) ?_
  refine hl_icmp_ge (tg := 65) d15_33 rfl (fun hc => ?_) (fun hc => ?_)
  · have h := hl_pos hc h
    have h := Option.some.inj h
    subst h
    exact hl_loc (k2 rfl) trivial
  · have h := hl_neg hc h
    refine hl_aload_n (i := 0) d15_36 rfl rfl (by decide) ?_
    refine hl_gr d15_37 gRd_15_3 ?_
    refine hl_aload_n (i := 0) d15_40 rfl rfl (by decide) ?_
    refine hl_gi d15_41 gRd_25_3 ?_
    refine hl_iload_n (i := 2) d15_44 rfl rfl ?_
    refine hl_iadd d15_45 ?_
    obtain ⟨x1, hx1, h⟩ := hl_bind h
    refine hl_cVi (D := (D + 3)) (z := y11) (n := 1) (av := [.int ((σ.1 3 2) + s)]) (st := []) d15_46 mlRd_39 rfl (Nat.le_of_ble_eq_true rfl) (Nat.le_of_ble_eq_true rfl) rc1 ((p_Tape_at D ((σ.1 3 2) + s) σ hx1).dle (by omega)) ?_
    refine hl_aload_n (i := 1) d15_49 rfl rfl (hl_nS9 hj1).1 ?_
    refine hl_iload_n (i := 2) d15_50 rfl rfl ?_
    obtain ⟨x2, hx2, h⟩ := hl_bind h
    refine hl_cVi (D := (D + 3)) (z := y18) (n := 1) (av := [.int s]) (st := [.int x1]) d15_51 mlRd_56 rfl (Nat.le_of_ble_eq_true rfl) (Nat.le_of_ble_eq_true rfl) (Or.inr ⟨j1, hj1, rfl, rfl⟩) ((p_Str_charAt D j1 hj1 s σ hx2).dle (by omega)) ?_
    refine hl_icmp_eq (tg := 59) d15_54 rfl (fun hc => ?_) (fun hc => ?_)
    · have h := hl_pos hc h
      refine hl_iinc (ls2 := [(2, .int (s + 1)), (0, .ref 3), (1, .ref (200 + j1))]) d15_59 rfl kx1 (by decide) rfl ?_
      refine hl_goto (tg := 28) d15_62 rfl ?_
      have h := Option.some.inj h
      subst h
      exact hl_loc (k1 (s + 1) rfl) ⟨rfl, rfl, rfl, trivial⟩
    · have h := hl_neg hc h
      refine hl_iconst d15_57 ki0 ?_
      have h := Option.some.inj h
      subst h
      have e1 := kr 0 rfl
      subst e1
      exact hl_zret d15_58 rfl (by decide)
set_option maxRecDepth 20000 in
theorem p_Rd_isWord {X : hl_X} (D : Nat) (j1 : Nat) (hj1 : j1 < hl_nS) (σ : hl_M) {r : Int32} (h : f_Rd_isWord j1 σ = some r) : hl_R X (D + 4) y15 0 [(0, .ref 3), (1, .ref (200 + j1))] [] σ (some (.int r)) σ := by
  unfold f_Rd_isWord at h
  refine hl_aload_n (i := 0) d15_0 rfl rfl (by decide) ?_
  refine hl_gi d15_1 gRd_22_3 ?_
  refine hl_iconst d15_4 ki1 ?_
  refine hl_icmp_ne (tg := 24) d15_5 rfl (fun hc => ?_) (fun hc => ?_)
  · have h := hl_neg hc h
    refine hl_iconst d15_24 ki0 ?_
    have h := Option.some.inj h
    subst h
    exact hl_zret d15_25 rfl (by decide)
  · have h := hl_pos hc h
    refine hl_aload_n (i := 0) d15_8 rfl rfl (by decide) ?_
    refine hl_gi d15_9 gRd_28_3 ?_
    refine hl_aload_n (i := 0) d15_12 rfl rfl (by decide) ?_
    refine hl_gi d15_13 gRd_25_3 ?_
    refine hl_isub d15_16 ?_
    refine hl_aload_n (i := 1) d15_17 rfl rfl (hl_nS9 hj1).1 ?_
    refine hl_cVi (D := (D + 3)) (z := y16) (n := 0) (av := []) (st := [.int ((σ.1 3 3) - (σ.1 3 2))]) d15_18 mlRd_50 rfl (Nat.le_of_ble_eq_true rfl) (Nat.le_of_ble_eq_true rfl) (Or.inr ⟨j1, hj1, rfl, rfl⟩) ((p_Str_length D j1 hj1 σ rfl).dle (by omega)) ?_
    refine hl_icmp_eq (tg := 26) d15_21 rfl (fun hc => ?_) (fun hc => ?_)
    · have h := hl_pos hc h
      refine hl_iconst d15_26 ki0 ?_
      refine hl_istore_n (i := 2) (ls2 := [(2, .int 0), (0, .ref 3), (1, .ref (200 + j1))]) d15_27 rfl (by decide) rfl ?_
      obtain ⟨x3, hx3, h⟩ := hl_bind h
      refine hl_R.loc (ls' := [(0, .ref 3), (1, .ref (200 + j1)), (2, .int 0)]) ⟨rfl, rfl, rfl, trivial⟩ ?_
      refine hl_lp_run1 (P := fun (c0 : Int32) => hl_R X (D + 4) y15 28 [(0, .ref 3), (1, .ref (200 + j1)), (2, .int c0)] [] σ (some (.int r)) σ) (Sum.elim (fun x : Unit => hl_R X (D + 4) y15 65 [] [] σ (some (.int r)) σ) (fun a : Int32 => ((some (.int r)) : Option Value) = some (.int a))) (fun c0 o ho h1 h2 => p_Rd_isWord_L28 D j1 hj1 σ c0 ho h1 (fun e => h2 (.inl ()) e) (fun a e => h2 (.inr (a)) e)) hl_big 0 x3 hx3 ?_
      rcases hl_sum h with ⟨x4, e_x4, h⟩ | ⟨x5, e_x5, h⟩
      · subst e_x4
        refine hl_iconst d15_65 ki1 ?_
        have h := Option.some.inj h
        subst h
        exact hl_zret d15_66 rfl (by decide)
      · subst e_x5
        cases h
        rfl
    · have h := hl_neg hc h
      refine hl_iconst d15_24 ki0 ?_
      have h := Option.some.inj h
      subst h
      exact hl_zret d15_25 rfl (by decide)
def f_Rd_fail_j17 (σ : hl_M) : hl_M :=
  hl_si σ 3 1 5
def f_Rd_fail (v1 : Int32) (v2 : Int32) (σ : hl_M) : hl_M :=
  if (σ.1 3 4) = 0 then
  f_Rd_fail_j17 (hl_si (hl_si σ 3 4 v1) 3 5 v2) else
  f_Rd_fail_j17 σ
set_option maxRecDepth 20000 in
theorem p_Rd_fail_j17 {X : hl_X} (D : Nat) (σ : hl_M) {τ : hl_M} (h : f_Rd_fail_j17 σ = τ) : hl_R X D y23 17 [(0, .ref 3)] [] σ none τ := by
  unfold f_Rd_fail_j17 at h
  refine hl_aload_n (i := 0) d23_17 rfl rfl (by decide) ?_
  refine hl_iconst d23_18 ki5 ?_
  refine hl_pi d23_19 qRd_22_3 ?_
  subst h
  exact hl_vret d23_22 rfl
set_option maxRecDepth 20000 in
theorem p_Rd_fail {X : hl_X} (D : Nat) (v1 : Int32) (v2 : Int32) (σ : hl_M) {τ : hl_M} (h : f_Rd_fail v1 v2 σ = τ) : hl_R X D y23 0 [(0, .ref 3), (1, .int v1), (2, .int v2)] [] σ none τ := by
  unfold f_Rd_fail at h
  refine hl_aload_n (i := 0) d23_0 rfl rfl (by decide) ?_
  refine hl_gi d23_1 gRd_19_3 ?_
  refine hl_if_ne (tg := 17) d23_4 rfl (fun hc => ?_) (fun hc => ?_)
  · have h := hl_neg hc h
    exact hl_loc (p_Rd_fail_j17 D σ h) ⟨rfl, trivial⟩
  · have h := hl_pos hc h
    refine hl_aload_n (i := 0) d23_7 rfl rfl (by decide) ?_
    refine hl_iload_n (i := 1) d23_8 rfl rfl ?_
    refine hl_pi d23_9 qRd_19_3 ?_
    refine hl_aload_n (i := 0) d23_12 rfl rfl (by decide) ?_
    refine hl_iload_n (i := 2) d23_13 rfl rfl ?_
    refine hl_pi d23_14 qRd_9_3 ?_
    exact hl_loc (p_Rd_fail_j17 D (hl_si (hl_si σ 3 4 v1) 3 5 v2) h) ⟨rfl, trivial⟩
def f_Tl_startsOneOf (v1 : Int32) (v2 : Int32) (σ : hl_M) : Option (Int32 × hl_M) :=
  if v1 < v2 then
  (f_Rd_advance σ).bind fun x1 =>
  some ((1, x1)) else
  some ((0, f_Rd_fail 5 (σ.1 3 2) σ))
set_option maxRecDepth 20000 in
theorem p_Tl_startsOneOf {X : hl_X} (D : Nat) (v1 : Int32) (v2 : Int32) (σ : hl_M) {r : Int32} {τ : hl_M} (h : f_Tl_startsOneOf v1 v2 σ = some (r, τ)) : hl_R X (D + 2) y25 0 [(0, .ref 24), (1, .int v1), (2, .int v2)] [] σ (some (.int r)) τ := by
  unfold f_Tl_startsOneOf at h
  refine hl_iload_n (i := 1) d25_0 rfl rfl ?_
  refine hl_iload_n (i := 2) d25_1 rfl rfl ?_
  refine hl_icmp_lt (tg := 22) d25_2 rfl (fun hc => ?_) (fun hc => ?_)
  · have h := hl_pos hc h
    refine hl_aload_n (i := 0) d25_22 rfl rfl (by decide) ?_
    refine hl_gr d25_23 gTl_9_24 ?_
    obtain ⟨x1, hx1, h⟩ := hl_bind h
    refine hl_cVv (D := (D + 1)) (z := y10) (n := 0) (av := []) (st := []) d25_26 mlTl_183 rfl (Nat.le_of_ble_eq_true rfl) (Nat.le_of_ble_eq_true rfl) rc3 ((p_Rd_advance D σ hx1).dle (by omega)) ?_
    refine hl_iconst d25_29 ki1 ?_
    obtain ⟨e1, e2⟩ := hl_some2 h
    subst e1; subst e2
    exact hl_zret d25_30 rfl (by decide)
  · have h := hl_neg hc h
    refine hl_aload_n (i := 0) d25_5 rfl rfl (by decide) ?_
    refine hl_gr d25_6 gTl_9_24 ?_
    refine hl_iconst d25_9 ki5 ?_
    refine hl_aload_n (i := 0) d25_10 rfl rfl (by decide) ?_
    refine hl_gr d25_11 gTl_9_24 ?_
    refine hl_gi d25_14 gTl_67_3 ?_
    refine hl_cVv (D := (D + 1)) (z := y23) (n := 2) (av := [.int 5, .int (σ.1 3 2)]) (st := []) d25_17 mlTl_70 rfl (Nat.le_of_ble_eq_true rfl) (Nat.le_of_ble_eq_true rfl) rc3 ((p_Rd_fail D 5 (σ.1 3 2) σ rfl).dle (by omega)) ?_
    refine hl_iconst d25_20 ki0 ?_
    obtain ⟨e1, e2⟩ := hl_some2 h
    subst e1; subst e2
    exact hl_zret d25_21 rfl (by decide)
def f_Rd_isOwnWord (σ : hl_M) : Option (Int32) :=
  (f_Rd_isWord 3 σ).bind fun x1 =>
  if x1 = 0 then
  (f_Rd_isWord 4 σ).bind fun x2 =>
  if x2 = 0 then
  (f_Rd_isWord 5 σ).bind fun x3 =>
  if x3 = 0 then
  (f_Rd_isWord 6 σ).bind fun x4 =>
  if x4 = 0 then
  (f_Rd_isWord 7 σ).bind fun x5 =>
  if x5 = 0 then
  (f_Rd_isWord 8 σ).bind fun x6 =>
  if x6 = 0 then
  (f_Rd_isWord 9 σ).bind fun x7 =>
  if x7 = 0 then
  (f_Rd_isWord 10 σ).bind fun x8 =>
  if x8 = 0 then
  (f_Rd_isWord 11 σ).bind fun x9 =>
  if x9 = 0 then
  some 0 else
  some 1 else
  some 1 else
  some 1 else
  some 1 else
  some 1 else
  some 1 else
  some 1 else
  some 1 else
  some 1
set_option maxRecDepth 20000 in
theorem p_Rd_isOwnWord {X : hl_X} (D : Nat) (σ : hl_M) {r : Int32} (h : f_Rd_isOwnWord σ = some r) : hl_R X (D + 5) y27 0 [(0, .ref 3)] [] σ (some (.int r)) σ := by
  unfold f_Rd_isOwnWord at h
  refine hl_aload_n (i := 0) d27_0 rfl rfl (by decide) ?_
  refine hl_ldcS (j := 3) d27_1 (by decide) ⟨rfl, rfl⟩ ?_
  obtain ⟨x1, hx1, h⟩ := hl_bind h
  refine hl_cVi (D := (D + 4)) (z := y15) (n := 1) (av := [.ref 203]) (st := []) d27_3 mlRd_68 rfl (Nat.le_of_ble_eq_true rfl) (Nat.le_of_ble_eq_true rfl) rc3 ((p_Rd_isWord D 3 (by decide) σ hx1).dle (by omega)) ?_
  refine hl_if_ne (tg := 81) d27_6 rfl (fun hc => ?_) (fun hc => ?_)
  · have h := hl_neg hc h
    refine hl_iconst d27_81 ki1 ?_
    refine hl_goto (tg := 86) d27_82 rfl ?_
    have h := Option.some.inj h
    subst h
    exact hl_zret d27_86 rfl (by decide)
  · have h := hl_pos hc h
    refine hl_aload_n (i := 0) d27_9 rfl rfl (by decide) ?_
    refine hl_ldcS (j := 4) d27_10 (by decide) ⟨rfl, rfl⟩ ?_
    obtain ⟨x2, hx2, h⟩ := hl_bind h
    refine hl_cVi (D := (D + 4)) (z := y15) (n := 1) (av := [.ref 204]) (st := []) d27_12 mlRd_68 rfl (Nat.le_of_ble_eq_true rfl) (Nat.le_of_ble_eq_true rfl) rc3 ((p_Rd_isWord D 4 (by decide) σ hx2).dle (by omega)) ?_
    refine hl_if_ne (tg := 81) d27_15 rfl (fun hc => ?_) (fun hc => ?_)
    · have h := hl_neg hc h
      refine hl_iconst d27_81 ki1 ?_
      refine hl_goto (tg := 86) d27_82 rfl ?_
      have h := Option.some.inj h
      subst h
      exact hl_zret d27_86 rfl (by decide)
    · have h := hl_pos hc h
      refine hl_aload_n (i := 0) d27_18 rfl rfl (by decide) ?_
      refine hl_ldcS (j := 5) d27_19 (by decide) ⟨rfl, rfl⟩ ?_
      obtain ⟨x3, hx3, h⟩ := hl_bind h
      refine hl_cVi (D := (D + 4)) (z := y15) (n := 1) (av := [.ref 205]) (st := []) d27_21 mlRd_68 rfl (Nat.le_of_ble_eq_true rfl) (Nat.le_of_ble_eq_true rfl) rc3 ((p_Rd_isWord D 5 (by decide) σ hx3).dle (by omega)) ?_
      refine hl_if_ne (tg := 81) d27_24 rfl (fun hc => ?_) (fun hc => ?_)
      · have h := hl_neg hc h
        refine hl_iconst d27_81 ki1 ?_
        refine hl_goto (tg := 86) d27_82 rfl ?_
        have h := Option.some.inj h
        subst h
        exact hl_zret d27_86 rfl (by decide)
      · have h := hl_pos hc h
        refine hl_aload_n (i := 0) d27_27 rfl rfl (by decide) ?_
        refine hl_ldcS (j := 6) d27_28 (by decide) ⟨rfl, rfl⟩ ?_
        obtain ⟨x4, hx4, h⟩ := hl_bind h
        refine hl_cVi (D := (D + 4)) (z := y15) (n := 1) (av := [.ref 206]) (st := []) d27_30 mlRd_68 rfl (Nat.le_of_ble_eq_true rfl) (Nat.le_of_ble_eq_true rfl) rc3 ((p_Rd_isWord D 6 (by decide) σ hx4).dle (by omega)) ?_
        refine hl_if_ne (tg := 81) d27_33 rfl (fun hc => ?_) (fun hc => ?_)
        · have h := hl_neg hc h
          refine hl_iconst d27_81 ki1 ?_
          refine hl_goto (tg := 86) d27_82 rfl ?_
          have h := Option.some.inj h
          subst h
          exact hl_zret d27_86 rfl (by decide)
        · have h := hl_pos hc h
          refine hl_aload_n (i := 0) d27_36 rfl rfl (by decide) ?_
          refine hl_ldcS (j := 7) d27_37 (by decide) ⟨rfl, rfl⟩ ?_
          obtain ⟨x5, hx5, h⟩ := hl_bind h
          refine hl_cVi (D := (D + 4)) (z := y15) (n := 1) (av := [.ref 207]) (st := []) d27_39 mlRd_68 rfl (Nat.le_of_ble_eq_true rfl) (Nat.le_of_ble_eq_true rfl) rc3 ((p_Rd_isWord D 7 (by decide) σ hx5).dle (by omega)) ?_
          refine hl_if_ne (tg := 81) d27_42 rfl (fun hc => ?_) (fun hc => ?_)
          · have h := hl_neg hc h
            refine hl_iconst d27_81 ki1 ?_
            refine hl_goto (tg := 86) d27_82 rfl ?_
            have h := Option.some.inj h
            subst h
            exact hl_zret d27_86 rfl (by decide)
          · have h := hl_pos hc h
            refine hl_aload_n (i := 0) d27_45 rfl rfl (by decide) ?_
            refine hl_ldcS (j := 8) d27_46 (by decide) ⟨rfl, rfl⟩ ?_
            obtain ⟨x6, hx6, h⟩ := hl_bind h
            refine hl_cVi (D := (D + 4)) (z := y15) (n := 1) (av := [.ref 208]) (st := []) d27_48 mlRd_68 rfl (Nat.le_of_ble_eq_true rfl) (Nat.le_of_ble_eq_true rfl) rc3 ((p_Rd_isWord D 8 (by decide) σ hx6).dle (by omega)) ?_
            refine hl_if_ne (tg := 81) d27_51 rfl (fun hc => ?_) (fun hc => ?_)
            · have h := hl_neg hc h
              refine hl_iconst d27_81 ki1 ?_
              refine hl_goto (tg := 86) d27_82 rfl ?_
              have h := Option.some.inj h
              subst h
              exact hl_zret d27_86 rfl (by decide)
            · have h := hl_pos hc h
              refine hl_aload_n (i := 0) d27_54 rfl rfl (by decide) ?_
              refine hl_ldcS (j := 9) d27_55 (by decide) ⟨rfl, rfl⟩ ?_
              obtain ⟨x7, hx7, h⟩ := hl_bind h
              refine hl_cVi (D := (D + 4)) (z := y15) (n := 1) (av := [.ref 209]) (st := []) d27_57 mlRd_68 rfl (Nat.le_of_ble_eq_true rfl) (Nat.le_of_ble_eq_true rfl) rc3 ((p_Rd_isWord D 9 (by decide) σ hx7).dle (by omega)) ?_
              refine hl_if_ne (tg := 81) d27_60 rfl (fun hc => ?_) (fun hc => ?_)
              · have h := hl_neg hc h
                refine hl_iconst d27_81 ki1 ?_
                refine hl_goto (tg := 86) d27_82 rfl ?_
                have h := Option.some.inj h
                subst h
                exact hl_zret d27_86 rfl (by decide)
              · have h := hl_pos hc h
                refine hl_aload_n (i := 0) d27_63 rfl rfl (by decide) ?_
                refine hl_ldcS (j := 10) d27_64 (by decide) ⟨rfl, rfl⟩ ?_
                obtain ⟨x8, hx8, h⟩ := hl_bind h
                refine hl_cVi (D := (D + 4)) (z := y15) (n := 1) (av := [.ref 210]) (st := []) d27_66 mlRd_68 rfl (Nat.le_of_ble_eq_true rfl) (Nat.le_of_ble_eq_true rfl) rc3 ((p_Rd_isWord D 10 (by decide) σ hx8).dle (by omega)) ?_
                refine hl_if_ne (tg := 81) d27_69 rfl (fun hc => ?_) (fun hc => ?_)
                · have h := hl_neg hc h
                  refine hl_iconst d27_81 ki1 ?_
                  refine hl_goto (tg := 86) d27_82 rfl ?_
                  have h := Option.some.inj h
                  subst h
                  exact hl_zret d27_86 rfl (by decide)
                · have h := hl_pos hc h
                  refine hl_aload_n (i := 0) d27_72 rfl rfl (by decide) ?_
                  refine hl_ldcS (j := 11) d27_73 (by decide) ⟨rfl, rfl⟩ ?_
                  obtain ⟨x9, hx9, h⟩ := hl_bind h
                  refine hl_cVi (D := (D + 4)) (z := y15) (n := 1) (av := [.ref 211]) (st := []) d27_75 mlRd_68 rfl (Nat.le_of_ble_eq_true rfl) (Nat.le_of_ble_eq_true rfl) rc3 ((p_Rd_isWord D 11 (by decide) σ hx9).dle (by omega)) ?_
                  refine hl_if_eq (tg := 85) d27_78 rfl (fun hc => ?_) (fun hc => ?_)
                  · have h := hl_pos hc h
                    refine hl_iconst d27_85 ki0 ?_
                    have h := Option.some.inj h
                    subst h
                    exact hl_zret d27_86 rfl (by decide)
                  · have h := hl_neg hc h
                    refine hl_iconst d27_81 ki1 ?_
                    refine hl_goto (tg := 86) d27_82 rfl ?_
                    have h := Option.some.inj h
                    subst h
                    exact hl_zret d27_86 rfl (by decide)
def f_Rd_wantName_j15 (σ : hl_M) : Option (Int32 × hl_M) :=
  some ((0, f_Rd_fail 1 (σ.1 3 2) σ))
def f_Rd_wantName_L58 (σ : hl_M) (s : Int32 × Int32) : Option ((Int32 × Int32) ⊕ (Int32)) :=
  if ((σ.1 3 3) - (σ.1 3 2)) ≤ s.2 then
  some (.inr s.1) else
  (f_Tape_at ((σ.1 3 2) + s.2) σ).bind fun x2 =>
  some (.inl ((s.1 ||| (((x2 - 97) + 1) <<< ((5 * s.2) &&& 31)), s.2 + 1)))
def f_Rd_wantName (σ : hl_M) : Option (Int32 × hl_M) :=
  if (σ.1 3 1) = 1 then
  (f_Rd_isOwnWord σ).bind fun x1 =>
  if x1 = 0 then
  if ((σ.1 3 3) - (σ.1 3 2)) ≤ 6 then
  (hl_lp (f_Rd_wantName_L58 σ) hl_big ((0, 0))).bind fun x3 =>
  (f_Rd_advance (hl_si σ 3 6 (σ.1 3 2))).bind fun x4 =>
  some ((x3, x4)) else
  some ((0, f_Rd_fail 1 ((σ.1 3 2) + 6) σ)) else
  f_Rd_wantName_j15 σ else
  f_Rd_wantName_j15 σ
set_option maxRecDepth 20000 in
theorem p_Rd_wantName_j15 {X : hl_X} (D : Nat) (σ : hl_M) {r : Int32} {τ : hl_M} (h : f_Rd_wantName_j15 σ = some (r, τ)) : hl_R X (D + 6) y26 15 [(0, .ref 3)] [] σ (some (.int r)) τ := by
  unfold f_Rd_wantName_j15 at h
  refine hl_aload_n (i := 0) d26_15 rfl rfl (by decide) ?_
  refine hl_iconst d26_16 ki1 ?_
  refine hl_aload_n (i := 0) d26_17 rfl rfl (by decide) ?_
  refine hl_gi d26_18 gRd_25_3 ?_
  refine hl_cVv (D := (D + 5)) (z := y23) (n := 2) (av := [.int 1, .int (σ.1 3 2)]) (st := []) d26_21 mlRd_64 rfl (Nat.le_of_ble_eq_true rfl) (Nat.le_of_ble_eq_true rfl) rc3 ((p_Rd_fail D 1 (σ.1 3 2) σ rfl).dle (by omega)) ?_
  refine hl_iconst d26_24 ki0 ?_
  obtain ⟨e1, e2⟩ := hl_some2 h
  subst e1; subst e2
  exact hl_iret d26_25 rfl
set_option maxRecDepth 20000 in
theorem p_Rd_wantName_L58 {X : hl_X} (D : Nat) (σ : hl_M) (s : Int32 × Int32) {o : (Int32 × Int32) ⊕ (Int32)} {v : Option Value} {τ : hl_M} (h : f_Rd_wantName_L58 σ s = some o) (k1 : ∀ (c0 : Int32) (c1 : Int32), o = .inl ((c0, c1)) → hl_R X (D + 6) y26 58 [(0, .ref 3), (1, .int c0), (2, .int c1)] [] σ v τ) (k2 : ∀ (a0 : Int32), o = .inr a0 → hl_R X (D + 6) y26 102 [(0, .ref 3), (1, .int a0)] [] σ v τ) : hl_R X (D + 6) y26 58 [(0, .ref 3), (1, .int s.1), (2, .int s.2)] [] σ v τ := by
  unfold f_Rd_wantName_L58 at h
  refine hl_iload_n (i := 2) d26_58 rfl rfl ?_
  refine hl_aload_n (i := 0) d26_59 rfl rfl (by decide) ?_
  refine hl_gi d26_60 gRd_28_3 ?_
  refine hl_aload_n (i := 0) d26_63 rfl rfl (by decide) ?_
  refine hl_gi d26_64 gRd_25_3 ?_
  refine hl_isub d26_67 ?_
  refine hl_icmp_ge (tg := 102) d26_68 rfl (fun hc => ?_) (fun hc => ?_)
  · have h := hl_pos hc h
    have h := Option.some.inj h
    subst h
    exact hl_loc (k2 s.1 rfl) ⟨rfl, rfl, trivial⟩
  · have h := hl_neg hc h
    refine hl_iload_n (i := 1) d26_71 rfl rfl ?_
    refine hl_aload_n (i := 0) d26_72 rfl rfl (by decide) ?_
    refine hl_gr d26_73 gRd_15_3 ?_
    refine hl_aload_n (i := 0) d26_76 rfl rfl (by decide) ?_
    refine hl_gi d26_77 gRd_25_3 ?_
    refine hl_iload_n (i := 2) d26_80 rfl rfl ?_
    refine hl_iadd d26_81 ?_
    obtain ⟨x2, hx2, h⟩ := hl_bind h
    refine hl_cVi (D := (D + 5)) (z := y11) (n := 1) (av := [.int ((σ.1 3 2) + s.2)]) (st := [.int s.1]) d26_82 mlRd_39 rfl (Nat.le_of_ble_eq_true rfl) (Nat.le_of_ble_eq_true rfl) rc1 ((p_Tape_at D ((σ.1 3 2) + s.2) σ hx2).dle (by omega)) ?_
    refine hl_bipush d26_85 kb97 ?_
    refine hl_isub d26_87 ?_
    refine hl_iconst d26_88 ki1 ?_
    refine hl_iadd d26_89 ?_
    refine hl_iconst d26_90 ki5 ?_
    refine hl_iload_n (i := 2) d26_91 rfl rfl ?_
    refine hl_imul d26_92 ?_
    refine hl_ishl d26_93 ?_
    refine hl_ior d26_94 ?_
    refine hl_istore_n (i := 1) (ls2 := [(1, .int (s.1 ||| (((x2 - 97) + 1) <<< ((5 * s.2) &&& 31)))), (0, .ref 3), (2, .int s.2)]) d26_95 rfl (by decide) rfl ?_
    refine hl_iinc (ls2 := [(2, .int (s.2 + 1)), (1, .int (s.1 ||| (((x2 - 97) + 1) <<< ((5 * s.2) &&& 31)))), (0, .ref 3)]) d26_96 rfl kx1 (by decide) rfl ?_
    refine hl_goto (tg := 58) d26_99 rfl ?_
    have h := Option.some.inj h
    subst h
    exact hl_loc (k1 (s.1 ||| (((x2 - 97) + 1) <<< ((5 * s.2) &&& 31))) (s.2 + 1) rfl) ⟨rfl, rfl, rfl, trivial⟩
set_option maxRecDepth 20000 in
theorem p_Rd_wantName {X : hl_X} (D : Nat) (σ : hl_M) {r : Int32} {τ : hl_M} (h : f_Rd_wantName σ = some (r, τ)) : hl_R X (D + 6) y26 0 [(0, .ref 3)] [] σ (some (.int r)) τ := by
  unfold f_Rd_wantName at h
  refine hl_aload_n (i := 0) d26_0 rfl rfl (by decide) ?_
  refine hl_gi d26_1 gRd_22_3 ?_
  refine hl_iconst d26_4 ki1 ?_
  refine hl_icmp_ne (tg := 15) d26_5 rfl (fun hc => ?_) (fun hc => ?_)
  · have h := hl_neg hc h
    exact hl_loc (p_Rd_wantName_j15 D σ h) ⟨rfl, trivial⟩
  · have h := hl_pos hc h
    refine hl_aload_n (i := 0) d26_8 rfl rfl (by decide) ?_
    obtain ⟨x1, hx1, h⟩ := hl_bind h
    refine hl_cVi (D := (D + 5)) (z := y27) (n := 0) (av := []) (st := []) d26_9 mlRd_75 rfl (Nat.le_of_ble_eq_true rfl) (Nat.le_of_ble_eq_true rfl) rc3 ((p_Rd_isOwnWord D σ hx1).dle (by omega)) ?_
    refine hl_if_eq (tg := 26) d26_12 rfl (fun hc => ?_) (fun hc => ?_)
    · have h := hl_pos hc h
      refine hl_aload_n (i := 0) d26_26 rfl rfl (by decide) ?_
      refine hl_gi d26_27 gRd_28_3 ?_
      refine hl_aload_n (i := 0) d26_30 rfl rfl (by decide) ?_
      refine hl_gi d26_31 gRd_25_3 ?_
      refine hl_isub d26_34 ?_
      refine hl_bipush d26_35 kb6 ?_
      refine hl_icmp_le (tg := 54) d26_37 rfl (fun hc => ?_) (fun hc => ?_)
      · have h := hl_pos hc h
        refine hl_iconst d26_54 ki0 ?_
        refine hl_istore_n (i := 1) (ls2 := [(1, .int 0), (0, .ref 3)]) d26_55 rfl (by decide) rfl ?_
        refine hl_iconst d26_56 ki0 ?_
        refine hl_istore_n (i := 2) (ls2 := [(2, .int 0), (1, .int 0), (0, .ref 3)]) d26_57 rfl (by decide) rfl ?_
        obtain ⟨x3, hx3, h⟩ := hl_bind h
        refine hl_R.loc (ls' := [(0, .ref 3), (1, .int 0), (2, .int 0)]) ⟨rfl, rfl, rfl, trivial⟩ ?_
        refine hl_lp_run2 (P := fun (c0 : Int32) (c1 : Int32) => hl_R X (D + 6) y26 58 [(0, .ref 3), (1, .int c0), (2, .int c1)] [] σ (some (.int r)) τ) (fun x : Int32 => hl_R X (D + 6) y26 102 [(0, .ref 3), (1, .int x)] [] σ (some (.int r)) τ) (fun c0 c1 o ho h1 h2 => p_Rd_wantName_L58 D σ (c0, c1) ho h1 (fun a0 e => h2 a0 e)) hl_big 0 0 x3 hx3 ?_
        refine hl_aload_n (i := 0) d26_102 rfl rfl (by decide) ?_
        refine hl_aload_n (i := 0) d26_103 rfl rfl (by decide) ?_
        refine hl_gi d26_104 gRd_25_3 ?_
        refine hl_pi d26_107 qRd_72_3 ?_
        refine hl_aload_n (i := 0) d26_110 rfl rfl (by decide) ?_
        obtain ⟨x4, hx4, h⟩ := hl_bind h
        refine hl_cVv (D := (D + 5)) (z := y10) (n := 0) (av := []) (st := []) d26_111 mlRd_31 rfl (Nat.le_of_ble_eq_true rfl) (Nat.le_of_ble_eq_true rfl) rc3 ((p_Rd_advance D (hl_si σ 3 6 (σ.1 3 2)) hx4).dle (by omega)) ?_
        refine hl_iload_n (i := 1) d26_114 rfl rfl ?_
        obtain ⟨e1, e2⟩ := hl_some2 h
        subst e1; subst e2
        exact hl_iret d26_115 rfl
      · have h := hl_neg hc h
        refine hl_aload_n (i := 0) d26_40 rfl rfl (by decide) ?_
        refine hl_iconst d26_41 ki1 ?_
        refine hl_aload_n (i := 0) d26_42 rfl rfl (by decide) ?_
        refine hl_gi d26_43 gRd_25_3 ?_
        refine hl_bipush d26_46 kb6 ?_
        refine hl_iadd d26_48 ?_
        refine hl_cVv (D := (D + 5)) (z := y23) (n := 2) (av := [.int 1, .int ((σ.1 3 2) + 6)]) (st := []) d26_49 mlRd_64 rfl (Nat.le_of_ble_eq_true rfl) (Nat.le_of_ble_eq_true rfl) rc3 ((p_Rd_fail D 1 ((σ.1 3 2) + 6) σ rfl).dle (by omega)) ?_
        refine hl_iconst d26_52 ki0 ?_
        obtain ⟨e1, e2⟩ := hl_some2 h
        subst e1; subst e2
        exact hl_iret d26_53 rfl
    · have h := hl_neg hc h
      exact hl_loc (p_Rd_wantName_j15 D σ h) ⟨rfl, trivial⟩
def f_Gr_wordNamed_d_L2 (v1 : Int32) (σ : hl_M) (s : Int32) : Option ((Int32) ⊕ ((Unit) ⊕ (Int32))) :=
  if (σ.1 14 8) ≤ s then
  some (.inr (.inl (()))) else
  if hl_b s 8 then
  if (σ.1 19 s.toNatClampNeg) = v1 then
  some (.inr (.inr (s))) else
  some (.inl (s + 1)) else none
def f_Gr_wordNamed_d (v1 : Int32) (σ : hl_M) : Option (Int32) :=
  (hl_lp (f_Gr_wordNamed_d_L2 v1 σ) hl_big 0).bind fun x1 =>
  Sum.elim (fun x2 =>
  some ((-1))) (fun x3 =>
  some x3) x1
set_option maxRecDepth 20000 in
theorem p_Gr_wordNamed_d_L2 {X : hl_X} (D : Nat) (v1 : Int32) (σ : hl_M) (s : Int32) {o : (Int32) ⊕ ((Unit) ⊕ (Int32))} {v : Option Value} (h : f_Gr_wordNamed_d_L2 v1 σ s = some o) (k1 : ∀ (c0 : Int32), o = .inl c0 → hl_R X D y28 2 [(0, .ref 14), (1, .int v1), (2, .int c0)] [] σ v σ) (k2 : o = .inr (.inl ()) → hl_R X D y28 28 [] [] σ v σ) (kr : ∀ (a : Int32), o = .inr (.inr (a)) → v = some (.int a)) : hl_R X D y28 2 [(0, .ref 14), (1, .int v1), (2, .int s)] [] σ v σ := by
  unfold f_Gr_wordNamed_d_L2 at h
  refine hl_iload_n (i := 2) d28_2 rfl rfl ?_
  refine hl_aload_n (i := 0) d28_3 rfl rfl (by decide) ?_
  refine hl_gi d28_4 gGr_54_14 ?_
  refine hl_icmp_ge (tg := 28) d28_7 rfl (fun hc => ?_) (fun hc => ?_)
  · have h := hl_pos hc h
    have h := Option.some.inj h
    subst h
    exact hl_loc (k2 rfl) trivial
  · have h := hl_neg hc h
    refine hl_aload_n (i := 0) d28_10 rfl rfl (by decide) ?_
    refine hl_gr d28_11 gGr_25_14 ?_
    refine hl_iload_n (i := 2) d28_14 rfl rfl ?_
    obtain ⟨hb, h⟩ := hl_gd h
    refine hl_iald d28_15 sh19 (hl_b_in hb) ?_
    refine hl_iload_n (i := 1) d28_16 rfl rfl ?_
    refine hl_icmp_ne (tg := 22) d28_17 rfl (fun hc => ?_) (fun hc => ?_)
    · have h := hl_neg hc h
      refine hl_iinc (ls2 := [(2, .int (s + 1)), (0, .ref 14), (1, .int v1)]) d28_22 rfl kx1 (by decide) rfl ?_
      refine hl_goto (tg := 2) d28_25 rfl ?_
      have h := Option.some.inj h
      subst h
      exact hl_loc (k1 (s + 1) rfl) ⟨rfl, rfl, rfl, trivial⟩
    · have h := hl_pos hc h
      refine hl_iload_n (i := 2) d28_20 rfl rfl ?_
      have h := Option.some.inj h
      subst h
      have e1 := kr s rfl
      subst e1
      exact hl_iret d28_21 rfl
set_option maxRecDepth 20000 in
theorem p_Gr_wordNamed_d {X : hl_X} (D : Nat) (v1 : Int32) (σ : hl_M) {r : Int32} (h : f_Gr_wordNamed_d v1 σ = some r) : hl_R X D y28 0 [(0, .ref 14), (1, .int v1)] [] σ (some (.int r)) σ := by
  unfold f_Gr_wordNamed_d at h
  refine hl_iconst d28_0 ki0 ?_
  refine hl_istore_n (i := 2) (ls2 := [(2, .int 0), (0, .ref 14), (1, .int v1)]) d28_1 rfl (by decide) rfl ?_
  obtain ⟨x1, hx1, h⟩ := hl_bind h
  refine hl_R.loc (ls' := [(0, .ref 14), (1, .int v1), (2, .int 0)]) ⟨rfl, rfl, rfl, trivial⟩ ?_
  refine hl_lp_run1 (P := fun (c0 : Int32) => hl_R X D y28 2 [(0, .ref 14), (1, .int v1), (2, .int c0)] [] σ (some (.int r)) σ) (Sum.elim (fun x : Unit => hl_R X D y28 28 [] [] σ (some (.int r)) σ) (fun a : Int32 => ((some (.int r)) : Option Value) = some (.int a))) (fun c0 o ho h1 h2 => p_Gr_wordNamed_d_L2 D v1 σ c0 ho h1 (fun e => h2 (.inl ()) e) (fun a e => h2 (.inr (a)) e)) hl_big 0 x1 hx1 ?_
  rcases hl_sum h with ⟨x2, e_x2, h⟩ | ⟨x3, e_x3, h⟩
  · subst e_x2
    refine hl_iconst d28_28 kim1 ?_
    have h := Option.some.inj h
    subst h
    exact hl_iret d28_29 rfl
  · subst e_x3
    cases h
    rfl
def f_Rd_wantWord (j1 : Nat) (σ : hl_M) : Option (hl_M) :=
  (f_Rd_isWord j1 σ).bind fun x1 =>
  if x1 = 0 then
  some (f_Rd_fail 1 (σ.1 3 2) σ) else
  (f_Rd_advance σ).bind fun x2 =>
  some x2
set_option maxRecDepth 20000 in
theorem p_Rd_wantWord {X : hl_X} (D : Nat) (j1 : Nat) (hj1 : j1 < hl_nS) (σ : hl_M) {τ : hl_M} (h : f_Rd_wantWord j1 σ = some τ) : hl_R X (D + 5) y29 0 [(0, .ref 3), (1, .ref (200 + j1))] [] σ none τ := by
  unfold f_Rd_wantWord at h
  refine hl_aload_n (i := 0) d29_0 rfl rfl (by decide) ?_
  refine hl_aload_n (i := 1) d29_1 rfl rfl (hl_nS9 hj1).1 ?_
  obtain ⟨x1, hx1, h⟩ := hl_bind h
  refine hl_cVi (D := (D + 4)) (z := y15) (n := 1) (av := [.ref (200 + j1)]) (st := []) d29_2 mlRd_68 rfl (Nat.le_of_ble_eq_true rfl) (Nat.le_of_ble_eq_true rfl) rc3 ((p_Rd_isWord D j1 hj1 σ hx1).dle (by omega)) ?_
  refine hl_if_eq (tg := 15) d29_5 rfl (fun hc => ?_) (fun hc => ?_)
  · have h := hl_pos hc h
    refine hl_aload_n (i := 0) d29_15 rfl rfl (by decide) ?_
    refine hl_iconst d29_16 ki1 ?_
    refine hl_aload_n (i := 0) d29_17 rfl rfl (by decide) ?_
    refine hl_gi d29_18 gRd_25_3 ?_
    refine hl_cVv (D := (D + 4)) (z := y23) (n := 2) (av := [.int 1, .int (σ.1 3 2)]) (st := []) d29_21 mlRd_64 rfl (Nat.le_of_ble_eq_true rfl) (Nat.le_of_ble_eq_true rfl) rc3 ((p_Rd_fail D 1 (σ.1 3 2) σ rfl).dle (by omega)) ?_
    have h := Option.some.inj h
    subst h
    exact hl_vret d29_24 rfl
  · have h := hl_neg hc h
    refine hl_aload_n (i := 0) d29_8 rfl rfl (by decide) ?_
    obtain ⟨x2, hx2, h⟩ := hl_bind h
    refine hl_cVv (D := (D + 4)) (z := y10) (n := 0) (av := []) (st := []) d29_9 mlRd_31 rfl (Nat.le_of_ble_eq_true rfl) (Nat.le_of_ble_eq_true rfl) rc3 ((p_Rd_advance D σ hx2).dle (by omega)) ?_
    refine hl_goto (tg := 24) d29_12 rfl ?_
    have h := Option.some.inj h
    subst h
    exact hl_vret d29_24 rfl
def f_Rd_wantNumber_L53 (v1 : Int32) (v2 : Int32) (σ : hl_M) (s : Int32 × Int32) : Option ((Int32 × Int32) ⊕ (Int32)) :=
  if (σ.1 3 3) ≤ s.2 then
  some (.inr s.1) else
  (f_Tape_at s.2 σ).bind fun x1 =>
  some (.inl ((((10 * s.1) + x1) - 48, s.2 + 1)))
def f_Rd_wantNumber_j104 (σ : hl_M) : Option (Int32 × hl_M) :=
  some (((-1), f_Rd_fail 2 (σ.1 3 2) σ))
def f_Rd_wantNumber (v1 : Int32) (v2 : Int32) (σ : hl_M) : Option (Int32 × hl_M) :=
  if (σ.1 3 1) = 2 then
  if ((σ.1 3 3) - (σ.1 3 2)) ≤ 4 then
  (hl_lp (f_Rd_wantNumber_L53 v1 v2 σ) hl_big ((0, σ.1 3 2))).bind fun x2 =>
  if x2 < v1 then
  f_Rd_wantNumber_j104 (hl_si σ 3 6 (σ.1 3 2)) else
  if x2 ≤ v2 then
  (f_Rd_advance (hl_si σ 3 6 (σ.1 3 2))).bind fun x3 =>
  some ((x2, x3)) else
  f_Rd_wantNumber_j104 (hl_si σ 3 6 (σ.1 3 2)) else
  some (((-1), f_Rd_fail 1 ((σ.1 3 2) + 4) σ)) else
  some (((-1), f_Rd_fail 1 (σ.1 3 2) σ))
set_option maxRecDepth 20000 in
theorem p_Rd_wantNumber_L53 {X : hl_X} (D : Nat) (v1 : Int32) (v2 : Int32) (σ : hl_M) (s : Int32 × Int32) {o : (Int32 × Int32) ⊕ (Int32)} {v : Option Value} {τ : hl_M} (h : f_Rd_wantNumber_L53 v1 v2 σ s = some o) (k1 : ∀ (c0 : Int32) (c1 : Int32), o = .inl ((c0, c1)) → hl_R X (D + 2) y30 53 [(0, .ref 3), (1, .int v1), (2, .int v2), (3, .int c0), (4, .int c1)] [] σ v τ) (k2 : ∀ (a0 : Int32), o = .inr a0 → hl_R X (D + 2) y30 86 [(0, .ref 3), (1, .int v1), (2, .int v2), (3, .int a0)] [] σ v τ) : hl_R X (D + 2) y30 53 [(0, .ref 3), (1, .int v1), (2, .int v2), (3, .int s.1), (4, .int s.2)] [] σ v τ := by
  unfold f_Rd_wantNumber_L53 at h
  refine hl_iload d30_53 rfl ?_
  refine hl_aload_n (i := 0) d30_55 rfl rfl (by decide) ?_
  refine hl_gi d30_56 gRd_28_3 ?_
  refine hl_icmp_ge (tg := 86) d30_59 rfl (fun hc => ?_) (fun hc => ?_)
  · have h := hl_pos hc h
    have h := Option.some.inj h
    subst h
    exact hl_loc (k2 s.1 rfl) ⟨rfl, rfl, rfl, rfl, trivial⟩
  · have h := hl_neg hc h
    refine hl_bipush d30_62 kb10 ?_
    refine hl_iload_n (i := 3) d30_64 rfl rfl ?_
    refine hl_imul d30_65 ?_
    refine hl_aload_n (i := 0) d30_66 rfl rfl (by decide) ?_
    refine hl_gr d30_67 gRd_15_3 ?_
    refine hl_iload d30_70 rfl ?_
    obtain ⟨x1, hx1, h⟩ := hl_bind h
    refine hl_cVi (D := (D + 1)) (z := y11) (n := 1) (av := [.int s.2]) (st := [.int (10 * s.1)]) d30_72 mlRd_39 rfl (Nat.le_of_ble_eq_true rfl) (Nat.le_of_ble_eq_true rfl) rc1 ((p_Tape_at D s.2 σ hx1).dle (by omega)) ?_
    refine hl_iadd d30_75 ?_
    refine hl_bipush d30_76 kb48 ?_
    refine hl_isub d30_78 ?_
    refine hl_istore_n (i := 3) (ls2 := [(3, .int (((10 * s.1) + x1) - 48)), (0, .ref 3), (1, .int v1), (2, .int v2), (4, .int s.2)]) d30_79 rfl (by decide) rfl ?_
    refine hl_iinc (ls2 := [(4, .int (s.2 + 1)), (3, .int (((10 * s.1) + x1) - 48)), (0, .ref 3), (1, .int v1), (2, .int v2)]) d30_80 rfl kx1 (by decide) rfl ?_
    refine hl_goto (tg := 53) d30_83 rfl ?_
    have h := Option.some.inj h
    subst h
    exact hl_loc (k1 (((10 * s.1) + x1) - 48) (s.2 + 1) rfl) ⟨rfl, rfl, rfl, rfl, rfl, trivial⟩
set_option maxRecDepth 20000 in
theorem p_Rd_wantNumber_j104 {X : hl_X} (D : Nat) (σ : hl_M) {r : Int32} {τ : hl_M} (h : f_Rd_wantNumber_j104 σ = some (r, τ)) : hl_R X (D + 2) y30 104 [(0, .ref 3)] [] σ (some (.int r)) τ := by
  unfold f_Rd_wantNumber_j104 at h
  refine hl_aload_n (i := 0) d30_104 rfl rfl (by decide) ?_
  refine hl_iconst d30_105 ki2 ?_
  refine hl_aload_n (i := 0) d30_106 rfl rfl (by decide) ?_
  refine hl_gi d30_107 gRd_25_3 ?_
  refine hl_cVv (D := (D + 1)) (z := y23) (n := 2) (av := [.int 2, .int (σ.1 3 2)]) (st := []) d30_110 mlRd_64 rfl (Nat.le_of_ble_eq_true rfl) (Nat.le_of_ble_eq_true rfl) rc3 ((p_Rd_fail D 2 (σ.1 3 2) σ rfl).dle (by omega)) ?_
  refine hl_iconst d30_113 kim1 ?_
  obtain ⟨e1, e2⟩ := hl_some2 h
  subst e1; subst e2
  exact hl_iret d30_114 rfl
set_option maxRecDepth 20000 in
theorem p_Rd_wantNumber {X : hl_X} (D : Nat) (v1 : Int32) (v2 : Int32) (σ : hl_M) {r : Int32} {τ : hl_M} (h : f_Rd_wantNumber v1 v2 σ = some (r, τ)) : hl_R X (D + 2) y30 0 [(0, .ref 3), (1, .int v1), (2, .int v2)] [] σ (some (.int r)) τ := by
  unfold f_Rd_wantNumber at h
  refine hl_aload_n (i := 0) d30_0 rfl rfl (by decide) ?_
  refine hl_gi d30_1 gRd_22_3 ?_
  refine hl_iconst d30_4 ki2 ?_
  refine hl_icmp_eq (tg := 19) d30_5 rfl (fun hc => ?_) (fun hc => ?_)
  · have h := hl_pos hc h
    refine hl_aload_n (i := 0) d30_19 rfl rfl (by decide) ?_
    refine hl_gi d30_20 gRd_28_3 ?_
    refine hl_aload_n (i := 0) d30_23 rfl rfl (by decide) ?_
    refine hl_gi d30_24 gRd_25_3 ?_
    refine hl_isub d30_27 ?_
    refine hl_iconst d30_28 ki4 ?_
    refine hl_icmp_le (tg := 45) d30_29 rfl (fun hc => ?_) (fun hc => ?_)
    · have h := hl_pos hc h
      refine hl_iconst d30_45 ki0 ?_
      refine hl_istore_n (i := 3) (ls2 := [(3, .int 0), (0, .ref 3), (1, .int v1), (2, .int v2)]) d30_46 rfl (by decide) rfl ?_
      refine hl_aload_n (i := 0) d30_47 rfl rfl (by decide) ?_
      refine hl_gi d30_48 gRd_25_3 ?_
      refine hl_istore (ls2 := [(4, .int (σ.1 3 2)), (3, .int 0), (0, .ref 3), (1, .int v1), (2, .int v2)]) d30_51 (by decide) rfl ?_
      obtain ⟨x2, hx2, h⟩ := hl_bind h
      refine hl_R.loc (ls' := [(0, .ref 3), (1, .int v1), (2, .int v2), (3, .int 0), (4, .int (σ.1 3 2))]) ⟨rfl, rfl, rfl, rfl, rfl, trivial⟩ ?_
      refine hl_lp_run2 (P := fun (c0 : Int32) (c1 : Int32) => hl_R X (D + 2) y30 53 [(0, .ref 3), (1, .int v1), (2, .int v2), (3, .int c0), (4, .int c1)] [] σ (some (.int r)) τ) (fun x : Int32 => hl_R X (D + 2) y30 86 [(0, .ref 3), (1, .int v1), (2, .int v2), (3, .int x)] [] σ (some (.int r)) τ) (fun c0 c1 o ho h1 h2 => p_Rd_wantNumber_L53 D v1 v2 σ (c0, c1) ho h1 (fun a0 e => h2 a0 e)) hl_big 0 (σ.1 3 2) x2 hx2 ?_
      refine hl_aload_n (i := 0) d30_86 rfl rfl (by decide) ?_
      refine hl_aload_n (i := 0) d30_87 rfl rfl (by decide) ?_
      refine hl_gi d30_88 gRd_25_3 ?_
      refine hl_pi d30_91 qRd_72_3 ?_
      refine hl_iload_n (i := 3) d30_94 rfl rfl ?_
      refine hl_iload_n (i := 1) d30_95 rfl rfl ?_
      refine hl_icmp_lt (tg := 104) d30_96 rfl (fun hc => ?_) (fun hc => ?_)
      · have h := hl_pos hc h
        exact hl_loc (p_Rd_wantNumber_j104 D (hl_si σ 3 6 (σ.1 3 2)) h) ⟨rfl, trivial⟩
      · have h := hl_neg hc h
        refine hl_iload_n (i := 3) d30_99 rfl rfl ?_
        refine hl_iload_n (i := 2) d30_100 rfl rfl ?_
        refine hl_icmp_le (tg := 115) d30_101 rfl (fun hc => ?_) (fun hc => ?_)
        · have h := hl_pos hc h
          refine hl_aload_n (i := 0) d30_115 rfl rfl (by decide) ?_
          obtain ⟨x3, hx3, h⟩ := hl_bind h
          refine hl_cVv (D := (D + 1)) (z := y10) (n := 0) (av := []) (st := []) d30_116 mlRd_31 rfl (Nat.le_of_ble_eq_true rfl) (Nat.le_of_ble_eq_true rfl) rc3 ((p_Rd_advance D (hl_si σ 3 6 (σ.1 3 2)) hx3).dle (by omega)) ?_
          refine hl_iload_n (i := 3) d30_119 rfl rfl ?_
          obtain ⟨e1, e2⟩ := hl_some2 h
          subst e1; subst e2
          exact hl_iret d30_120 rfl
        · have h := hl_neg hc h
          exact hl_loc (p_Rd_wantNumber_j104 D (hl_si σ 3 6 (σ.1 3 2)) h) ⟨rfl, trivial⟩
    · have h := hl_neg hc h
      refine hl_aload_n (i := 0) d30_32 rfl rfl (by decide) ?_
      refine hl_iconst d30_33 ki1 ?_
      refine hl_aload_n (i := 0) d30_34 rfl rfl (by decide) ?_
      refine hl_gi d30_35 gRd_25_3 ?_
      refine hl_iconst d30_38 ki4 ?_
      refine hl_iadd d30_39 ?_
      refine hl_cVv (D := (D + 1)) (z := y23) (n := 2) (av := [.int 1, .int ((σ.1 3 2) + 4)]) (st := []) d30_40 mlRd_64 rfl (Nat.le_of_ble_eq_true rfl) (Nat.le_of_ble_eq_true rfl) rc3 ((p_Rd_fail D 1 ((σ.1 3 2) + 4) σ rfl).dle (by omega)) ?_
      refine hl_iconst d30_43 kim1 ?_
      obtain ⟨e1, e2⟩ := hl_some2 h
      subst e1; subst e2
      exact hl_iret d30_44 rfl
  · have h := hl_neg hc h
    refine hl_aload_n (i := 0) d30_8 rfl rfl (by decide) ?_
    refine hl_iconst d30_9 ki1 ?_
    refine hl_aload_n (i := 0) d30_10 rfl rfl (by decide) ?_
    refine hl_gi d30_11 gRd_25_3 ?_
    refine hl_cVv (D := (D + 1)) (z := y23) (n := 2) (av := [.int 1, .int (σ.1 3 2)]) (st := []) d30_14 mlRd_64 rfl (Nat.le_of_ble_eq_true rfl) (Nat.le_of_ble_eq_true rfl) rc3 ((p_Rd_fail D 1 (σ.1 3 2) σ rfl).dle (by omega)) ?_
    refine hl_iconst d30_17 kim1 ?_
    obtain ⟨e1, e2⟩ := hl_some2 h
    subst e1; subst e2
    exact hl_iret d30_18 rfl
def f_Rd_isSign (v1 : Int32) (σ : hl_M) : Option (Int32) :=
  if (σ.1 3 1) = 3 then
  (f_Tape_at (σ.1 3 2) σ).bind fun x1 =>
  if x1 = v1 then
  some 1 else
  some 0 else
  some 0
set_option maxRecDepth 20000 in
theorem p_Rd_isSign {X : hl_X} (D : Nat) (v1 : Int32) (σ : hl_M) {r : Int32} (h : f_Rd_isSign v1 σ = some r) : hl_R X (D + 1) y32 0 [(0, .ref 3), (1, .int v1)] [] σ (some (.int r)) σ := by
  unfold f_Rd_isSign at h
  refine hl_aload_n (i := 0) d32_0 rfl rfl (by decide) ?_
  refine hl_gi d32_1 gRd_22_3 ?_
  refine hl_iconst d32_4 ki3 ?_
  refine hl_icmp_ne (tg := 27) d32_5 rfl (fun hc => ?_) (fun hc => ?_)
  · have h := hl_neg hc h
    refine hl_iconst d32_27 ki0 ?_
    have h := Option.some.inj h
    subst h
    exact hl_zret d32_28 rfl (by decide)
  · have h := hl_pos hc h
    refine hl_aload_n (i := 0) d32_8 rfl rfl (by decide) ?_
    refine hl_gr d32_9 gRd_15_3 ?_
    refine hl_aload_n (i := 0) d32_12 rfl rfl (by decide) ?_
    refine hl_gi d32_13 gRd_25_3 ?_
    obtain ⟨x1, hx1, h⟩ := hl_bind h
    refine hl_cVi (D := D) (z := y11) (n := 1) (av := [.int (σ.1 3 2)]) (st := []) d32_16 mlRd_39 rfl (Nat.le_of_ble_eq_true rfl) (Nat.le_of_ble_eq_true rfl) rc1 ((p_Tape_at D (σ.1 3 2) σ hx1).dle (by omega)) ?_
    refine hl_iload_n (i := 1) d32_19 rfl rfl ?_
    refine hl_icmp_ne (tg := 27) d32_20 rfl (fun hc => ?_) (fun hc => ?_)
    · have h := hl_neg hc h
      refine hl_iconst d32_27 ki0 ?_
      have h := Option.some.inj h
      subst h
      exact hl_zret d32_28 rfl (by decide)
    · have h := hl_pos hc h
      refine hl_iconst d32_23 ki1 ?_
      refine hl_goto (tg := 28) d32_24 rfl ?_
      have h := Option.some.inj h
      subst h
      exact hl_zret d32_28 rfl (by decide)
def f_Rd_wantSign (v1 : Int32) (σ : hl_M) : Option (hl_M) :=
  (f_Rd_isSign v1 σ).bind fun x1 =>
  if x1 = 0 then
  some (f_Rd_fail 1 (σ.1 3 2) σ) else
  (f_Rd_advance σ).bind fun x2 =>
  some x2
set_option maxRecDepth 20000 in
theorem p_Rd_wantSign {X : hl_X} (D : Nat) (v1 : Int32) (σ : hl_M) {τ : hl_M} (h : f_Rd_wantSign v1 σ = some τ) : hl_R X (D + 2) y31 0 [(0, .ref 3), (1, .int v1)] [] σ none τ := by
  unfold f_Rd_wantSign at h
  refine hl_aload_n (i := 0) d31_0 rfl rfl (by decide) ?_
  refine hl_iload_n (i := 1) d31_1 rfl rfl ?_
  obtain ⟨x1, hx1, h⟩ := hl_bind h
  refine hl_cVi (D := (D + 1)) (z := y32) (n := 1) (av := [.int v1]) (st := []) d31_2 mlRd_60 rfl (Nat.le_of_ble_eq_true rfl) (Nat.le_of_ble_eq_true rfl) rc3 ((p_Rd_isSign D v1 σ hx1).dle (by omega)) ?_
  refine hl_if_eq (tg := 15) d31_5 rfl (fun hc => ?_) (fun hc => ?_)
  · have h := hl_pos hc h
    refine hl_aload_n (i := 0) d31_15 rfl rfl (by decide) ?_
    refine hl_iconst d31_16 ki1 ?_
    refine hl_aload_n (i := 0) d31_17 rfl rfl (by decide) ?_
    refine hl_gi d31_18 gRd_25_3 ?_
    refine hl_cVv (D := (D + 1)) (z := y23) (n := 2) (av := [.int 1, .int (σ.1 3 2)]) (st := []) d31_21 mlRd_64 rfl (Nat.le_of_ble_eq_true rfl) (Nat.le_of_ble_eq_true rfl) rc3 ((p_Rd_fail D 1 (σ.1 3 2) σ rfl).dle (by omega)) ?_
    have h := Option.some.inj h
    subst h
    exact hl_vret d31_24 rfl
  · have h := hl_neg hc h
    refine hl_aload_n (i := 0) d31_8 rfl rfl (by decide) ?_
    obtain ⟨x2, hx2, h⟩ := hl_bind h
    refine hl_cVv (D := (D + 1)) (z := y10) (n := 0) (av := []) (st := []) d31_9 mlRd_31 rfl (Nat.le_of_ble_eq_true rfl) (Nat.le_of_ble_eq_true rfl) rc3 ((p_Rd_advance D σ hx2).dle (by omega)) ?_
    refine hl_goto (tg := 24) d31_12 rfl ?_
    have h := Option.some.inj h
    subst h
    exact hl_vret d31_24 rfl
def f_Tl_tellHymn_j62 (v1 : Int32) (σ : hl_M) : Option (hl_M) :=
  (f_Rd_wantWord 18 σ).bind fun x4 =>
  (f_Rd_wantNumber 0 99 x4).bind fun x5 =>
  (f_Rd_wantSign 59 x5.2).bind fun x6 =>
  if (f_Rd_failed x6) = 0 then
  if (f_X_within (x6.1 14 12) 10) = 0 then
  some x6 else
  if hl_b (x6.1 14 12) 10 then
  if hl_b ((hl_si x6 22 (x6.1 14 12).toNatClampNeg v1).1 14 12) 10 then
  hl_let (hl_si (hl_si (hl_si x6 22 (x6.1 14 12).toNatClampNeg v1) 23 ((hl_si x6 22 (x6.1 14 12).toNatClampNeg v1).1 14 12).toNatClampNeg x5.1) 14 12 (((hl_si (hl_si x6 22 (x6.1 14 12).toNatClampNeg v1) 23 ((hl_si x6 22 (x6.1 14 12).toNatClampNeg v1).1 14 12).toNatClampNeg x5.1).1 14 12) + 1)) (fun σ7 =>
  some σ7) else none else none else
  some x6
def f_Tl_tellHymn (σ : hl_M) : Option (hl_M) :=
  (f_Tl_startsOneOf (σ.1 14 12) 10 σ).bind fun x1 =>
  if x1.1 = 0 then
  some x1.2 else
  (f_Rd_wantName x1.2).bind fun x2 =>
  (f_Gr_wordNamed_d x2.1 x2.2).bind fun x3 =>
  if (f_Rd_failed x2.2) = 0 then
  if x3 = ((-1)) then
  f_Tl_tellHymn_j62 x3 (f_Rd_fail 3 (x2.2.1 3 6) x2.2) else
  f_Tl_tellHymn_j62 x3 x2.2 else
  f_Tl_tellHymn_j62 x3 x2.2
set_option maxRecDepth 20000 in
theorem p_Tl_tellHymn_j62 {X : hl_X} (D : Nat) (v1 : Int32) (σ : hl_M) {τ : hl_M} (h : f_Tl_tellHymn_j62 v1 σ = some τ) : hl_R X (D + 7) y24 62 [(0, .ref 24), (1, .int v1)] [] σ none τ := by
  unfold f_Tl_tellHymn_j62 at h
  refine hl_aload_n (i := 0) d24_62 rfl rfl (by decide) ?_
  refine hl_gr d24_63 gTl_9_24 ?_
  refine hl_ldcS (j := 18) d24_66 (by decide) ⟨rfl, rfl⟩ ?_
  obtain ⟨x4, hx4, h⟩ := hl_bind h
  refine hl_cVv (D := (D + 6)) (z := y29) (n := 1) (av := [.ref 218]) (st := []) d24_68 mlTl_76 rfl (Nat.le_of_ble_eq_true rfl) (Nat.le_of_ble_eq_true rfl) rc3 ((p_Rd_wantWord D 18 (by decide) σ hx4).dle (by omega)) ?_
  refine hl_aload_n (i := 0) d24_71 rfl rfl (by decide) ?_
  refine hl_gr d24_72 gTl_9_24 ?_
  refine hl_iconst d24_75 ki0 ?_
  refine hl_bipush d24_76 kb99 ?_
  obtain ⟨x5, hx5, h⟩ := hl_bind h
  refine hl_cVi (D := (D + 6)) (z := y30) (n := 2) (av := [.int 0, .int 99]) (st := []) d24_78 mlTl_80 rfl (Nat.le_of_ble_eq_true rfl) (Nat.le_of_ble_eq_true rfl) rc3 ((p_Rd_wantNumber D 0 99 x4 hx5).dle (by omega)) ?_
  refine hl_istore_n (i := 2) (ls2 := [(2, .int x5.1), (0, .ref 24), (1, .int v1)]) d24_81 rfl (by decide) rfl ?_
  refine hl_aload_n (i := 0) d24_82 rfl rfl (by decide) ?_
  refine hl_gr d24_83 gTl_9_24 ?_
  refine hl_bipush d24_86 kb59 ?_
  obtain ⟨x6, hx6, h⟩ := hl_bind h
  refine hl_cVv (D := (D + 6)) (z := y31) (n := 1) (av := [.int 59]) (st := []) d24_88 mlTl_90 rfl (Nat.le_of_ble_eq_true rfl) (Nat.le_of_ble_eq_true rfl) rc3 ((p_Rd_wantSign D 59 x5.2 hx6).dle (by omega)) ?_
  refine hl_aload_n (i := 0) d24_91 rfl rfl (by decide) ?_
  refine hl_gr d24_92 gTl_9_24 ?_
  refine hl_cVi (D := (D + 6)) (z := y14) (n := 0) (av := []) (st := []) d24_95 mlTl_33 rfl (Nat.le_of_ble_eq_true rfl) (Nat.le_of_ble_eq_true rfl) rc3 ((p_Rd_failed D x6 rfl).dle (by omega)) ?_
  refine hl_if_ne (tg := 161) d24_98 rfl (fun hc => ?_) (fun hc => ?_)
  · have h := hl_neg hc h
    have h := Option.some.inj h
    subst h
    exact hl_vret d24_161 rfl
  · have h := hl_pos hc h
    refine hl_aload_n (i := 0) d24_101 rfl rfl (by decide) ?_
    refine hl_gr d24_102 gTl_15_24 ?_
    refine hl_gi d24_105 gTl_165_14 ?_
    refine hl_bipush d24_108 kb10 ?_
    refine hl_cNi (D := (D + 6)) (z := y2) (n := 2) (av := [.int (x6.1 14 12), .int 10]) (st := []) d24_110 mlTl_132 rfl (Nat.le_of_ble_eq_true rfl) (Nat.le_of_ble_eq_true rfl) ((p_X_within D (x6.1 14 12) 10 x6 rfl).dle (by omega)) ?_
    refine hl_if_eq (tg := 161) d24_113 rfl (fun hc => ?_) (fun hc => ?_)
    · have h := hl_pos hc h
      have h := Option.some.inj h
      subst h
      exact hl_vret d24_161 rfl
    · have h := hl_neg hc h
      refine hl_aload_n (i := 0) d24_116 rfl rfl (by decide) ?_
      refine hl_gr d24_117 gTl_15_24 ?_
      refine hl_gr d24_120 gTl_177_14 ?_
      refine hl_aload_n (i := 0) d24_123 rfl rfl (by decide) ?_
      refine hl_gr d24_124 gTl_15_24 ?_
      refine hl_gi d24_127 gTl_165_14 ?_
      refine hl_iload_n (i := 1) d24_130 rfl rfl ?_
      obtain ⟨hb, h⟩ := hl_gd h
      refine hl_iast (q := 22) d24_131 sh22 (hl_b_in hb) ?_
      refine hl_aload_n (i := 0) d24_132 rfl rfl (by decide) ?_
      refine hl_gr d24_133 gTl_15_24 ?_
      refine hl_gr d24_136 gTl_180_14 ?_
      refine hl_aload_n (i := 0) d24_139 rfl rfl (by decide) ?_
      refine hl_gr d24_140 gTl_15_24 ?_
      refine hl_gi d24_143 gTl_165_14 ?_
      refine hl_iload_n (i := 2) d24_146 rfl rfl ?_
      obtain ⟨hb, h⟩ := hl_gd h
      refine hl_iast (q := 23) d24_147 sh23 (hl_b_in hb) ?_
      refine hl_aload_n (i := 0) d24_148 rfl rfl (by decide) ?_
      refine hl_gr d24_149 gTl_15_24 ?_
      refine hl_dup d24_152 rfl ?_
      refine hl_gi d24_153 gTl_165_14 ?_
      refine hl_iconst d24_156 ki1 ?_
      refine hl_iadd d24_157 ?_
      refine hl_pi d24_158 qTl_165_14 ?_
      refine hl_nmm h (fun σ7 h => ?_)
      have h := Option.some.inj h
      subst h
      exact hl_vret d24_161 rfl
set_option maxRecDepth 20000 in
theorem p_Tl_tellHymn {X : hl_X} (D : Nat) (σ : hl_M) {τ : hl_M} (h : f_Tl_tellHymn σ = some τ) : hl_R X (D + 7) y24 0 [(0, .ref 24)] [] σ none τ := by
  unfold f_Tl_tellHymn at h
  refine hl_aload_n (i := 0) d24_0 rfl rfl (by decide) ?_
  refine hl_aload_n (i := 0) d24_1 rfl rfl (by decide) ?_
  refine hl_gr d24_2 gTl_15_24 ?_
  refine hl_gi d24_5 gTl_165_14 ?_
  refine hl_bipush d24_8 kb10 ?_
  obtain ⟨x1, hx1, h⟩ := hl_bind h
  refine hl_cVi (D := (D + 6)) (z := y25) (n := 2) (av := [.int (σ.1 14 12), .int 10]) (st := []) d24_10 mlTl_94 rfl (Nat.le_of_ble_eq_true rfl) (Nat.le_of_ble_eq_true rfl) rc24 ((p_Tl_startsOneOf D (σ.1 14 12) 10 σ hx1).dle (by omega)) ?_
  refine hl_if_ne (tg := 17) d24_13 rfl (fun hc => ?_) (fun hc => ?_)
  · have h := hl_neg hc h
    refine hl_aload_n (i := 0) d24_17 rfl rfl (by decide) ?_
    refine hl_gr d24_18 gTl_15_24 ?_
    refine hl_aload_n (i := 0) d24_21 rfl rfl (by decide) ?_
    refine hl_gr d24_22 gTl_9_24 ?_
    obtain ⟨x2, hx2, h⟩ := hl_bind h
    refine hl_cVi (D := (D + 6)) (z := y26) (n := 0) (av := []) (st := [.ref 14]) d24_25 mlTl_168 rfl (Nat.le_of_ble_eq_true rfl) (Nat.le_of_ble_eq_true rfl) rc3 ((p_Rd_wantName D x1.2 hx2).dle (by omega)) ?_
    obtain ⟨x3, hx3, h⟩ := hl_bind h
    refine hl_cVi (D := (D + 6)) (z := y28) (n := 1) (av := [.int x2.1]) (st := []) d24_28 mlTl_171 rfl (Nat.le_of_ble_eq_true rfl) (Nat.le_of_ble_eq_true rfl) rc14 ((p_Gr_wordNamed_d D x2.1 x2.2 hx3).dle (by omega)) ?_
    refine hl_istore_n (i := 1) (ls2 := [(1, .int x3), (0, .ref 24)]) d24_31 rfl (by decide) rfl ?_
    refine hl_aload_n (i := 0) d24_32 rfl rfl (by decide) ?_
    refine hl_gr d24_33 gTl_9_24 ?_
    refine hl_cVi (D := (D + 6)) (z := y14) (n := 0) (av := []) (st := []) d24_36 mlTl_33 rfl (Nat.le_of_ble_eq_true rfl) (Nat.le_of_ble_eq_true rfl) rc3 ((p_Rd_failed D x2.2 rfl).dle (by omega)) ?_
    refine hl_if_ne (tg := 62) d24_39 rfl (fun hc => ?_) (fun hc => ?_)
    · have h := hl_neg hc h
      exact hl_loc (p_Tl_tellHymn_j62 D x3 x2.2 h) ⟨rfl, rfl, trivial⟩
    · have h := hl_pos hc h
      refine hl_iload_n (i := 1) d24_42 rfl rfl ?_
      refine hl_iconst d24_43 kim1 ?_
      refine hl_icmp_ne (tg := 62) d24_44 rfl (fun hc => ?_) (fun hc => ?_)
      · have h := hl_neg hc h
        exact hl_loc (p_Tl_tellHymn_j62 D x3 x2.2 h) ⟨rfl, rfl, trivial⟩
      · have h := hl_pos hc h
        refine hl_aload_n (i := 0) d24_47 rfl rfl (by decide) ?_
        refine hl_gr d24_48 gTl_9_24 ?_
        refine hl_iconst d24_51 ki3 ?_
        refine hl_aload_n (i := 0) d24_52 rfl rfl (by decide) ?_
        refine hl_gr d24_53 gTl_9_24 ?_
        refine hl_gi d24_56 gTl_106_3 ?_
        refine hl_cVv (D := (D + 6)) (z := y23) (n := 2) (av := [.int 3, .int (x2.2.1 3 6)]) (st := []) d24_59 mlTl_70 rfl (Nat.le_of_ble_eq_true rfl) (Nat.le_of_ble_eq_true rfl) rc3 ((p_Rd_fail D 3 (x2.2.1 3 6) x2.2 rfl).dle (by omega)) ?_
        exact hl_loc (p_Tl_tellHymn_j62 D x3 (f_Rd_fail 3 (x2.2.1 3 6) x2.2) h) ⟨rfl, rfl, trivial⟩
  · have h := hl_pos hc h
    have h := Option.some.inj h
    subst h
    exact hl_vret d24_16 rfl
def f_Gr_isNamed_d_L2 (v1 : Int32) (σ : hl_M) (s : Int32) : Option ((Int32) ⊕ ((Unit) ⊕ (Int32))) :=
  if (σ.1 14 3) ≤ s then
  some (.inr (.inl (()))) else
  if hl_b s 10 then
  if (σ.1 15 s.toNatClampNeg) = v1 then
  some (.inr (.inr (1))) else
  some (.inl (s + 1)) else none
def f_Gr_isNamed_d (v1 : Int32) (σ : hl_M) : Option (Int32) :=
  (hl_lp (f_Gr_isNamed_d_L2 v1 σ) hl_big 0).bind fun x1 =>
  Sum.elim (fun x2 =>
  (f_Gr_wordNamed_d v1 σ).bind fun x3 =>
  if x3 = ((-1)) then
  some 0 else
  some 1) (fun x4 =>
  some x4) x1
set_option maxRecDepth 20000 in
theorem p_Gr_isNamed_d_L2 {X : hl_X} (D : Nat) (v1 : Int32) (σ : hl_M) (s : Int32) {o : (Int32) ⊕ ((Unit) ⊕ (Int32))} {v : Option Value} (h : f_Gr_isNamed_d_L2 v1 σ s = some o) (k1 : ∀ (c0 : Int32), o = .inl c0 → hl_R X (D + 1) y35 2 [(0, .ref 14), (1, .int v1), (2, .int c0)] [] σ v σ) (k2 : o = .inr (.inl ()) → hl_R X (D + 1) y35 28 [(0, .ref 14), (1, .int v1)] [] σ v σ) (kr : ∀ (a : Int32), o = .inr (.inr (a)) → v = some (.int a)) : hl_R X (D + 1) y35 2 [(0, .ref 14), (1, .int v1), (2, .int s)] [] σ v σ := by
  unfold f_Gr_isNamed_d_L2 at h
  refine hl_iload_n (i := 2) d35_2 rfl rfl ?_
  refine hl_aload_n (i := 0) d35_3 rfl rfl (by decide) ?_
  refine hl_gi d35_4 gGr_51_14 ?_
  refine hl_icmp_ge (tg := 28) d35_7 rfl (fun hc => ?_) (fun hc => ?_)
  · have h := hl_pos hc h
    have h := Option.some.inj h
    subst h
    exact hl_loc (k2 rfl) ⟨rfl, rfl, trivial⟩
  · have h := hl_neg hc h
    refine hl_aload_n (i := 0) d35_10 rfl rfl (by decide) ?_
    refine hl_gr d35_11 gGr_9_14 ?_
    refine hl_iload_n (i := 2) d35_14 rfl rfl ?_
    obtain ⟨hb, h⟩ := hl_gd h
    refine hl_iald d35_15 sh15 (hl_b_in hb) ?_
    refine hl_iload_n (i := 1) d35_16 rfl rfl ?_
    refine hl_icmp_ne (tg := 22) d35_17 rfl (fun hc => ?_) (fun hc => ?_)
    · have h := hl_neg hc h
      refine hl_iinc (ls2 := [(2, .int (s + 1)), (0, .ref 14), (1, .int v1)]) d35_22 rfl kx1 (by decide) rfl ?_
      refine hl_goto (tg := 2) d35_25 rfl ?_
      have h := Option.some.inj h
      subst h
      exact hl_loc (k1 (s + 1) rfl) ⟨rfl, rfl, rfl, trivial⟩
    · have h := hl_pos hc h
      refine hl_iconst d35_20 ki1 ?_
      have h := Option.some.inj h
      subst h
      have e1 := kr 1 rfl
      subst e1
      exact hl_zret d35_21 rfl (by decide)
set_option maxRecDepth 20000 in
theorem p_Gr_isNamed_d {X : hl_X} (D : Nat) (v1 : Int32) (σ : hl_M) {r : Int32} (h : f_Gr_isNamed_d v1 σ = some r) : hl_R X (D + 1) y35 0 [(0, .ref 14), (1, .int v1)] [] σ (some (.int r)) σ := by
  unfold f_Gr_isNamed_d at h
  refine hl_iconst d35_0 ki0 ?_
  refine hl_istore_n (i := 2) (ls2 := [(2, .int 0), (0, .ref 14), (1, .int v1)]) d35_1 rfl (by decide) rfl ?_
  obtain ⟨x1, hx1, h⟩ := hl_bind h
  refine hl_R.loc (ls' := [(0, .ref 14), (1, .int v1), (2, .int 0)]) ⟨rfl, rfl, rfl, trivial⟩ ?_
  refine hl_lp_run1 (P := fun (c0 : Int32) => hl_R X (D + 1) y35 2 [(0, .ref 14), (1, .int v1), (2, .int c0)] [] σ (some (.int r)) σ) (Sum.elim (fun x : Unit => hl_R X (D + 1) y35 28 [(0, .ref 14), (1, .int v1)] [] σ (some (.int r)) σ) (fun a : Int32 => ((some (.int r)) : Option Value) = some (.int a))) (fun c0 o ho h1 h2 => p_Gr_isNamed_d_L2 D v1 σ c0 ho h1 (fun e => h2 (.inl ()) e) (fun a e => h2 (.inr (a)) e)) hl_big 0 x1 hx1 ?_
  rcases hl_sum h with ⟨x2, e_x2, h⟩ | ⟨x4, e_x4, h⟩
  · subst e_x2
    refine hl_aload_n (i := 0) d35_28 rfl rfl (by decide) ?_
    refine hl_iload_n (i := 1) d35_29 rfl rfl ?_
    obtain ⟨x3, hx3, h⟩ := hl_bind h
    refine hl_cVi (D := D) (z := y28) (n := 1) (av := [.int v1]) (st := []) d35_30 mlGr_68 rfl (Nat.le_of_ble_eq_true rfl) (Nat.le_of_ble_eq_true rfl) rc14 ((p_Gr_wordNamed_d D v1 σ hx3).dle (by omega)) ?_
    refine hl_iconst d35_33 kim1 ?_
    refine hl_icmp_eq (tg := 41) d35_34 rfl (fun hc => ?_) (fun hc => ?_)
    · have h := hl_pos hc h
      refine hl_iconst d35_41 ki0 ?_
      have h := Option.some.inj h
      subst h
      exact hl_zret d35_42 rfl (by decide)
    · have h := hl_neg hc h
      refine hl_iconst d35_37 ki1 ?_
      refine hl_goto (tg := 42) d35_38 rfl ?_
      have h := Option.some.inj h
      subst h
      exact hl_zret d35_42 rfl (by decide)
  · subst e_x4
    cases h
    rfl
def f_Tl_wantNewName (σ : hl_M) : Option (Int32 × hl_M) :=
  (f_Rd_wantName σ).bind fun x1 =>
  if (f_Rd_failed x1.2) = 0 then
  (f_Gr_isNamed_d x1.1 x1.2).bind fun x2 =>
  if x2 = 0 then
  some ((x1.1, x1.2)) else
  some ((x1.1, f_Rd_fail 3 (x1.2.1 3 6) x1.2)) else
  some ((x1.1, x1.2))
set_option maxRecDepth 20000 in
theorem p_Tl_wantNewName {X : hl_X} (D : Nat) (σ : hl_M) {r : Int32} {τ : hl_M} (h : f_Tl_wantNewName σ = some (r, τ)) : hl_R X (D + 7) y34 0 [(0, .ref 24)] [] σ (some (.int r)) τ := by
  unfold f_Tl_wantNewName at h
  refine hl_aload_n (i := 0) d34_0 rfl rfl (by decide) ?_
  refine hl_gr d34_1 gTl_9_24 ?_
  obtain ⟨x1, hx1, h⟩ := hl_bind h
  refine hl_cVi (D := (D + 6)) (z := y26) (n := 0) (av := []) (st := []) d34_4 mlTl_168 rfl (Nat.le_of_ble_eq_true rfl) (Nat.le_of_ble_eq_true rfl) rc3 ((p_Rd_wantName D σ hx1).dle (by omega)) ?_
  refine hl_istore_n (i := 1) (ls2 := [(1, .int x1.1), (0, .ref 24)]) d34_7 rfl (by decide) rfl ?_
  refine hl_aload_n (i := 0) d34_8 rfl rfl (by decide) ?_
  refine hl_gr d34_9 gTl_9_24 ?_
  refine hl_cVi (D := (D + 6)) (z := y14) (n := 0) (av := []) (st := []) d34_12 mlTl_33 rfl (Nat.le_of_ble_eq_true rfl) (Nat.le_of_ble_eq_true rfl) rc3 ((p_Rd_failed D x1.2 rfl).dle (by omega)) ?_
  refine hl_if_ne (tg := 44) d34_15 rfl (fun hc => ?_) (fun hc => ?_)
  · have h := hl_neg hc h
    refine hl_iload_n (i := 1) d34_44 rfl rfl ?_
    obtain ⟨e1, e2⟩ := hl_some2 h
    subst e1; subst e2
    exact hl_iret d34_45 rfl
  · have h := hl_pos hc h
    refine hl_aload_n (i := 0) d34_18 rfl rfl (by decide) ?_
    refine hl_gr d34_19 gTl_15_24 ?_
    refine hl_iload_n (i := 1) d34_22 rfl rfl ?_
    obtain ⟨x2, hx2, h⟩ := hl_bind h
    refine hl_cVi (D := (D + 6)) (z := y35) (n := 1) (av := [.int x1.1]) (st := []) d34_23 mlTl_186 rfl (Nat.le_of_ble_eq_true rfl) (Nat.le_of_ble_eq_true rfl) rc14 ((p_Gr_isNamed_d D x1.1 x1.2 hx2).dle (by omega)) ?_
    refine hl_if_eq (tg := 44) d34_26 rfl (fun hc => ?_) (fun hc => ?_)
    · have h := hl_pos hc h
      refine hl_iload_n (i := 1) d34_44 rfl rfl ?_
      obtain ⟨e1, e2⟩ := hl_some2 h
      subst e1; subst e2
      exact hl_iret d34_45 rfl
    · have h := hl_neg hc h
      refine hl_aload_n (i := 0) d34_29 rfl rfl (by decide) ?_
      refine hl_gr d34_30 gTl_9_24 ?_
      refine hl_iconst d34_33 ki3 ?_
      refine hl_aload_n (i := 0) d34_34 rfl rfl (by decide) ?_
      refine hl_gr d34_35 gTl_9_24 ?_
      refine hl_gi d34_38 gTl_106_3 ?_
      refine hl_cVv (D := (D + 6)) (z := y23) (n := 2) (av := [.int 3, .int (x1.2.1 3 6)]) (st := []) d34_41 mlTl_70 rfl (Nat.le_of_ble_eq_true rfl) (Nat.le_of_ble_eq_true rfl) rc3 ((p_Rd_fail D 3 (x1.2.1 3 6) x1.2 rfl).dle (by omega)) ?_
      refine hl_iload_n (i := 1) d34_44 rfl rfl ?_
      obtain ⟨e1, e2⟩ := hl_some2 h
      subst e1; subst e2
      exact hl_iret d34_45 rfl
def f_Tl_wantCell (σ : hl_M) : Option (Int32 × hl_M) :=
  (f_Rd_wantNumber 0 ((σ.1 14 0) - 1) σ).bind fun x1 =>
  (f_Rd_wantNumber 0 ((x1.2.1 14 1) - 1) x1.2).bind fun x2 =>
  if (f_Rd_failed x2.2) = 0 then
  some (((x2.1 * (x2.2.1 14 0)) + x1.1, x2.2)) else
  some (((-1), x2.2))
set_option maxRecDepth 20000 in
theorem p_Tl_wantCell {X : hl_X} (D : Nat) (σ : hl_M) {r : Int32} {τ : hl_M} (h : f_Tl_wantCell σ = some (r, τ)) : hl_R X (D + 3) y36 0 [(0, .ref 24)] [] σ (some (.int r)) τ := by
  unfold f_Tl_wantCell at h
  refine hl_aload_n (i := 0) d36_0 rfl rfl (by decide) ?_
  refine hl_gr d36_1 gTl_9_24 ?_
  refine hl_iconst d36_4 ki0 ?_
  refine hl_aload_n (i := 0) d36_5 rfl rfl (by decide) ?_
  refine hl_gr d36_6 gTl_15_24 ?_
  refine hl_gi d36_9 gTl_84_14 ?_
  refine hl_iconst d36_12 ki1 ?_
  refine hl_isub d36_13 ?_
  obtain ⟨x1, hx1, h⟩ := hl_bind h
  refine hl_cVi (D := (D + 2)) (z := y30) (n := 2) (av := [.int 0, .int ((σ.1 14 0) - 1)]) (st := []) d36_14 mlTl_80 rfl (Nat.le_of_ble_eq_true rfl) (Nat.le_of_ble_eq_true rfl) rc3 ((p_Rd_wantNumber D 0 ((σ.1 14 0) - 1) σ hx1).dle (by omega)) ?_
  refine hl_istore_n (i := 1) (ls2 := [(1, .int x1.1), (0, .ref 24)]) d36_17 rfl (by decide) rfl ?_
  refine hl_aload_n (i := 0) d36_18 rfl rfl (by decide) ?_
  refine hl_gr d36_19 gTl_9_24 ?_
  refine hl_iconst d36_22 ki0 ?_
  refine hl_aload_n (i := 0) d36_23 rfl rfl (by decide) ?_
  refine hl_gr d36_24 gTl_15_24 ?_
  refine hl_gi d36_27 gTl_87_14 ?_
  refine hl_iconst d36_30 ki1 ?_
  refine hl_isub d36_31 ?_
  obtain ⟨x2, hx2, h⟩ := hl_bind h
  refine hl_cVi (D := (D + 2)) (z := y30) (n := 2) (av := [.int 0, .int ((x1.2.1 14 1) - 1)]) (st := []) d36_32 mlTl_80 rfl (Nat.le_of_ble_eq_true rfl) (Nat.le_of_ble_eq_true rfl) rc3 ((p_Rd_wantNumber D 0 ((x1.2.1 14 1) - 1) x1.2 hx2).dle (by omega)) ?_
  refine hl_istore_n (i := 2) (ls2 := [(2, .int x2.1), (1, .int x1.1), (0, .ref 24)]) d36_35 rfl (by decide) rfl ?_
  refine hl_aload_n (i := 0) d36_36 rfl rfl (by decide) ?_
  refine hl_gr d36_37 gTl_9_24 ?_
  refine hl_cVi (D := (D + 2)) (z := y14) (n := 0) (av := []) (st := []) d36_40 mlTl_33 rfl (Nat.le_of_ble_eq_true rfl) (Nat.le_of_ble_eq_true rfl) rc3 ((p_Rd_failed D x2.2 rfl).dle (by omega)) ?_
  refine hl_if_eq (tg := 50) d36_43 rfl (fun hc => ?_) (fun hc => ?_)
  · have h := hl_pos hc h
    refine hl_iload_n (i := 2) d36_50 rfl rfl ?_
    refine hl_aload_n (i := 0) d36_51 rfl rfl (by decide) ?_
    refine hl_gr d36_52 gTl_15_24 ?_
    refine hl_gi d36_55 gTl_84_14 ?_
    refine hl_imul d36_58 ?_
    refine hl_iload_n (i := 1) d36_59 rfl rfl ?_
    refine hl_iadd d36_60 ?_
    obtain ⟨e1, e2⟩ := hl_some2 h
    subst e1; subst e2
    exact hl_iret d36_61 rfl
  · have h := hl_neg hc h
    refine hl_iconst d36_46 kim1 ?_
    refine hl_goto (tg := 61) d36_47 rfl ?_
    obtain ⟨e1, e2⟩ := hl_some2 h
    subst e1; subst e2
    exact hl_iret d36_61 rfl
def f_X_lampIn (v0 : Int64) (v2 : Int64) (v4 : Int32) : Int32 :=
  if (v2 &&& ((1 : Int64) <<< (v4.toInt64 &&& 63))) = 0 then
  if (v0 &&& ((1 : Int64) <<< (v4.toInt64 &&& 63))) = 0 then
  0 else
  1 else
  2
set_option maxRecDepth 20000 in
theorem p_X_lampIn {X : hl_X} (D : Nat) (v0 : Int64) (v2 : Int64) (v4 : Int32) (σ : hl_M) {r : Int32} (h : f_X_lampIn v0 v2 v4 = r) : hl_R X D y37 0 [(0, .long v0), (2, .long v2), (4, .int v4)] [] σ (some (.int r)) σ := by
  unfold f_X_lampIn at h
  refine hl_lconst (x := 1) d37_0 (by decide) ?_
  refine hl_iload d37_1 rfl ?_
  refine hl_lshl d37_3 ?_
  refine hl_lstore (ls2 := [(5, .long ((1 : Int64) <<< (v4.toInt64 &&& 63))), (0, .long v0), (2, .long v2), (4, .int v4)]) d37_4 (by decide) rfl ?_
  refine hl_lload_n (i := 2) d37_6 rfl rfl ?_
  refine hl_lload d37_7 rfl ?_
  refine hl_land d37_9 ?_
  refine hl_lconst (x := 0) d37_10 (by decide) ?_
  refine hl_lc_eq (tg := 19) d37_11 d37_12 rfl (fun hc => ?_) (fun hc => ?_)
  · have h := hl_pos hc h
    refine hl_lload_n (i := 0) d37_19 rfl rfl ?_
    refine hl_lload d37_20 rfl ?_
    refine hl_land d37_22 ?_
    refine hl_lconst (x := 0) d37_23 (by decide) ?_
    refine hl_lc_eq (tg := 32) d37_24 d37_25 rfl (fun hc => ?_) (fun hc => ?_)
    · have h := hl_pos hc h
      refine hl_iconst d37_32 ki0 ?_
      subst h
      exact hl_iret d37_33 rfl
    · have h := hl_neg hc h
      refine hl_iconst d37_28 ki1 ?_
      refine hl_goto (tg := 33) d37_29 rfl ?_
      subst h
      exact hl_iret d37_33 rfl
  · have h := hl_neg hc h
    refine hl_iconst d37_15 ki2 ?_
    refine hl_goto (tg := 33) d37_16 rfl ?_
    subst h
    exact hl_iret d37_33 rfl
def f_Tl_tellWord_j105 (v1 : Int32) (v2 : Int64) (v4 : Int64) (v6 : Int32) (v7 : Int32) (σ : hl_M) : Option ((Int64 × Int64 × Int32 × hl_M) ⊕ (Int64 × Int64 × hl_M)) :=
  (f_Rd_wantWord 13 σ).bind fun x5 =>
  (f_Rd_wantNumber 1 2 x5).bind fun x6 =>
  if x6.1 = 1 then
  some (.inl ((v2 ||| ((1 : Int64) <<< (v7.toInt64 &&& 63)), v4, v6 + 1, x6.2))) else
  if x6.1 = 2 then
  some (.inl ((v2, v4 ||| ((1 : Int64) <<< (v7.toInt64 &&& 63)), v6 + 1, x6.2))) else
  some (.inl ((v2, v4, v6 + 1, x6.2)))
def f_Tl_tellWord_j54 (v1 : Int32) (v2 : Int64) (v4 : Int64) (v6 : Int32) (σ : hl_M) : Option ((Int64 × Int64 × Int32 × hl_M) ⊕ (Int64 × Int64 × hl_M)) :=
  (f_Rd_wantWord 12 σ).bind fun x3 =>
  (f_Tl_wantCell x3).bind fun x4 =>
  if (f_Rd_failed x4.2) = 0 then
  if (f_X_lampIn v2 v4 x4.1) = 0 then
  f_Tl_tellWord_j105 v1 v2 v4 v6 x4.1 x4.2 else
  f_Tl_tellWord_j105 v1 v2 v4 v6 x4.1 (f_Rd_fail 2 (x4.2.1 3 6) x4.2) else
  f_Tl_tellWord_j105 v1 v2 v4 v6 x4.1 x4.2
def f_Tl_tellWord_L30 (v1 : Int32) (s : Int64 × Int64 × Int32 × hl_M) : Option ((Int64 × Int64 × Int32 × hl_M) ⊕ (Int64 × Int64 × hl_M)) :=
  if 8 ≤ s.2.2.1 then
  some (.inr (((s.1, s.2.1, s.2.2.2)))) else
  if s.2.2.1 = 0 then
  f_Tl_tellWord_j54 v1 s.1 s.2.1 s.2.2.1 s.2.2.2 else
  (f_Rd_isWord 12 s.2.2.2).bind fun x7 =>
  if x7 = 0 then
  some (.inr (((s.1, s.2.1, s.2.2.2)))) else
  f_Tl_tellWord_j54 v1 s.1 s.2.1 s.2.2.1 s.2.2.2
def f_Tl_tellWord (σ : hl_M) : Option (hl_M) :=
  (f_Tl_startsOneOf (σ.1 14 8) 8 σ).bind fun x1 =>
  if x1.1 = 0 then
  some x1.2 else
  (f_Tl_wantNewName x1.2).bind fun x2 =>
  (hl_lp (f_Tl_tellWord_L30 x2.1) hl_big ((0, 0, 0, x2.2))).bind fun x8 =>
  (f_Rd_wantSign 59 x8.2.2).bind fun x9 =>
  if (f_Rd_failed x9) = 0 then
  if (f_X_within (x9.1 14 8) 8) = 0 then
  some x9 else
  if hl_b (x9.1 14 8) 8 then
  if hl_b ((hl_si x9 19 (x9.1 14 8).toNatClampNeg x2.1).1 14 8) 8 then
  if hl_b ((hl_sl (hl_si x9 19 (x9.1 14 8).toNatClampNeg x2.1) 20 ((hl_si x9 19 (x9.1 14 8).toNatClampNeg x2.1).1 14 8).toNatClampNeg x8.1).1 14 8) 8 then
  hl_let (hl_si (hl_sl (hl_sl (hl_si x9 19 (x9.1 14 8).toNatClampNeg x2.1) 20 ((hl_si x9 19 (x9.1 14 8).toNatClampNeg x2.1).1 14 8).toNatClampNeg x8.1) 21 ((hl_sl (hl_si x9 19 (x9.1 14 8).toNatClampNeg x2.1) 20 ((hl_si x9 19 (x9.1 14 8).toNatClampNeg x2.1).1 14 8).toNatClampNeg x8.1).1 14 8).toNatClampNeg x8.2.1) 14 8 (((hl_sl (hl_sl (hl_si x9 19 (x9.1 14 8).toNatClampNeg x2.1) 20 ((hl_si x9 19 (x9.1 14 8).toNatClampNeg x2.1).1 14 8).toNatClampNeg x8.1) 21 ((hl_sl (hl_si x9 19 (x9.1 14 8).toNatClampNeg x2.1) 20 ((hl_si x9 19 (x9.1 14 8).toNatClampNeg x2.1).1 14 8).toNatClampNeg x8.1).1 14 8).toNatClampNeg x8.2.1).1 14 8) + 1)) (fun σ10 =>
  some σ10) else none else none else none else
  some x9
set_option maxRecDepth 20000 in
theorem p_Tl_tellWord_j105 {X : hl_X} (D : Nat) (v1 : Int32) (v2 : Int64) (v4 : Int64) (v6 : Int32) (v7 : Int32) (σ : hl_M) {o : (Int64 × Int64 × Int32 × hl_M) ⊕ (Int64 × Int64 × hl_M)} {v : Option Value} {τ : hl_M} (h : f_Tl_tellWord_j105 v1 v2 v4 v6 v7 σ = some o) (k1 : ∀ (c0 : Int64) (c1 : Int64) (c2 : Int32) (c3 : hl_M), o = .inl ((c0, c1, c2, c3)) → hl_R X (D + 8) y33 30 [(0, .ref 24), (1, .int v1), (2, .long c0), (4, .long c1), (6, .int c2)] [] c3 v τ) (k2 : ∀ (a0 : Int64) (a1 : Int64) (a2 : hl_M), o = .inr ((a0, a1, a2)) → hl_R X (D + 8) y33 162 [(0, .ref 24), (1, .int v1), (2, .long a0), (4, .long a1)] [] a2 v τ) : hl_R X (D + 8) y33 105 [(0, .ref 24), (1, .int v1), (2, .long v2), (4, .long v4), (6, .int v6), (7, .int v7)] [] σ v τ := by
  unfold f_Tl_tellWord_j105 at h
  refine hl_aload_n (i := 0) d33_105 rfl rfl (by decide) ?_
  refine hl_gr d33_106 gTl_9_24 ?_
  refine hl_ldcS (j := 13) d33_109 (by decide) ⟨rfl, rfl⟩ ?_
  obtain ⟨x5, hx5, h⟩ := hl_bind h
  refine hl_cVv (D := (D + 7)) (z := y29) (n := 1) (av := [.ref 213]) (st := []) d33_111 mlTl_76 rfl (Nat.le_of_ble_eq_true rfl) (Nat.le_of_ble_eq_true rfl) rc3 ((p_Rd_wantWord D 13 (by decide) σ hx5).dle (by omega)) ?_
  refine hl_aload_n (i := 0) d33_114 rfl rfl (by decide) ?_
  refine hl_gr d33_115 gTl_9_24 ?_
  refine hl_iconst d33_118 ki1 ?_
  refine hl_iconst d33_119 ki2 ?_
  obtain ⟨x6, hx6, h⟩ := hl_bind h
  refine hl_cVi (D := (D + 7)) (z := y30) (n := 2) (av := [.int 1, .int 2]) (st := []) d33_120 mlTl_80 rfl (Nat.le_of_ble_eq_true rfl) (Nat.le_of_ble_eq_true rfl) rc3 ((p_Rd_wantNumber D 1 2 x5 hx6).dle (by omega)) ?_
  refine hl_istore (ls2 := [(8, .int x6.1), (0, .ref 24), (1, .int v1), (2, .long v2), (4, .long v4), (6, .int v6), (7, .int v7)]) d33_123 (by decide) rfl ?_
  refine hl_iload d33_125 rfl ?_
  refine hl_iconst d33_127 ki1 ?_
  refine hl_icmp_ne (tg := 141) d33_128 rfl (fun hc => ?_) (fun hc => ?_)
  · have h := hl_neg hc h
    refine hl_iload d33_141 rfl ?_
    refine hl_iconst d33_143 ki2 ?_
    refine hl_icmp_ne (tg := 156) d33_144 rfl (fun hc => ?_) (fun hc => ?_)
    · have h := hl_neg hc h
      refine hl_iinc (ls2 := [(6, .int (v6 + 1)), (8, .int x6.1), (0, .ref 24), (1, .int v1), (2, .long v2), (4, .long v4), (7, .int v7)]) d33_156 rfl kx1 (by decide) rfl ?_
      refine hl_goto (tg := 30) d33_159 rfl ?_
      have h := Option.some.inj h
      subst h
      exact hl_loc (k1 v2 v4 (v6 + 1) x6.2 rfl) ⟨rfl, rfl, rfl, rfl, rfl, trivial⟩
    · have h := hl_pos hc h
      refine hl_lload d33_147 rfl ?_
      refine hl_lconst (x := 1) d33_149 (by decide) ?_
      refine hl_iload d33_150 rfl ?_
      refine hl_lshl d33_152 ?_
      refine hl_lor d33_153 ?_
      refine hl_lstore (ls2 := [(4, .long (v4 ||| ((1 : Int64) <<< (v7.toInt64 &&& 63)))), (8, .int x6.1), (0, .ref 24), (1, .int v1), (2, .long v2), (6, .int v6), (7, .int v7)]) d33_154 (by decide) rfl ?_
      refine hl_iinc (ls2 := [(6, .int (v6 + 1)), (4, .long (v4 ||| ((1 : Int64) <<< (v7.toInt64 &&& 63)))), (8, .int x6.1), (0, .ref 24), (1, .int v1), (2, .long v2), (7, .int v7)]) d33_156 rfl kx1 (by decide) rfl ?_
      refine hl_goto (tg := 30) d33_159 rfl ?_
      have h := Option.some.inj h
      subst h
      exact hl_loc (k1 v2 (v4 ||| ((1 : Int64) <<< (v7.toInt64 &&& 63))) (v6 + 1) x6.2 rfl) ⟨rfl, rfl, rfl, rfl, rfl, trivial⟩
  · have h := hl_pos hc h
    refine hl_lload_n (i := 2) d33_131 rfl rfl ?_
    refine hl_lconst (x := 1) d33_132 (by decide) ?_
    refine hl_iload d33_133 rfl ?_
    refine hl_lshl d33_135 ?_
    refine hl_lor d33_136 ?_
    refine hl_lstore_n (i := 2) (ls2 := [(2, .long (v2 ||| ((1 : Int64) <<< (v7.toInt64 &&& 63)))), (8, .int x6.1), (0, .ref 24), (1, .int v1), (4, .long v4), (6, .int v6), (7, .int v7)]) d33_137 rfl (by decide) rfl ?_
    refine hl_goto (tg := 156) d33_138 rfl ?_
    refine hl_iinc (ls2 := [(6, .int (v6 + 1)), (2, .long (v2 ||| ((1 : Int64) <<< (v7.toInt64 &&& 63)))), (8, .int x6.1), (0, .ref 24), (1, .int v1), (4, .long v4), (7, .int v7)]) d33_156 rfl kx1 (by decide) rfl ?_
    refine hl_goto (tg := 30) d33_159 rfl ?_
    have h := Option.some.inj h
    subst h
    exact hl_loc (k1 (v2 ||| ((1 : Int64) <<< (v7.toInt64 &&& 63))) v4 (v6 + 1) x6.2 rfl) ⟨rfl, rfl, rfl, rfl, rfl, trivial⟩
set_option maxRecDepth 20000 in
theorem p_Tl_tellWord_j54 {X : hl_X} (D : Nat) (v1 : Int32) (v2 : Int64) (v4 : Int64) (v6 : Int32) (σ : hl_M) {o : (Int64 × Int64 × Int32 × hl_M) ⊕ (Int64 × Int64 × hl_M)} {v : Option Value} {τ : hl_M} (h : f_Tl_tellWord_j54 v1 v2 v4 v6 σ = some o) (k1 : ∀ (c0 : Int64) (c1 : Int64) (c2 : Int32) (c3 : hl_M), o = .inl ((c0, c1, c2, c3)) → hl_R X (D + 8) y33 30 [(0, .ref 24), (1, .int v1), (2, .long c0), (4, .long c1), (6, .int c2)] [] c3 v τ) (k2 : ∀ (a0 : Int64) (a1 : Int64) (a2 : hl_M), o = .inr ((a0, a1, a2)) → hl_R X (D + 8) y33 162 [(0, .ref 24), (1, .int v1), (2, .long a0), (4, .long a1)] [] a2 v τ) : hl_R X (D + 8) y33 54 [(0, .ref 24), (1, .int v1), (2, .long v2), (4, .long v4), (6, .int v6)] [] σ v τ := by
  unfold f_Tl_tellWord_j54 at h
  refine hl_aload_n (i := 0) d33_54 rfl rfl (by decide) ?_
  refine hl_gr d33_55 gTl_9_24 ?_
  refine hl_ldcS (j := 12) d33_58 (by decide) ⟨rfl, rfl⟩ ?_
  obtain ⟨x3, hx3, h⟩ := hl_bind h
  refine hl_cVv (D := (D + 7)) (z := y29) (n := 1) (av := [.ref 212]) (st := []) d33_60 mlTl_76 rfl (Nat.le_of_ble_eq_true rfl) (Nat.le_of_ble_eq_true rfl) rc3 ((p_Rd_wantWord D 12 (by decide) σ hx3).dle (by omega)) ?_
  refine hl_aload_n (i := 0) d33_63 rfl rfl (by decide) ?_
  obtain ⟨x4, hx4, h⟩ := hl_bind h
  refine hl_cVi (D := (D + 7)) (z := y36) (n := 0) (av := []) (st := []) d33_64 mlTl_98 rfl (Nat.le_of_ble_eq_true rfl) (Nat.le_of_ble_eq_true rfl) rc24 ((p_Tl_wantCell D x3 hx4).dle (by omega)) ?_
  refine hl_istore (ls2 := [(7, .int x4.1), (0, .ref 24), (1, .int v1), (2, .long v2), (4, .long v4), (6, .int v6)]) d33_67 (by decide) rfl ?_
  refine hl_aload_n (i := 0) d33_69 rfl rfl (by decide) ?_
  refine hl_gr d33_70 gTl_9_24 ?_
  refine hl_cVi (D := (D + 7)) (z := y14) (n := 0) (av := []) (st := []) d33_73 mlTl_33 rfl (Nat.le_of_ble_eq_true rfl) (Nat.le_of_ble_eq_true rfl) rc3 ((p_Rd_failed D x4.2 rfl).dle (by omega)) ?_
  refine hl_if_ne (tg := 105) d33_76 rfl (fun hc => ?_) (fun hc => ?_)
  · have h := hl_neg hc h
    exact hl_loc (p_Tl_tellWord_j105 D v1 v2 v4 v6 x4.1 x4.2 h k1 k2) ⟨rfl, rfl, rfl, rfl, rfl, rfl, trivial⟩
  · have h := hl_pos hc h
    refine hl_lload_n (i := 2) d33_79 rfl rfl ?_
    refine hl_lload d33_80 rfl ?_
    refine hl_iload d33_82 rfl ?_
    refine hl_cNi (D := (D + 7)) (z := y37) (n := 3) (av := [.long v2, .long v4, .int x4.1]) (st := []) d33_84 mlTl_152 rfl (Nat.le_of_ble_eq_true rfl) (Nat.le_of_ble_eq_true rfl) ((p_X_lampIn D v2 v4 x4.1 x4.2 rfl).dle (by omega)) ?_
    refine hl_if_eq (tg := 105) d33_87 rfl (fun hc => ?_) (fun hc => ?_)
    · have h := hl_pos hc h
      exact hl_loc (p_Tl_tellWord_j105 D v1 v2 v4 v6 x4.1 x4.2 h k1 k2) ⟨rfl, rfl, rfl, rfl, rfl, rfl, trivial⟩
    · have h := hl_neg hc h
      refine hl_aload_n (i := 0) d33_90 rfl rfl (by decide) ?_
      refine hl_gr d33_91 gTl_9_24 ?_
      refine hl_iconst d33_94 ki2 ?_
      refine hl_aload_n (i := 0) d33_95 rfl rfl (by decide) ?_
      refine hl_gr d33_96 gTl_9_24 ?_
      refine hl_gi d33_99 gTl_106_3 ?_
      refine hl_cVv (D := (D + 7)) (z := y23) (n := 2) (av := [.int 2, .int (x4.2.1 3 6)]) (st := []) d33_102 mlTl_70 rfl (Nat.le_of_ble_eq_true rfl) (Nat.le_of_ble_eq_true rfl) rc3 ((p_Rd_fail D 2 (x4.2.1 3 6) x4.2 rfl).dle (by omega)) ?_
      exact hl_loc (p_Tl_tellWord_j105 D v1 v2 v4 v6 x4.1 (f_Rd_fail 2 (x4.2.1 3 6) x4.2) h k1 k2) ⟨rfl, rfl, rfl, rfl, rfl, rfl, trivial⟩
set_option maxRecDepth 20000 in
theorem p_Tl_tellWord_L30 {X : hl_X} (D : Nat) (v1 : Int32) (s : Int64 × Int64 × Int32 × hl_M) {o : (Int64 × Int64 × Int32 × hl_M) ⊕ (Int64 × Int64 × hl_M)} {v : Option Value} {τ : hl_M} (h : f_Tl_tellWord_L30 v1 s = some o) (k1 : ∀ (c0 : Int64) (c1 : Int64) (c2 : Int32) (c3 : hl_M), o = .inl ((c0, c1, c2, c3)) → hl_R X (D + 8) y33 30 [(0, .ref 24), (1, .int v1), (2, .long c0), (4, .long c1), (6, .int c2)] [] c3 v τ) (k2 : ∀ (a0 : Int64) (a1 : Int64) (a2 : hl_M), o = .inr ((a0, a1, a2)) → hl_R X (D + 8) y33 162 [(0, .ref 24), (1, .int v1), (2, .long a0), (4, .long a1)] [] a2 v τ) : hl_R X (D + 8) y33 30 [(0, .ref 24), (1, .int v1), (2, .long s.1), (4, .long s.2.1), (6, .int s.2.2.1)] [] s.2.2.2 v τ := by
  unfold f_Tl_tellWord_L30 at h
  refine hl_iload d33_30 rfl ?_
  refine hl_bipush d33_32 kb8 ?_
  refine hl_icmp_ge (tg := 162) d33_34 rfl (fun hc => ?_) (fun hc => ?_)
  · have h := hl_pos hc h
    have h := Option.some.inj h
    subst h
    exact hl_loc (k2 s.1 s.2.1 s.2.2.2 rfl) ⟨rfl, rfl, rfl, rfl, trivial⟩
  · have h := hl_neg hc h
    refine hl_iload d33_37 rfl ?_
    refine hl_if_eq (tg := 54) d33_39 rfl (fun hc => ?_) (fun hc => ?_)
    · have h := hl_pos hc h
      exact hl_loc (p_Tl_tellWord_j54 D v1 s.1 s.2.1 s.2.2.1 s.2.2.2 h k1 k2) ⟨rfl, rfl, rfl, rfl, rfl, trivial⟩
    · have h := hl_neg hc h
      refine hl_aload_n (i := 0) d33_42 rfl rfl (by decide) ?_
      refine hl_gr d33_43 gTl_9_24 ?_
      refine hl_ldcS (j := 12) d33_46 (by decide) ⟨rfl, rfl⟩ ?_
      obtain ⟨x7, hx7, h⟩ := hl_bind h
      refine hl_cVi (D := (D + 7)) (z := y15) (n := 1) (av := [.ref 212]) (st := []) d33_48 mlTl_45 rfl (Nat.le_of_ble_eq_true rfl) (Nat.le_of_ble_eq_true rfl) rc3 ((p_Rd_isWord D 12 (by decide) s.2.2.2 hx7).dle (by omega)) ?_
      refine hl_if_eq (tg := 162) d33_51 rfl (fun hc => ?_) (fun hc => ?_)
      · have h := hl_pos hc h
        have h := Option.some.inj h
        subst h
        exact hl_loc (k2 s.1 s.2.1 s.2.2.2 rfl) ⟨rfl, rfl, rfl, rfl, trivial⟩
      · have h := hl_neg hc h
        exact hl_loc (p_Tl_tellWord_j54 D v1 s.1 s.2.1 s.2.2.1 s.2.2.2 h k1 k2) ⟨rfl, rfl, rfl, rfl, rfl, trivial⟩
set_option maxRecDepth 20000 in
theorem p_Tl_tellWord {X : hl_X} (D : Nat) (σ : hl_M) {τ : hl_M} (h : f_Tl_tellWord σ = some τ) : hl_R X (D + 8) y33 0 [(0, .ref 24)] [] σ none τ := by
  unfold f_Tl_tellWord at h
  refine hl_aload_n (i := 0) d33_0 rfl rfl (by decide) ?_
  refine hl_aload_n (i := 0) d33_1 rfl rfl (by decide) ?_
  refine hl_gr d33_2 gTl_15_24 ?_
  refine hl_gi d33_5 gTl_149_14 ?_
  refine hl_bipush d33_8 kb8 ?_
  obtain ⟨x1, hx1, h⟩ := hl_bind h
  refine hl_cVi (D := (D + 7)) (z := y25) (n := 2) (av := [.int (σ.1 14 8), .int 8]) (st := []) d33_10 mlTl_94 rfl (Nat.le_of_ble_eq_true rfl) (Nat.le_of_ble_eq_true rfl) rc24 ((p_Tl_startsOneOf D (σ.1 14 8) 8 σ hx1).dle (by omega)) ?_
  refine hl_if_ne (tg := 17) d33_13 rfl (fun hc => ?_) (fun hc => ?_)
  · have h := hl_neg hc h
    refine hl_aload_n (i := 0) d33_17 rfl rfl (by decide) ?_
    obtain ⟨x2, hx2, h⟩ := hl_bind h
    refine hl_cVi (D := (D + 7)) (z := y34) (n := 0) (av := []) (st := []) d33_18 mlTl_116 rfl (Nat.le_of_ble_eq_true rfl) (Nat.le_of_ble_eq_true rfl) rc24 ((p_Tl_wantNewName D x1.2 hx2).dle (by omega)) ?_
    refine hl_istore_n (i := 1) (ls2 := [(1, .int x2.1), (0, .ref 24)]) d33_21 rfl (by decide) rfl ?_
    refine hl_lconst (x := 0) d33_22 (by decide) ?_
    refine hl_lstore_n (i := 2) (ls2 := [(2, .long 0), (1, .int x2.1), (0, .ref 24)]) d33_23 rfl (by decide) rfl ?_
    refine hl_lconst (x := 0) d33_24 (by decide) ?_
    refine hl_lstore (ls2 := [(4, .long 0), (2, .long 0), (1, .int x2.1), (0, .ref 24)]) d33_25 (by decide) rfl ?_
    refine hl_iconst d33_27 ki0 ?_
    refine hl_istore (ls2 := [(6, .int 0), (4, .long 0), (2, .long 0), (1, .int x2.1), (0, .ref 24)]) d33_28 (by decide) rfl ?_
    obtain ⟨x8, hx8, h⟩ := hl_bind h
    refine hl_R.loc (ls' := [(0, .ref 24), (1, .int x2.1), (2, .long 0), (4, .long 0), (6, .int 0)]) ⟨rfl, rfl, rfl, rfl, rfl, trivial⟩ ?_
    refine hl_lp_run4 (P := fun (c0 : Int64) (c1 : Int64) (c2 : Int32) (c3 : hl_M) => hl_R X (D + 8) y33 30 [(0, .ref 24), (1, .int x2.1), (2, .long c0), (4, .long c1), (6, .int c2)] [] c3 none τ) (fun x : Int64 × Int64 × hl_M => hl_R X (D + 8) y33 162 [(0, .ref 24), (1, .int x2.1), (2, .long x.1), (4, .long x.2.1)] [] x.2.2 none τ) (fun c0 c1 c2 c3 o ho h1 h2 => p_Tl_tellWord_L30 D x2.1 (c0, c1, c2, c3) ho h1 (fun a0 a1 a2 e => h2 ((a0, a1, a2)) e)) hl_big 0 0 0 x2.2 x8 hx8 ?_
    refine hl_aload_n (i := 0) d33_162 rfl rfl (by decide) ?_
    refine hl_gr d33_163 gTl_9_24 ?_
    refine hl_bipush d33_166 kb59 ?_
    obtain ⟨x9, hx9, h⟩ := hl_bind h
    refine hl_cVv (D := (D + 7)) (z := y31) (n := 1) (av := [.int 59]) (st := []) d33_168 mlTl_90 rfl (Nat.le_of_ble_eq_true rfl) (Nat.le_of_ble_eq_true rfl) rc3 ((p_Rd_wantSign D 59 x8.2.2 hx9).dle (by omega)) ?_
    refine hl_aload_n (i := 0) d33_171 rfl rfl (by decide) ?_
    refine hl_gr d33_172 gTl_9_24 ?_
    refine hl_cVi (D := (D + 7)) (z := y14) (n := 0) (av := []) (st := []) d33_175 mlTl_33 rfl (Nat.le_of_ble_eq_true rfl) (Nat.le_of_ble_eq_true rfl) rc3 ((p_Rd_failed D x9 rfl).dle (by omega)) ?_
    refine hl_if_ne (tg := 258) d33_178 rfl (fun hc => ?_) (fun hc => ?_)
    · have h := hl_neg hc h
      have h := Option.some.inj h
      subst h
      exact hl_vret d33_258 rfl
    · have h := hl_pos hc h
      refine hl_aload_n (i := 0) d33_181 rfl rfl (by decide) ?_
      refine hl_gr d33_182 gTl_15_24 ?_
      refine hl_gi d33_185 gTl_149_14 ?_
      refine hl_bipush d33_188 kb8 ?_
      refine hl_cNi (D := (D + 7)) (z := y2) (n := 2) (av := [.int (x9.1 14 8), .int 8]) (st := []) d33_190 mlTl_132 rfl (Nat.le_of_ble_eq_true rfl) (Nat.le_of_ble_eq_true rfl) ((p_X_within D (x9.1 14 8) 8 x9 rfl).dle (by omega)) ?_
      refine hl_if_eq (tg := 258) d33_193 rfl (fun hc => ?_) (fun hc => ?_)
      · have h := hl_pos hc h
        have h := Option.some.inj h
        subst h
        exact hl_vret d33_258 rfl
      · have h := hl_neg hc h
        refine hl_aload_n (i := 0) d33_196 rfl rfl (by decide) ?_
        refine hl_gr d33_197 gTl_15_24 ?_
        refine hl_gr d33_200 gTl_156_14 ?_
        refine hl_aload_n (i := 0) d33_203 rfl rfl (by decide) ?_
        refine hl_gr d33_204 gTl_15_24 ?_
        refine hl_gi d33_207 gTl_149_14 ?_
        refine hl_iload_n (i := 1) d33_210 rfl rfl ?_
        obtain ⟨hb, h⟩ := hl_gd h
        refine hl_iast (q := 19) d33_211 sh19 (hl_b_in hb) ?_
        refine hl_aload_n (i := 0) d33_212 rfl rfl (by decide) ?_
        refine hl_gr d33_213 gTl_15_24 ?_
        refine hl_gr d33_216 gTl_159_14 ?_
        refine hl_aload_n (i := 0) d33_219 rfl rfl (by decide) ?_
        refine hl_gr d33_220 gTl_15_24 ?_
        refine hl_gi d33_223 gTl_149_14 ?_
        refine hl_lload_n (i := 2) d33_226 rfl rfl ?_
        obtain ⟨hb, h⟩ := hl_gd h
        refine hl_last (q := 20) d33_227 sh20 (hl_b_in hb) ?_
        refine hl_aload_n (i := 0) d33_228 rfl rfl (by decide) ?_
        refine hl_gr d33_229 gTl_15_24 ?_
        refine hl_gr d33_232 gTl_162_14 ?_
        refine hl_aload_n (i := 0) d33_235 rfl rfl (by decide) ?_
        refine hl_gr d33_236 gTl_15_24 ?_
        refine hl_gi d33_239 gTl_149_14 ?_
        refine hl_lload d33_242 rfl ?_
        obtain ⟨hb, h⟩ := hl_gd h
        refine hl_last (q := 21) d33_244 sh21 (hl_b_in hb) ?_
        refine hl_aload_n (i := 0) d33_245 rfl rfl (by decide) ?_
        refine hl_gr d33_246 gTl_15_24 ?_
        refine hl_dup d33_249 rfl ?_
        refine hl_gi d33_250 gTl_149_14 ?_
        refine hl_iconst d33_253 ki1 ?_
        refine hl_iadd d33_254 ?_
        refine hl_pi d33_255 qTl_149_14 ?_
        refine hl_nmm h (fun σ10 h => ?_)
        have h := Option.some.inj h
        subst h
        exact hl_vret d33_258 rfl
  · have h := hl_pos hc h
    have h := Option.some.inj h
    subst h
    exact hl_vret d33_16 rfl
def f_SL_canEncode (v0 : Int32) : Int32 :=
  if v0 < 0 then
  0 else
  if 255 < v0 then
  0 else
  1
set_option maxRecDepth 20000 in
theorem p_SL_canEncode {X : hl_X} (D : Nat) (v0 : Int32) (σ : hl_M) {r : Int32} (h : f_SL_canEncode v0 = r) : hl_R X D y44 0 [(0, .int v0)] [] σ (some (.int r)) σ := by
  unfold f_SL_canEncode at h
  refine hl_iload_n (i := 0) d44_0 rfl rfl ?_
  refine hl_if_lt (tg := 15) d44_1 rfl (fun hc => ?_) (fun hc => ?_)
  · have h := hl_pos hc h
    refine hl_iconst d44_15 ki0 ?_
    subst h
    exact hl_zret d44_16 rfl (by decide)
  · have h := hl_neg hc h
    refine hl_iload_n (i := 0) d44_4 rfl rfl ?_
    refine hl_sipush d44_5 ks255 ?_
    refine hl_icmp_gt (tg := 15) d44_8 rfl (fun hc => ?_) (fun hc => ?_)
    · have h := hl_pos hc h
      refine hl_iconst d44_15 ki0 ?_
      subst h
      exact hl_zret d44_16 rfl (by decide)
    · have h := hl_neg hc h
      refine hl_iconst d44_11 ki1 ?_
      refine hl_goto (tg := 16) d44_12 rfl ?_
      subst h
      exact hl_zret d44_16 rfl (by decide)
def f_Math_max_III (v0 : Int32) (v1 : Int32) : Int32 :=
  if v0 < v1 then
  v1 else
  v0
set_option maxRecDepth 20000 in
theorem p_Math_max_III {X : hl_X} (D : Nat) (v0 : Int32) (v1 : Int32) (σ : hl_M) {r : Int32} (h : f_Math_max_III v0 v1 = r) : hl_R X D y45 0 [(0, .int v0), (1, .int v1)] [] σ (some (.int r)) σ := by
  unfold f_Math_max_III at h
  refine hl_iload_n (i := 0) d45_0 rfl rfl ?_
  refine hl_iload_n (i := 1) d45_1 rfl rfl ?_
  refine hl_icmp_lt (tg := 9) d45_2 rfl (fun hc => ?_) (fun hc => ?_)
  · have h := hl_pos hc h
    refine hl_iload_n (i := 1) d45_9 rfl rfl ?_
    subst h
    exact hl_iret d45_10 rfl
  · have h := hl_neg hc h
    refine hl_iload_n (i := 0) d45_5 rfl rfl ?_
    refine hl_goto (tg := 10) d45_6 rfl ?_
    subst h
    exact hl_iret d45_10 rfl
def f_Math_min_III (v0 : Int32) (v1 : Int32) : Int32 :=
  if v1 < v0 then
  v1 else
  v0
set_option maxRecDepth 20000 in
theorem p_Math_min_III {X : hl_X} (D : Nat) (v0 : Int32) (v1 : Int32) (σ : hl_M) {r : Int32} (h : f_Math_min_III v0 v1 = r) : hl_R X D y46 0 [(0, .int v0), (1, .int v1)] [] σ (some (.int r)) σ := by
  unfold f_Math_min_III at h
  refine hl_iload_n (i := 0) d46_0 rfl rfl ?_
  refine hl_iload_n (i := 1) d46_1 rfl rfl ?_
  refine hl_icmp_gt (tg := 9) d46_2 rfl (fun hc => ?_) (fun hc => ?_)
  · have h := hl_pos hc h
    refine hl_iload_n (i := 1) d46_9 rfl rfl ?_
    subst h
    exact hl_iret d46_10 rfl
  · have h := hl_neg hc h
    refine hl_iload_n (i := 0) d46_5 rfl rfl ?_
    refine hl_goto (tg := 10) d46_6 rfl ?_
    subst h
    exact hl_iret d46_10 rfl
def f_SL_indexOfChar_L7 (j0 : Nat) (v3 : Int32) (v4 : Int32) (σ : hl_M) (s : Int32) : Option ((Int32) ⊕ ((Unit) ⊕ (Int32))) :=
  if v3 ≤ s then
  some (.inr (.inl (()))) else
  if hl_b s (hl_sB j0).length then
  if ((hl_sB j0).getD s.toNatClampNeg 0) = v4 then
  some (.inr (.inr (s))) else
  some (.inl (s + 1)) else none
def f_SL_indexOfChar (j0 : Nat) (v1 : Int32) (v2 : Int32) (v3 : Int32) (σ : hl_M) : Option (Int32) :=
  (hl_lp (f_SL_indexOfChar_L7 j0 v3 v1.toInt8.toInt32 σ) hl_big v2).bind fun x1 =>
  Sum.elim (fun x2 =>
  some ((-1))) (fun x3 =>
  some x3) x1
set_option maxRecDepth 20000 in
theorem p_SL_indexOfChar_L7 {X : hl_X} (D : Nat) (j0 : Nat) (hj0 : j0 < hl_nS) (v3 : Int32) (v4 : Int32) (σ : hl_M) (s : Int32) {o : (Int32) ⊕ ((Unit) ⊕ (Int32))} {v : Option Value} (h : f_SL_indexOfChar_L7 j0 v3 v4 σ s = some o) (k1 : ∀ (c0 : Int32), o = .inl c0 → hl_R X D y47 7 [(0, .ref (300 + j0)), (3, .int v3), (4, .int v4), (5, .int c0)] [] σ v σ) (k2 : o = .inr (.inl ()) → hl_R X D y47 31 [] [] σ v σ) (kr : ∀ (a : Int32), o = .inr (.inr (a)) → v = some (.int a)) : hl_R X D y47 7 [(0, .ref (300 + j0)), (3, .int v3), (4, .int v4), (5, .int s)] [] σ v σ := by
  unfold f_SL_indexOfChar_L7 at h
  refine hl_iload d47_7 rfl ?_
  refine hl_iload_n (i := 3) d47_9 rfl rfl ?_
  refine hl_icmp_ge (tg := 31) d47_10 rfl (fun hc => ?_) (fun hc => ?_)
  · have h := hl_pos hc h
    have h := Option.some.inj h
    subst h
    exact hl_loc (k2 rfl) trivial
  · have h := hl_neg hc h
    refine hl_aload_n (i := 0) d47_13 rfl rfl (hl_nS9 hj0).2 ?_
    refine hl_iload d47_14 rfl ?_
    obtain ⟨hb, h⟩ := hl_gd h
    refine hl_balR d47_16 (hsb hj0) (hl_b_in hb) ?_
    refine hl_iload d47_17 rfl ?_
    refine hl_icmp_ne (tg := 25) d47_19 rfl (fun hc => ?_) (fun hc => ?_)
    · have h := hl_neg hc h
      refine hl_iinc (ls2 := [(5, .int (s + 1)), (0, .ref (300 + j0)), (3, .int v3), (4, .int v4)]) d47_25 rfl kx1 (by decide) rfl ?_
      refine hl_goto (tg := 7) d47_28 rfl ?_
      have h := Option.some.inj h
      subst h
      exact hl_loc (k1 (s + 1) rfl) ⟨rfl, rfl, rfl, rfl, trivial⟩
    · have h := hl_pos hc h
      refine hl_iload d47_22 rfl ?_
      have h := Option.some.inj h
      subst h
      have e1 := kr s rfl
      subst e1
      exact hl_iret d47_24 rfl
set_option maxRecDepth 20000 in
theorem p_SL_indexOfChar {X : hl_X} (D : Nat) (j0 : Nat) (hj0 : j0 < hl_nS) (v1 : Int32) (v2 : Int32) (v3 : Int32) (σ : hl_M) {r : Int32} (h : f_SL_indexOfChar j0 v1 v2 v3 σ = some r) : hl_R X D y47 0 [(0, .ref (300 + j0)), (1, .int v1), (2, .int v2), (3, .int v3)] [] σ (some (.int r)) σ := by
  unfold f_SL_indexOfChar at h
  refine hl_iload_n (i := 1) d47_0 rfl rfl ?_
  refine hl_i2b d47_1 ?_
  refine hl_istore (ls2 := [(4, .int v1.toInt8.toInt32), (0, .ref (300 + j0)), (1, .int v1), (2, .int v2), (3, .int v3)]) d47_2 (by decide) rfl ?_
  refine hl_iload_n (i := 2) d47_4 rfl rfl ?_
  refine hl_istore (ls2 := [(5, .int v2), (4, .int v1.toInt8.toInt32), (0, .ref (300 + j0)), (1, .int v1), (2, .int v2), (3, .int v3)]) d47_5 (by decide) rfl ?_
  obtain ⟨x1, hx1, h⟩ := hl_bind h
  refine hl_R.loc (ls' := [(0, .ref (300 + j0)), (3, .int v3), (4, .int v1.toInt8.toInt32), (5, .int v2)]) ⟨rfl, rfl, rfl, rfl, trivial⟩ ?_
  refine hl_lp_run1 (P := fun (c0 : Int32) => hl_R X D y47 7 [(0, .ref (300 + j0)), (3, .int v3), (4, .int v1.toInt8.toInt32), (5, .int c0)] [] σ (some (.int r)) σ) (Sum.elim (fun x : Unit => hl_R X D y47 31 [] [] σ (some (.int r)) σ) (fun a : Int32 => ((some (.int r)) : Option Value) = some (.int a))) (fun c0 o ho h1 h2 => p_SL_indexOfChar_L7 D j0 hj0 v3 v1.toInt8.toInt32 σ c0 ho h1 (fun e => h2 (.inl ()) e) (fun a e => h2 (.inr (a)) e)) hl_big v2 x1 hx1 ?_
  rcases hl_sum h with ⟨x2, e_x2, h⟩ | ⟨x3, e_x3, h⟩
  · subst e_x2
    refine hl_iconst d47_31 kim1 ?_
    have h := Option.some.inj h
    subst h
    exact hl_iret d47_32 rfl
  · subst e_x3
    cases h
    rfl
def f_SL_indexOf (j0 : Nat) (v1 : Int32) (v2 : Int32) (v3 : Int32) (σ : hl_M) : Option (Int32) :=
  if (f_SL_canEncode v1) = 0 then
  some ((-1)) else
  if (f_Math_max_III v2 0) < (f_Math_min_III v3 (Int32.ofNat (hl_sB j0).length)) then
  (f_SL_indexOfChar j0 v1 (f_Math_max_III v2 0) (f_Math_min_III v3 (Int32.ofNat (hl_sB j0).length)) σ).bind fun x1 =>
  some x1 else
  some ((-1))
set_option maxRecDepth 20000 in
theorem p_SL_indexOf {X : hl_X} (D : Nat) (j0 : Nat) (hj0 : j0 < hl_nS) (v1 : Int32) (v2 : Int32) (v3 : Int32) (σ : hl_M) {r : Int32} (h : f_SL_indexOf j0 v1 v2 v3 σ = some r) : hl_R X (D + 1) y43 0 [(0, .ref (300 + j0)), (1, .int v1), (2, .int v2), (3, .int v3)] [] σ (some (.int r)) σ := by
  unfold f_SL_indexOf at h
  refine hl_iload_n (i := 1) d43_0 rfl rfl ?_
  refine hl_cSi (D := D) (z := y44) (n := 1) (av := [.int v1]) (st := []) d43_1 mlSL_88 rfl (Nat.le_of_ble_eq_true rfl) (Nat.le_of_ble_eq_true rfl) ((p_SL_canEncode D v1 σ rfl).dle (by omega)) ?_
  refine hl_if_ne (tg := 9) d43_4 rfl (fun hc => ?_) (fun hc => ?_)
  · have h := hl_neg hc h
    refine hl_iload_n (i := 2) d43_9 rfl rfl ?_
    refine hl_iconst d43_10 ki0 ?_
    refine hl_cSi (D := D) (z := y45) (n := 2) (av := [.int v2, .int 0]) (st := []) d43_11 mlSL_92 rfl (Nat.le_of_ble_eq_true rfl) (Nat.le_of_ble_eq_true rfl) ((p_Math_max_III D v2 0 σ rfl).dle (by omega)) ?_
    refine hl_istore_n (i := 2) (ls2 := [(2, .int (f_Math_max_III v2 0)), (0, .ref (300 + j0)), (1, .int v1), (3, .int v3)]) d43_14 rfl (by decide) rfl ?_
    refine hl_iload_n (i := 3) d43_15 rfl rfl ?_
    refine hl_aload_n (i := 0) d43_16 rfl rfl (hl_nS9 hj0).2 ?_
    refine hl_alenR d43_17 (hsb hj0) rfl ?_
    refine hl_cSi (D := D) (z := y46) (n := 2) (av := [.int v3, .int (Int32.ofNat (hl_sB j0).length)]) (st := []) d43_18 mlSL_38 rfl (Nat.le_of_ble_eq_true rfl) (Nat.le_of_ble_eq_true rfl) ((p_Math_min_III D v3 (Int32.ofNat (hl_sB j0).length) σ rfl).dle (by omega)) ?_
    refine hl_istore_n (i := 3) (ls2 := [(3, .int (f_Math_min_III v3 (Int32.ofNat (hl_sB j0).length))), (2, .int (f_Math_max_III v2 0)), (0, .ref (300 + j0)), (1, .int v1)]) d43_21 rfl (by decide) rfl ?_
    refine hl_iload_n (i := 2) d43_22 rfl rfl ?_
    refine hl_iload_n (i := 3) d43_23 rfl rfl ?_
    refine hl_icmp_lt (tg := 29) d43_24 rfl (fun hc => ?_) (fun hc => ?_)
    · have h := hl_pos hc h
      refine hl_aload_n (i := 0) d43_29 rfl rfl (hl_nS9 hj0).2 ?_
      refine hl_iload_n (i := 1) d43_30 rfl rfl ?_
      refine hl_iload_n (i := 2) d43_31 rfl rfl ?_
      refine hl_iload_n (i := 3) d43_32 rfl rfl ?_
      obtain ⟨x1, hx1, h⟩ := hl_bind h
      refine hl_cSi (D := D) (z := y47) (n := 4) (av := [.ref (300 + j0), .int v1, .int (f_Math_max_III v2 0), .int (f_Math_min_III v3 (Int32.ofNat (hl_sB j0).length))]) (st := []) d43_33 mlSL_95 rfl (Nat.le_of_ble_eq_true rfl) (Nat.le_of_ble_eq_true rfl) ((p_SL_indexOfChar D j0 hj0 v1 (f_Math_max_III v2 0) (f_Math_min_III v3 (Int32.ofNat (hl_sB j0).length)) σ hx1).dle (by omega)) ?_
      have h := Option.some.inj h
      subst h
      exact hl_iret d43_36 rfl
    · have h := hl_neg hc h
      refine hl_iconst d43_27 kim1 ?_
      have h := Option.some.inj h
      subst h
      exact hl_iret d43_28 rfl
  · have h := hl_pos hc h
    refine hl_iconst d43_7 kim1 ?_
    have h := Option.some.inj h
    subst h
    exact hl_iret d43_8 rfl
