/-! all statements behind the first, both in step -/
section TELL
variable {G P : hp_G} {σ τ σ' τ' σ1 τ1 υ : hl_M} {n a s t k c j v z m m' w d u N p i : Nat} {b : Nat → Nat}
theorem hp_lpm {S E : Type} {b : S → Option (S ⊕ E)} {e : E} : ∀ {m m' : Nat} {s : S}, m ≤ m' → hl_lp b m s = some e → hl_lp b m' s = some e := by
  intro m
  induction m with
  | zero => intro m' s _ h; cases h
  | succ m ih =>
    intro m' s h1 h2
    obtain ⟨k, rfl⟩ : ∃ k, m' = k + 1 := ⟨m' - 1, by omega⟩
    cases hb : b s with
    | none =>
      exfalso
      have : hl_lp b (m + 1) s = none := by
        show (b s).bind _ = _
        rw [hb]
        rfl
      rw [this] at h2
      cases h2
    | some o =>
      rcases o with t | x
      · rw [hl_lp_s hb] at h2 ⊢
        exact ih (by omega) h2
      · rw [hl_lp_e hb] at h2 ⊢
        exact h2
theorem hp_simL {S E S' E' : Type} {b : S → Option (S ⊕ E)} {b' : S' → Option (S' ⊕ E')} (n : Nat) (R : Nat → S → S' → Prop) (Q : E → E' → Prop) {s : S} {s' : S'} (hn : n < 999998) (h0 : R 0 s s')
    (hs : ∀ k s s', k < n → R k s s' → (∃ t t', b s = some (.inl t) ∧ b' s' = some (.inl t') ∧ R (k + 1) t t') ∨ ∃ e e', b s = some (.inr e) ∧ b' s' = some (.inr e') ∧ Q e e')
    (he : ∀ s s', R n s s' → ∃ e e', b s = some (.inr e) ∧ (b' s' = some (.inr e') ∨ ∃ t', b' s' = some (.inl t') ∧ b' t' = some (.inr e')) ∧ Q e e') : ∃ e e', (∀ f, n + 2 ≤ f → hl_lp b f s = some e) ∧ (∀ f, n + 2 ≤ f → hl_lp b' f s' = some e') ∧ Q e e' := by
  have key : ∀ m k s s', k ≤ n → n - k < m → R k s s' → ∃ e e', hl_lp b (m + 1) s = some e ∧ hl_lp b' (m + 1) s' = some e' ∧ Q e e' := by
    intro m
    induction m with
    | zero => intro k s s' _ h; omega
    | succ m ih =>
      intro k s s' hk hm hR
      by_cases h : k < n
      · rcases hs k s s' h hR with ⟨t, t', h1, h2, h3⟩ | ⟨e, e', h1, h2, h3⟩
        · rw [hl_lp_s h1, hl_lp_s h2]
          exact ih (k + 1) t t' (by omega) (by omega) h3
        · exact ⟨e, e', hl_lp_e h1, hl_lp_e h2, h3⟩
      · have : k = n := by omega
        subst this
        obtain ⟨e, e', h1, h2, h3⟩ := he s s' hR
        rcases h2 with h2 | ⟨t', h2, h4⟩
        · exact ⟨e, e', hl_lp_e h1, hl_lp_e h2, h3⟩
        · exact ⟨e, e', hl_lp_e h1, by rw [hl_lp_s h2, hl_lp_e h4], h3⟩
  obtain ⟨e, e', h1, h2, h3⟩ := key (n + 1) 0 s s' (by omega) (by omega) h0
  exact ⟨e, e', fun f hf => hp_lpm hf h1, fun f hf => hp_lpm hf h2, h3⟩
/-- how the class ends its telling -/
def hx_tail (x11 : Int32 × hl_M) : Option (Int32 × hl_M) :=
  if x11.1 = 0 then
  f_Tl_tell_j202 x11.1 (f_Rd_fail 1 (x11.2.1 3 2) x11.2) else
  if (x11.2.1 3 1) = 0 then
  f_Tl_tell_j202 x11.1 x11.2 else
  f_Tl_tell_j202 x11.1 (f_Rd_fail 5 (x11.2.1 3 2) x11.2)
/-- behind all statements -/
def q_E (n : Nat) (b : Nat → Nat) (σ τ : hl_M) (e : Int32 × hl_M) (τ' : hl_M) : Prop := ∃ u σ', hx_tail e = some (u, σ') ∧ hp_fr hx_TD σ σ' ∧ hp_fr hm_TD τ τ' ∧ ((∃ s G P, 1 ≤ s ∧ s ≤ 70 ∧ u = nI s ∧ τ'.1 64 29 = nI s ∧ q_ok n b σ' τ' ∧ q_D G P σ' τ') ∨ (u = -1 ∧ q_no σ' τ'))
theorem hx_tail_no (H : q_no σ τ) (h : ¬ u = 0) (hu : u < 2 ^ 31) : ∃ σ', hx_tail (nI u, σ) = some (-1, σ') ∧ hp_fr hx_FD σ σ' ∧ q_no σ' τ := by
  obtain ⟨r1, r2⟩ := q_failN (f := 5) (p := σ.1 3 2) H
  have n1 : ¬ nI u = 0 := by first | omega | (simp (disch := first | assumption | omega) only [↓hp_neg1, hp_l0, hp_l1, hp_l2, hp_l3, hp_l4, hp_l5, hp_l6, hp_l7, hp_l8, hp_l9, hp_l10, hp_l11, hp_l12, hp_l13, hp_l14, hp_l15, hp_l16, hp_l17, hp_l18, hp_l19, hp_l20, hp_l21, hp_l22, hp_l23, hp_l24, hp_l25, hp_l26, hp_l27, hp_l28, hp_l29, hp_l30, hp_l31, hp_l32, hp_l33, hp_l34, hp_l35, hp_l36, hp_l37, hp_l38, hp_l39, hp_l40, hp_l41, hp_l42, hp_l43, hp_l44, hp_l45, hp_l46, hp_l47, hp_l48, hp_l49, hp_l50, hp_l51, hp_l52, hp_l53, hp_l54, hp_l55, hp_l56, hp_l57, hp_l58, hp_l59, hp_l60, hp_l61, hp_l62, hp_l63, hp_l64, hp_l65, hp_l66, hp_l67, hp_l68, hp_l69, hp_l70, hp_l71, hp_l72, hp_l73, hp_l74, hp_l75, hp_l76, hp_l77, hp_l78, hp_l79, hp_l80, hp_l81, hp_l82, hp_l83, hp_l84, hp_l85, hp_l86, hp_l87, hp_l88, hp_l89, hp_l90, hp_l91, hp_l92, hp_l93, hp_l94, hp_l95, hp_l96, hp_l97, hp_l98, hp_l99, hp_l100, hp_l101, hp_l102, hp_l103, hp_l104, hp_l105, hp_l106, hp_l107, hp_l108, hp_l109, hp_l110, hp_l111, hp_l112, hp_l113, hp_l114, hp_l115, hp_l116, hp_l117, hp_l118, hp_l119, hp_l120, hp_l121, hp_l122, hp_l123, hp_l124, hp_l125, hp_l126, hp_l127, hp_l141, hp_l142, hp_l150, hp_l151, hp_l152, hp_l153, hp_l251, hp_l255, hp_l256, hp_l300, hp_l432, hp_l864, hp_l1000, hp_l1600, hp_l1700, hp_l2304, hp_l2916, hp_l3000, hp_l9999, hp_l10000, nI_add, pk_mul, nI_clamp, hl_lt, hl_le, hl_eq, hl_nIb, hl_nsub, hp_eqm, hp_meq, hp_ltm, hp_mlt, hp_lem, hp_mle, hp_addm, hp_meqm, hp_mlem, hp_withinE, hp_within0, if_pos, if_neg, Option.bind_some, hp_let, Sum.elim_inl, Sum.elim_inr, hp_s01, hp_s11, hp_s2, true_and, and_true, if_true, if_false, not_true_eq_false, not_false_eq_true, reduceCtorEq] <;> omega)
  unfold hx_tail f_Tl_tell_j202
  dsimp only
  rw [if_neg n1, H.2.2.1, if_neg (by decide), hx_failed1 r1.x.1, if_neg (show ¬ (1 : Int32) = 0 by decide)]
  exact ⟨_, rfl, r2, r1⟩
theorem q_tellLoop (KK : hm_k τ) (T : hx_t n b σ) (R : hm_r n b τ) (H : q_T n b σ τ) (h29 : τ.1 64 29 = nI 1) : ∃ e τ', (∀ f, 71 ≤ f → hl_lp f_Tl_tell_L21 f (nI 1, σ) = some e) ∧ (∀ f, 71 ≤ f → hl_lp f_M_text_L120 f τ = some τ') ∧ q_E n b σ τ e τ' := by
  have hn := T.1
  -- one look
  have stepO : ∀ (k : Nat) (σa τa : hl_M), k ≤ 69 → hm_k τa → hx_t n b σa → hm_r n b τa → q_ok n b σa τa → (∃ G P w, q_D G P σa τa ∧ w ≤ 20 ∧ σa.1 24 2 = nI w ∧ τa.1 64 22 = nI w) → τa.1 64 29 = nI (k + 1) → hp_fr hx_TD σ σa → hp_fr hm_TD τ τa → (σa.1 3 1 = 0 ∧ ∃ τs, f_M_text_L120 τa = some (.inr τs) ∧ q_E n b σ τ (nI (k + 1), σa) τs) ∨ (¬ σa.1 3 1 = 0 ∧ ∃ τs, f_M_text_L120 τa = (f_M_statementTold τs).bind (fun x9 => some (.inl x9)) ∧ hp_fr hm_FD τa τs ∧ τs.1 64 2 = σa.1 3 2 ∧ q_ok n b σa τs) := by
    intro k σa τa hk Ka Ta Ra Ha Da h29a FXa FMa
    obtain ⟨a, s, t, S, E, h5, h2, he, h4, x2, x3, kd, kd3, kd0⟩ := q_kind Ha
    have H' := q_at S Ha h2 hn
    have FM : hp_fr hm_FD τa (hl_si τa 64 2 (nI s)) := hp_fr.rf.si ⟨rfl, by omega⟩
    by_cases e : s = n
    · left
      obtain ⟨G, P, w, Dg, _⟩ := Da
      refine ⟨kd0.mpr e, hl_si τa 64 2 (nI s), ?_, ?_⟩
      · unfold f_M_text_L120
        have nl : ¬ s < n := by omega
        rw [if_pos h5, hm_look Ra h2 S, Option.bind_some, if_neg nl, if_pos rfl]
      · have n1 : ¬ nI (k + 1) = 0 := by first | omega | (simp (disch := first | assumption | omega) only [↓hp_neg1, hp_l0, hp_l1, hp_l2, hp_l3, hp_l4, hp_l5, hp_l6, hp_l7, hp_l8, hp_l9, hp_l10, hp_l11, hp_l12, hp_l13, hp_l14, hp_l15, hp_l16, hp_l17, hp_l18, hp_l19, hp_l20, hp_l21, hp_l22, hp_l23, hp_l24, hp_l25, hp_l26, hp_l27, hp_l28, hp_l29, hp_l30, hp_l31, hp_l32, hp_l33, hp_l34, hp_l35, hp_l36, hp_l37, hp_l38, hp_l39, hp_l40, hp_l41, hp_l42, hp_l43, hp_l44, hp_l45, hp_l46, hp_l47, hp_l48, hp_l49, hp_l50, hp_l51, hp_l52, hp_l53, hp_l54, hp_l55, hp_l56, hp_l57, hp_l58, hp_l59, hp_l60, hp_l61, hp_l62, hp_l63, hp_l64, hp_l65, hp_l66, hp_l67, hp_l68, hp_l69, hp_l70, hp_l71, hp_l72, hp_l73, hp_l74, hp_l75, hp_l76, hp_l77, hp_l78, hp_l79, hp_l80, hp_l81, hp_l82, hp_l83, hp_l84, hp_l85, hp_l86, hp_l87, hp_l88, hp_l89, hp_l90, hp_l91, hp_l92, hp_l93, hp_l94, hp_l95, hp_l96, hp_l97, hp_l98, hp_l99, hp_l100, hp_l101, hp_l102, hp_l103, hp_l104, hp_l105, hp_l106, hp_l107, hp_l108, hp_l109, hp_l110, hp_l111, hp_l112, hp_l113, hp_l114, hp_l115, hp_l116, hp_l117, hp_l118, hp_l119, hp_l120, hp_l121, hp_l122, hp_l123, hp_l124, hp_l125, hp_l126, hp_l127, hp_l141, hp_l142, hp_l150, hp_l151, hp_l152, hp_l153, hp_l251, hp_l255, hp_l256, hp_l300, hp_l432, hp_l864, hp_l1000, hp_l1600, hp_l1700, hp_l2304, hp_l2916, hp_l3000, hp_l9999, hp_l10000, nI_add, pk_mul, nI_clamp, hl_lt, hl_le, hl_eq, hl_nIb, hl_nsub, hp_eqm, hp_meq, hp_ltm, hp_mlt, hp_lem, hp_mle, hp_addm, hp_meqm, hp_mlem, hp_withinE, hp_within0, if_pos, if_neg, Option.bind_some, hp_let, Sum.elim_inl, Sum.elim_inr, hp_s01, hp_s11, hp_s2, true_and, and_true, if_true, if_false, not_true_eq_false, not_false_eq_true, reduceCtorEq] <;> omega)
        refine ⟨nI (k + 1), σa, ?_, FXa, FMa.tr (FM.mono hm_FD_TD), .inl ⟨k + 1, G, P, by omega, by omega, rfl, by rw [hp_sn (by omega)]; exact h29a, H', Dg.fr0 .rf FM⟩⟩
        unfold hx_tail f_Tl_tell_j202
        dsimp only
        rw [if_neg n1, if_pos (kd0.mpr e), hx_failed0 h4, if_pos rfl]
    · right
      have hs : s < n := by have := S.2.1; omega
      have hb := Ra.2.2 s hs
      have n1 : ¬ nI (b s) = -1 := hl_nm1 (by omega)
      refine ⟨fun z => e (kd0.mp z), hl_si τa 64 2 (nI s), ?_, FM, by rw [hp_s01, x2], H'⟩
      unfold f_M_text_L120
      rw [if_pos h5, hm_look Ra h2 S, Option.bind_some, if_pos hs, if_neg n1]
  have rest : ∀ τa : hl_M, ¬ τa.1 64 5 = 0 → f_M_text_L120 τa = some (.inr τa) := by
    intro τa h
    unfold f_M_text_L120
    rw [if_neg h]
  refine hp_simL (b := f_Tl_tell_L21) (b' := f_M_text_L120) (s := (nI 1, σ)) (s' := τ) 69 (fun k x y => x.1 = nI (k + 1) ∧ hm_k y ∧ hx_t n b x.2 ∧ hm_r n b y ∧ q_T n b x.2 y ∧ (y.1 64 5 = 0 → y.1 64 29 = nI (k + 1)) ∧ hp_fr hx_TD σ x.2 ∧ hp_fr hm_TD τ y) (q_E n b σ τ) (by omega) ⟨rfl, KK, T, R, H, fun _ => h29, .rf, .rf⟩ ?_ ?_
  · rintro k ⟨x, σa⟩ τa hk ⟨rfl, Ka, Ta, Ra, Ha, h29a, FXa, FMa⟩
    dsimp only at Ta Ha FXa ⊢
    have n70 : ¬ 70 ≤ nI (k + 1) := by first | omega | (simp (disch := first | assumption | omega) only [↓hp_neg1, hp_l0, hp_l1, hp_l2, hp_l3, hp_l4, hp_l5, hp_l6, hp_l7, hp_l8, hp_l9, hp_l10, hp_l11, hp_l12, hp_l13, hp_l14, hp_l15, hp_l16, hp_l17, hp_l18, hp_l19, hp_l20, hp_l21, hp_l22, hp_l23, hp_l24, hp_l25, hp_l26, hp_l27, hp_l28, hp_l29, hp_l30, hp_l31, hp_l32, hp_l33, hp_l34, hp_l35, hp_l36, hp_l37, hp_l38, hp_l39, hp_l40, hp_l41, hp_l42, hp_l43, hp_l44, hp_l45, hp_l46, hp_l47, hp_l48, hp_l49, hp_l50, hp_l51, hp_l52, hp_l53, hp_l54, hp_l55, hp_l56, hp_l57, hp_l58, hp_l59, hp_l60, hp_l61, hp_l62, hp_l63, hp_l64, hp_l65, hp_l66, hp_l67, hp_l68, hp_l69, hp_l70, hp_l71, hp_l72, hp_l73, hp_l74, hp_l75, hp_l76, hp_l77, hp_l78, hp_l79, hp_l80, hp_l81, hp_l82, hp_l83, hp_l84, hp_l85, hp_l86, hp_l87, hp_l88, hp_l89, hp_l90, hp_l91, hp_l92, hp_l93, hp_l94, hp_l95, hp_l96, hp_l97, hp_l98, hp_l99, hp_l100, hp_l101, hp_l102, hp_l103, hp_l104, hp_l105, hp_l106, hp_l107, hp_l108, hp_l109, hp_l110, hp_l111, hp_l112, hp_l113, hp_l114, hp_l115, hp_l116, hp_l117, hp_l118, hp_l119, hp_l120, hp_l121, hp_l122, hp_l123, hp_l124, hp_l125, hp_l126, hp_l127, hp_l141, hp_l142, hp_l150, hp_l151, hp_l152, hp_l153, hp_l251, hp_l255, hp_l256, hp_l300, hp_l432, hp_l864, hp_l1000, hp_l1600, hp_l1700, hp_l2304, hp_l2916, hp_l3000, hp_l9999, hp_l10000, nI_add, pk_mul, nI_clamp, hl_lt, hl_le, hl_eq, hl_nIb, hl_nsub, hp_eqm, hp_meq, hp_ltm, hp_mlt, hp_lem, hp_mle, hp_addm, hp_meqm, hp_mlem, hp_withinE, hp_within0, if_pos, if_neg, Option.bind_some, hp_let, Sum.elim_inl, Sum.elim_inr, hp_s01, hp_s11, hp_s2, true_and, and_true, if_true, if_false, not_true_eq_false, not_false_eq_true, reduceCtorEq] <;> omega)
    have n0 : ¬ nI (k + 1) = 0 := by first | omega | (simp (disch := first | assumption | omega) only [↓hp_neg1, hp_l0, hp_l1, hp_l2, hp_l3, hp_l4, hp_l5, hp_l6, hp_l7, hp_l8, hp_l9, hp_l10, hp_l11, hp_l12, hp_l13, hp_l14, hp_l15, hp_l16, hp_l17, hp_l18, hp_l19, hp_l20, hp_l21, hp_l22, hp_l23, hp_l24, hp_l25, hp_l26, hp_l27, hp_l28, hp_l29, hp_l30, hp_l31, hp_l32, hp_l33, hp_l34, hp_l35, hp_l36, hp_l37, hp_l38, hp_l39, hp_l40, hp_l41, hp_l42, hp_l43, hp_l44, hp_l45, hp_l46, hp_l47, hp_l48, hp_l49, hp_l50, hp_l51, hp_l52, hp_l53, hp_l54, hp_l55, hp_l56, hp_l57, hp_l58, hp_l59, hp_l60, hp_l61, hp_l62, hp_l63, hp_l64, hp_l65, hp_l66, hp_l67, hp_l68, hp_l69, hp_l70, hp_l71, hp_l72, hp_l73, hp_l74, hp_l75, hp_l76, hp_l77, hp_l78, hp_l79, hp_l80, hp_l81, hp_l82, hp_l83, hp_l84, hp_l85, hp_l86, hp_l87, hp_l88, hp_l89, hp_l90, hp_l91, hp_l92, hp_l93, hp_l94, hp_l95, hp_l96, hp_l97, hp_l98, hp_l99, hp_l100, hp_l101, hp_l102, hp_l103, hp_l104, hp_l105, hp_l106, hp_l107, hp_l108, hp_l109, hp_l110, hp_l111, hp_l112, hp_l113, hp_l114, hp_l115, hp_l116, hp_l117, hp_l118, hp_l119, hp_l120, hp_l121, hp_l122, hp_l123, hp_l124, hp_l125, hp_l126, hp_l127, hp_l141, hp_l142, hp_l150, hp_l151, hp_l152, hp_l153, hp_l251, hp_l255, hp_l256, hp_l300, hp_l432, hp_l864, hp_l1000, hp_l1600, hp_l1700, hp_l2304, hp_l2916, hp_l3000, hp_l9999, hp_l10000, nI_add, pk_mul, nI_clamp, hl_lt, hl_le, hl_eq, hl_nIb, hl_nsub, hp_eqm, hp_meq, hp_ltm, hp_mlt, hp_lem, hp_mle, hp_addm, hp_meqm, hp_mlem, hp_withinE, hp_within0, if_pos, if_neg, Option.bind_some, hp_let, Sum.elim_inl, Sum.elim_inr, hp_s01, hp_s11, hp_s2, true_and, and_true, if_true, if_false, not_true_eq_false, not_false_eq_true, reduceCtorEq] <;> omega)
    rcases Ha with ⟨Ha, Da⟩ | Ha
    · rcases stepO k σa τa (by omega) Ka Ta Ra Ha Da (h29a Ha.x.2) FXa FMa with ⟨e0, τs, e1, e2⟩ | ⟨e0, τs, e1, e2, e3, e4⟩
      · right
        refine ⟨_, _, ?_, e1, e2⟩
        unfold f_Tl_tell_L21
        dsimp only
        rw [if_neg n70, if_pos (hx_failed0 Ha.x.1), if_pos e0]
      · left
        obtain ⟨G, P, w, Dg, hw, w1, w2⟩ := Da
        have Ks : hm_k τs := Ka.fr e2 (fun q f h => by have := h.1; omega)
        have Rs : hm_r n b τs := Ra.fr e2 (by unfold hm_FD; omega) (fun k => by unfold hm_FD; omega)
        have h29s : τs.1 64 29 = nI (k + 1) := by rw [e2.i (by unfold hm_FD; omega)]; exact h29a Ha.x.2
        obtain ⟨σ', τ', s1, s2, s3, s4, s5, s6⟩ := q_stmt (nI (k + 1)) Ks Ta Rs e4 (Dg.fr0 .rf e2) hw w1 (by rw [e2.i (by unfold hm_FD; omega)]; exact w2) (by rw [h29s]; first | omega | (simp (disch := first | assumption | omega) only [↓hp_neg1, hp_l0, hp_l1, hp_l2, hp_l3, hp_l4, hp_l5, hp_l6, hp_l7, hp_l8, hp_l9, hp_l10, hp_l11, hp_l12, hp_l13, hp_l14, hp_l15, hp_l16, hp_l17, hp_l18, hp_l19, hp_l20, hp_l21, hp_l22, hp_l23, hp_l24, hp_l25, hp_l26, hp_l27, hp_l28, hp_l29, hp_l30, hp_l31, hp_l32, hp_l33, hp_l34, hp_l35, hp_l36, hp_l37, hp_l38, hp_l39, hp_l40, hp_l41, hp_l42, hp_l43, hp_l44, hp_l45, hp_l46, hp_l47, hp_l48, hp_l49, hp_l50, hp_l51, hp_l52, hp_l53, hp_l54, hp_l55, hp_l56, hp_l57, hp_l58, hp_l59, hp_l60, hp_l61, hp_l62, hp_l63, hp_l64, hp_l65, hp_l66, hp_l67, hp_l68, hp_l69, hp_l70, hp_l71, hp_l72, hp_l73, hp_l74, hp_l75, hp_l76, hp_l77, hp_l78, hp_l79, hp_l80, hp_l81, hp_l82, hp_l83, hp_l84, hp_l85, hp_l86, hp_l87, hp_l88, hp_l89, hp_l90, hp_l91, hp_l92, hp_l93, hp_l94, hp_l95, hp_l96, hp_l97, hp_l98, hp_l99, hp_l100, hp_l101, hp_l102, hp_l103, hp_l104, hp_l105, hp_l106, hp_l107, hp_l108, hp_l109, hp_l110, hp_l111, hp_l112, hp_l113, hp_l114, hp_l115, hp_l116, hp_l117, hp_l118, hp_l119, hp_l120, hp_l121, hp_l122, hp_l123, hp_l124, hp_l125, hp_l126, hp_l127, hp_l141, hp_l142, hp_l150, hp_l151, hp_l152, hp_l153, hp_l251, hp_l255, hp_l256, hp_l300, hp_l432, hp_l864, hp_l1000, hp_l1600, hp_l1700, hp_l2304, hp_l2916, hp_l3000, hp_l9999, hp_l10000, nI_add, pk_mul, nI_clamp, hl_lt, hl_le, hl_eq, hl_nIb, hl_nsub, hp_eqm, hp_meq, hp_ltm, hp_mlt, hp_lem, hp_mle, hp_addm, hp_meqm, hp_mlem, hp_withinE, hp_within0, if_pos, if_neg, Option.bind_some, hp_let, Sum.elim_inl, Sum.elim_inr, hp_s01, hp_s11, hp_s2, true_and, and_true, if_true, if_false, not_true_eq_false, not_false_eq_true, reduceCtorEq] <;> omega)) e3
        refine ⟨(nI (k + 1) + 1, σ'), τ', ?_, by rw [e1, s2, Option.bind_some], nI_1 _, Ks.fr s4 (fun q f h => by unfold hm_TD hm_FD at h; omega), Ta.fr s3 (by unfold hx_TD; omega) (fun k => by unfold hx_TD; omega), Rs.fr s4 (by unfold hm_TD hm_FD; omega) (fun k => by unfold hm_TD hm_FD; omega), s6, fun _ => by rw [s5, h29s, nI_1], FXa.tr s3, (FMa.tr (e2.mono hm_FD_TD)).tr s4⟩
        rw [hx_L21 _ n70 n0 (hx_failed0 Ha.x.1) e0]
        exact s1
    · right
      obtain ⟨σ', s1, s2, s3⟩ := hx_tail_no (u := k + 1) Ha (by omega) (by omega)
      refine ⟨(nI (k + 1), σa), τa, ?_, rest τa Ha.x.2, -1, σ', s1, FXa.tr (s2.mono hx_FD_TD), FMa, .inr ⟨rfl, s3⟩⟩
      unfold f_Tl_tell_L21
      dsimp only
      rw [if_neg n70, hx_failed1 Ha.x.1, if_neg (show ¬ (1 : Int32) = 0 by decide)]
  · rintro ⟨x, σa⟩ τa ⟨rfl, Ka, Ta, Ra, Ha, h29a, FXa, FMa⟩
    dsimp only at Ta Ha FXa ⊢
    have xe : f_Tl_tell_L21 (nI (69 + 1), σa) = some (.inr (nI (69 + 1), σa)) := by
      unfold f_Tl_tell_L21
      dsimp only
      rw [if_pos (by decide)]
    rcases Ha with ⟨Ha, Da⟩ | Ha
    · rcases stepO 69 σa τa (by omega) Ka Ta Ra Ha Da (h29a Ha.x.2) FXa FMa with ⟨e0, τs, e1, e2⟩ | ⟨e0, τs, e1, e2, e3, e4⟩
      · exact ⟨_, _, xe, .inl e1, e2⟩
      · have h29s : τs.1 64 29 = nI 70 := by rw [e2.i (by unfold hm_FD; omega)]; exact h29a Ha.x.2
        obtain ⟨r1, r2, r3⟩ := q_fail0 (σ := σa) (τ := τs) (f := 5) (p := σa.1 3 2) e4.x.1 e4.x.2 (by decide)
        have st : f_M_statementTold τs = some (f_M_fail 5 (σa.1 3 2) τs) := by
          unfold f_M_statementTold
          rw [if_pos (by rw [h29s]; rfl), e3]
        refine ⟨_, _, xe, .inr ⟨_, by rw [e1, st, Option.bind_some], rest _ r1.x.2⟩, -1, f_Rd_fail 5 (σa.1 3 2) σa, ?_, FXa.tr (r2.mono hx_FD_TD), (FMa.tr (e2.mono hm_FD_TD)).tr (r3.mono hm_FD_TD), .inr ⟨rfl, r1⟩⟩
        unfold hx_tail f_Tl_tell_j202
        dsimp only
        rw [if_neg (by decide), if_neg e0, hx_failed1 r1.x.1, if_neg (show ¬ (1 : Int32) = 0 by decide)]
    · obtain ⟨σ', s1, s2, s3⟩ := hx_tail_no (u := 69 + 1) Ha (by omega) (by omega)
      exact ⟨_, τa, xe, .inl (rest τa Ha.x.2), -1, σ', s1, FXa.tr (s2.mono hx_FD_TD), FMa, .inr ⟨rfl, s3⟩⟩
end TELL
