/-! the first statement, both in step -/
section FIRST
variable {G P : hp_G} {σ τ σ' τ' σ1 τ1 υ : hl_M} {n a s t k c j v z m m' w d u N p i : Nat} {b : Nat → Nat}
/-- a ground with nobody, nothing -/
def hp_bare (x y : Nat) : hp_G := fun i k => if i = 0 then (if k = 0 then x else if k = 1 then y else 0) else 0
theorem hp_bare_wg {x y : Nat} (hx : 3 ≤ x) (hx9 : x ≤ 9) (hy : 3 ≤ y) (hy6 : y ≤ 6) : hp_wg (hp_bare x y) :=
  ⟨.inr ⟨hx, hx9, hy, hy6⟩, ⟨Nat.zero_le _, Nat.zero_le _, Nat.zero_le _⟩, fun c => ⟨Nat.zero_le _, fun _ => rfl⟩, fun p h => absurd h (Nat.not_lt_zero p), fun p h => absurd h (Nat.not_lt_zero p), fun p h => absurd h (Nat.not_lt_zero p), fun p h => absurd h (Nat.not_lt_zero p), fun p h => absurd h (Nat.not_lt_zero p)⟩
/-- the class' reader begins -/
theorem hx_begin (T : hx_t n b σ) (h5 : τ.1 64 5 = 0) (h2 : τ.1 64 2 = 0) (h4 : τ.1 64 4 = -1) (h6 : τ.1 64 6 = -1) : ∃ σ', f_Rd_begin σ = some σ' ∧ hp_fr hx_FD σ σ' ∧ q_ok n b σ' τ := by
  have F : hp_fr hx_FD σ (hl_si (hl_si (hl_si (hl_si (hl_si σ 3 4 0) 3 5 (-1)) 3 1 3) 3 2 0) 3 3 0) := ((((hp_fr.rf.si (show hx_FD 3 4 from rfl)).si (show hx_FD 3 5 from rfl)).si (show hx_FD 3 1 from rfl)).si (show hx_FD 3 2 from rfl)).si (show hx_FD 3 3 from rfl)
  obtain ⟨σ', r1, r2, r3⟩ := q_adv (n := n) (b := b) (t := 0) (k := 3) (τ := τ) (σ := hl_si (hl_si (hl_si (hl_si (hl_si σ 3 4 0) 3 5 (-1)) 3 1 3) 3 2 0) 3 3 0) (T.fr F (by unfold hx_FD; omega) (fun k => by unfold hx_FD; omega)) hp_s01 (by omega) (by rw [hp_sn (by omega), hp_sn (by omega), hp_s01]; rfl) (.inr (.inr rfl)) (by rw [hp_sn (by omega), hp_sn (by omega), hp_sn (by omega), hp_sn (by omega), hp_s01]) h5 h2 (.inr ⟨rfl, .inl h4⟩) ⟨by rw [hp_sn (by omega), hp_sn (by omega), hp_sn (by omega), hp_s01], h6⟩
  unfold f_Rd_begin
  rw [r1, Option.bind_some]
  exact ⟨_, rfl, F.tr (r2.mono (fun q f h => h.1)), r3⟩
/-- the model's clearing -/
theorem hm_clear3 : ∃ τ', hl_lp f_M_text_L40 hl_big (0, τ) = some τ' ∧ hp_fr (fun q f => q = 75 ∧ f < 3) τ τ' ∧ ∀ c, c < 3 → τ'.1 75 c = 0 := by
  refine hp_inv (b := f_M_text_L40) (s := (0, τ)) 3 (fun j s => s.1 = nI j ∧ hp_fr (fun q f => q = 75 ∧ f < 3) τ s.2 ∧ ∀ c, c < j → s.2.1 75 c = 0) (fun τ' => hp_fr (fun q f => q = 75 ∧ f < 3) τ τ' ∧ ∀ c, c < 3 → τ'.1 75 c = 0) (by omega) ⟨rfl, .rf, fun c hc => by omega⟩ ?_ ?_
  · rintro j ⟨q, υ⟩ hj ⟨a1, a2, a3⟩
    dsimp only at a1 a2 a3
    subst a1
    have n1 : ¬ (3 : Int32) ≤ nI j := by first | omega | (simp (disch := first | assumption | omega) only [↓hp_neg1, hp_l0, hp_l1, hp_l2, hp_l3, hp_l4, hp_l5, hp_l6, hp_l7, hp_l8, hp_l9, hp_l10, hp_l11, hp_l12, hp_l13, hp_l14, hp_l15, hp_l16, hp_l17, hp_l18, hp_l19, hp_l20, hp_l21, hp_l22, hp_l23, hp_l24, hp_l25, hp_l26, hp_l27, hp_l28, hp_l29, hp_l30, hp_l31, hp_l32, hp_l33, hp_l34, hp_l35, hp_l36, hp_l37, hp_l38, hp_l39, hp_l40, hp_l41, hp_l42, hp_l43, hp_l44, hp_l45, hp_l46, hp_l47, hp_l48, hp_l49, hp_l50, hp_l51, hp_l52, hp_l53, hp_l54, hp_l55, hp_l56, hp_l57, hp_l58, hp_l59, hp_l60, hp_l61, hp_l62, hp_l63, hp_l64, hp_l65, hp_l66, hp_l67, hp_l68, hp_l69, hp_l70, hp_l71, hp_l72, hp_l73, hp_l74, hp_l75, hp_l76, hp_l77, hp_l78, hp_l79, hp_l80, hp_l81, hp_l82, hp_l83, hp_l84, hp_l85, hp_l86, hp_l87, hp_l88, hp_l89, hp_l90, hp_l91, hp_l92, hp_l93, hp_l94, hp_l95, hp_l96, hp_l97, hp_l98, hp_l99, hp_l100, hp_l101, hp_l102, hp_l103, hp_l104, hp_l105, hp_l106, hp_l107, hp_l108, hp_l109, hp_l110, hp_l111, hp_l112, hp_l113, hp_l114, hp_l115, hp_l116, hp_l117, hp_l118, hp_l119, hp_l120, hp_l121, hp_l122, hp_l123, hp_l124, hp_l125, hp_l126, hp_l127, hp_l141, hp_l142, hp_l150, hp_l151, hp_l152, hp_l153, hp_l251, hp_l255, hp_l256, hp_l300, hp_l432, hp_l864, hp_l1000, hp_l1600, hp_l1700, hp_l2304, hp_l2916, hp_l3000, hp_l9999, hp_l10000, nI_add, pk_mul, nI_clamp, hl_lt, hl_le, hl_eq, hl_nIb, hl_nsub, hp_eqm, hp_meq, hp_ltm, hp_mlt, hp_lem, hp_mle, hp_addm, hp_meqm, hp_mlem, hp_withinE, hp_within0, if_pos, if_neg, Option.bind_some, hp_let, Sum.elim_inl, Sum.elim_inr, hp_s01, hp_s11, hp_s2, true_and, and_true, if_true, if_false, not_true_eq_false, not_false_eq_true, reduceCtorEq] <;> omega)
    have nb : hl_b (nI j) 6 := by first | omega | (simp (disch := first | assumption | omega) only [↓hp_neg1, hp_l0, hp_l1, hp_l2, hp_l3, hp_l4, hp_l5, hp_l6, hp_l7, hp_l8, hp_l9, hp_l10, hp_l11, hp_l12, hp_l13, hp_l14, hp_l15, hp_l16, hp_l17, hp_l18, hp_l19, hp_l20, hp_l21, hp_l22, hp_l23, hp_l24, hp_l25, hp_l26, hp_l27, hp_l28, hp_l29, hp_l30, hp_l31, hp_l32, hp_l33, hp_l34, hp_l35, hp_l36, hp_l37, hp_l38, hp_l39, hp_l40, hp_l41, hp_l42, hp_l43, hp_l44, hp_l45, hp_l46, hp_l47, hp_l48, hp_l49, hp_l50, hp_l51, hp_l52, hp_l53, hp_l54, hp_l55, hp_l56, hp_l57, hp_l58, hp_l59, hp_l60, hp_l61, hp_l62, hp_l63, hp_l64, hp_l65, hp_l66, hp_l67, hp_l68, hp_l69, hp_l70, hp_l71, hp_l72, hp_l73, hp_l74, hp_l75, hp_l76, hp_l77, hp_l78, hp_l79, hp_l80, hp_l81, hp_l82, hp_l83, hp_l84, hp_l85, hp_l86, hp_l87, hp_l88, hp_l89, hp_l90, hp_l91, hp_l92, hp_l93, hp_l94, hp_l95, hp_l96, hp_l97, hp_l98, hp_l99, hp_l100, hp_l101, hp_l102, hp_l103, hp_l104, hp_l105, hp_l106, hp_l107, hp_l108, hp_l109, hp_l110, hp_l111, hp_l112, hp_l113, hp_l114, hp_l115, hp_l116, hp_l117, hp_l118, hp_l119, hp_l120, hp_l121, hp_l122, hp_l123, hp_l124, hp_l125, hp_l126, hp_l127, hp_l141, hp_l142, hp_l150, hp_l151, hp_l152, hp_l153, hp_l251, hp_l255, hp_l256, hp_l300, hp_l432, hp_l864, hp_l1000, hp_l1600, hp_l1700, hp_l2304, hp_l2916, hp_l3000, hp_l9999, hp_l10000, nI_add, pk_mul, nI_clamp, hl_lt, hl_le, hl_eq, hl_nIb, hl_nsub, hp_eqm, hp_meq, hp_ltm, hp_mlt, hp_lem, hp_mle, hp_addm, hp_meqm, hp_mlem, hp_withinE, hp_within0, if_pos, if_neg, Option.bind_some, hp_let, Sum.elim_inl, Sum.elim_inr, hp_s01, hp_s11, hp_s2, true_and, and_true, if_true, if_false, not_true_eq_false, not_false_eq_true, reduceCtorEq] <;> omega)
    left
    unfold f_M_text_L40
    dsimp only
    rw [if_neg n1, if_pos nb, nI_clamp (by omega), nI_1]
    refine ⟨_, rfl, rfl, a2.si ⟨rfl, by omega⟩, fun c hc => ?_⟩
    dsimp only
    by_cases e : c = j
    · rw [e, hp_s01]
    · rw [hp_sn (by omega)]; exact a3 c (by omega)
  · rintro ⟨q, υ⟩ ⟨a1, a2, a3⟩
    dsimp only at a1 a2 a3
    subst a1
    unfold f_M_text_L40
    dsimp only
    rw [if_pos (by decide)]
    exact ⟨_, rfl, a2, a3⟩
theorem hm_clear54 : ∃ τ', hl_lp f_M_text_L60 hl_big (0, τ) = some τ' ∧ hp_fr (fun q f => q = 76 ∧ f < 54) τ τ' ∧ ∀ c, c < 54 → τ'.1 76 c = 0 := by
  refine hp_inv (b := f_M_text_L60) (s := (0, τ)) 54 (fun j s => s.1 = nI j ∧ hp_fr (fun q f => q = 76 ∧ f < 54) τ s.2 ∧ ∀ c, c < j → s.2.1 76 c = 0) (fun τ' => hp_fr (fun q f => q = 76 ∧ f < 54) τ τ' ∧ ∀ c, c < 54 → τ'.1 76 c = 0) (by omega) ⟨rfl, .rf, fun c hc => by omega⟩ ?_ ?_
  · rintro j ⟨q, υ⟩ hj ⟨a1, a2, a3⟩
    dsimp only at a1 a2 a3
    subst a1
    have n1 : ¬ (54 : Int32) ≤ nI j := by first | omega | (simp (disch := first | assumption | omega) only [↓hp_neg1, hp_l0, hp_l1, hp_l2, hp_l3, hp_l4, hp_l5, hp_l6, hp_l7, hp_l8, hp_l9, hp_l10, hp_l11, hp_l12, hp_l13, hp_l14, hp_l15, hp_l16, hp_l17, hp_l18, hp_l19, hp_l20, hp_l21, hp_l22, hp_l23, hp_l24, hp_l25, hp_l26, hp_l27, hp_l28, hp_l29, hp_l30, hp_l31, hp_l32, hp_l33, hp_l34, hp_l35, hp_l36, hp_l37, hp_l38, hp_l39, hp_l40, hp_l41, hp_l42, hp_l43, hp_l44, hp_l45, hp_l46, hp_l47, hp_l48, hp_l49, hp_l50, hp_l51, hp_l52, hp_l53, hp_l54, hp_l55, hp_l56, hp_l57, hp_l58, hp_l59, hp_l60, hp_l61, hp_l62, hp_l63, hp_l64, hp_l65, hp_l66, hp_l67, hp_l68, hp_l69, hp_l70, hp_l71, hp_l72, hp_l73, hp_l74, hp_l75, hp_l76, hp_l77, hp_l78, hp_l79, hp_l80, hp_l81, hp_l82, hp_l83, hp_l84, hp_l85, hp_l86, hp_l87, hp_l88, hp_l89, hp_l90, hp_l91, hp_l92, hp_l93, hp_l94, hp_l95, hp_l96, hp_l97, hp_l98, hp_l99, hp_l100, hp_l101, hp_l102, hp_l103, hp_l104, hp_l105, hp_l106, hp_l107, hp_l108, hp_l109, hp_l110, hp_l111, hp_l112, hp_l113, hp_l114, hp_l115, hp_l116, hp_l117, hp_l118, hp_l119, hp_l120, hp_l121, hp_l122, hp_l123, hp_l124, hp_l125, hp_l126, hp_l127, hp_l141, hp_l142, hp_l150, hp_l151, hp_l152, hp_l153, hp_l251, hp_l255, hp_l256, hp_l300, hp_l432, hp_l864, hp_l1000, hp_l1600, hp_l1700, hp_l2304, hp_l2916, hp_l3000, hp_l9999, hp_l10000, nI_add, pk_mul, nI_clamp, hl_lt, hl_le, hl_eq, hl_nIb, hl_nsub, hp_eqm, hp_meq, hp_ltm, hp_mlt, hp_lem, hp_mle, hp_addm, hp_meqm, hp_mlem, hp_withinE, hp_within0, if_pos, if_neg, Option.bind_some, hp_let, Sum.elim_inl, Sum.elim_inr, hp_s01, hp_s11, hp_s2, true_and, and_true, if_true, if_false, not_true_eq_false, not_false_eq_true, reduceCtorEq] <;> omega)
    have nb : hl_b (nI j) 108 := by first | omega | (simp (disch := first | assumption | omega) only [↓hp_neg1, hp_l0, hp_l1, hp_l2, hp_l3, hp_l4, hp_l5, hp_l6, hp_l7, hp_l8, hp_l9, hp_l10, hp_l11, hp_l12, hp_l13, hp_l14, hp_l15, hp_l16, hp_l17, hp_l18, hp_l19, hp_l20, hp_l21, hp_l22, hp_l23, hp_l24, hp_l25, hp_l26, hp_l27, hp_l28, hp_l29, hp_l30, hp_l31, hp_l32, hp_l33, hp_l34, hp_l35, hp_l36, hp_l37, hp_l38, hp_l39, hp_l40, hp_l41, hp_l42, hp_l43, hp_l44, hp_l45, hp_l46, hp_l47, hp_l48, hp_l49, hp_l50, hp_l51, hp_l52, hp_l53, hp_l54, hp_l55, hp_l56, hp_l57, hp_l58, hp_l59, hp_l60, hp_l61, hp_l62, hp_l63, hp_l64, hp_l65, hp_l66, hp_l67, hp_l68, hp_l69, hp_l70, hp_l71, hp_l72, hp_l73, hp_l74, hp_l75, hp_l76, hp_l77, hp_l78, hp_l79, hp_l80, hp_l81, hp_l82, hp_l83, hp_l84, hp_l85, hp_l86, hp_l87, hp_l88, hp_l89, hp_l90, hp_l91, hp_l92, hp_l93, hp_l94, hp_l95, hp_l96, hp_l97, hp_l98, hp_l99, hp_l100, hp_l101, hp_l102, hp_l103, hp_l104, hp_l105, hp_l106, hp_l107, hp_l108, hp_l109, hp_l110, hp_l111, hp_l112, hp_l113, hp_l114, hp_l115, hp_l116, hp_l117, hp_l118, hp_l119, hp_l120, hp_l121, hp_l122, hp_l123, hp_l124, hp_l125, hp_l126, hp_l127, hp_l141, hp_l142, hp_l150, hp_l151, hp_l152, hp_l153, hp_l251, hp_l255, hp_l256, hp_l300, hp_l432, hp_l864, hp_l1000, hp_l1600, hp_l1700, hp_l2304, hp_l2916, hp_l3000, hp_l9999, hp_l10000, nI_add, pk_mul, nI_clamp, hl_lt, hl_le, hl_eq, hl_nIb, hl_nsub, hp_eqm, hp_meq, hp_ltm, hp_mlt, hp_lem, hp_mle, hp_addm, hp_meqm, hp_mlem, hp_withinE, hp_within0, if_pos, if_neg, Option.bind_some, hp_let, Sum.elim_inl, Sum.elim_inr, hp_s01, hp_s11, hp_s2, true_and, and_true, if_true, if_false, not_true_eq_false, not_false_eq_true, reduceCtorEq] <;> omega)
    left
    unfold f_M_text_L60
    dsimp only
    rw [if_neg n1, if_pos nb, nI_clamp (by omega), nI_1, hp_boolN (.inl rfl)]
    refine ⟨_, rfl, rfl, a2.si ⟨rfl, by omega⟩, fun c hc => ?_⟩
    dsimp only
    by_cases e : c = j
    · rw [e, hp_s01]
    · rw [hp_sn (by omega)]; exact a3 c (by omega)
  · rintro ⟨q, υ⟩ ⟨a1, a2, a3⟩
    dsimp only at a1 a2 a3
    subst a1
    unfold f_M_text_L60
    dsimp only
    rw [if_pos (by decide)]
    exact ⟨_, rfl, a2, a3⟩
end FIRST
