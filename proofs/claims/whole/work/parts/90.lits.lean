/-! statements, both in step: all lit cells of a word -/
def hm_mk (v2 : Int32) (v3 : Int64) (f i : Nat) (τ : hl_M) : Option hl_M := if 8 ≤ i then some τ else (f_M_look τ).bind fun x5 => if x5.1 = 59 then some x5.2 else hl_lp (f_M_wordTold_L56 v2 v3) f (nI i, x5.2)
/-- behind the lit cells -/
def q_F (n : Nat) (b : Nat → Nat) (G : hp_G) (w : Nat) (x y : Int64) (σ τ : hl_M) : Prop := (∃ L, q_ok n b σ τ ∧ q_L G w L x y τ ∧ 1 ≤ fb_ct (fun k => decide (0 < L k)) 54 ∧ fb_ct (fun k => decide (0 < L k)) 54 ≤ 8) ∨ q_no σ τ ∨ ∃ σ', f_Rd_wantSign 59 σ = some σ' ∧ hp_fr hx_FD σ σ' ∧ q_no σ' τ
section LITS
variable {G P : hp_G} {σ τ σ' τ' σ1 τ1 υ : hl_M} {n a s t k c j v z m m' w d u N p i : Nat} {b l l' st L : Nat → Nat} {x y v3 : Int64} {nm : Int32}
theorem hm_L56 (hi : i < 8) (f : Nat) (h : f_M_litTold (nI w) τ = some τ') : hl_lp (f_M_wordTold_L56 (nI w) v3) (f + 1) (nI i, τ) = if τ'.1 64 5 = 0 then hm_mk (nI w) v3 f (i + 1) τ' else some τ' := by
  by_cases e : τ'.1 64 5 = 0
  · rw [if_pos e]
    unfold hm_mk
    by_cases e8 : 8 ≤ i + 1
    · have n1 : (8 : Int32) ≤ nI (i + 1) := by first | omega | (simp (disch := first | assumption | omega) only [↓hp_neg1, hp_l0, hp_l1, hp_l2, hp_l3, hp_l4, hp_l5, hp_l6, hp_l7, hp_l8, hp_l9, hp_l10, hp_l11, hp_l12, hp_l13, hp_l14, hp_l15, hp_l16, hp_l17, hp_l18, hp_l19, hp_l20, hp_l21, hp_l22, hp_l23, hp_l24, hp_l25, hp_l26, hp_l27, hp_l28, hp_l29, hp_l30, hp_l31, hp_l32, hp_l33, hp_l34, hp_l35, hp_l36, hp_l37, hp_l38, hp_l39, hp_l40, hp_l41, hp_l42, hp_l43, hp_l44, hp_l45, hp_l46, hp_l47, hp_l48, hp_l49, hp_l50, hp_l51, hp_l52, hp_l53, hp_l54, hp_l55, hp_l56, hp_l57, hp_l58, hp_l59, hp_l60, hp_l61, hp_l62, hp_l63, hp_l64, hp_l65, hp_l66, hp_l67, hp_l68, hp_l69, hp_l70, hp_l71, hp_l72, hp_l73, hp_l74, hp_l75, hp_l76, hp_l77, hp_l78, hp_l79, hp_l80, hp_l81, hp_l82, hp_l83, hp_l84, hp_l85, hp_l86, hp_l87, hp_l88, hp_l89, hp_l90, hp_l91, hp_l92, hp_l93, hp_l94, hp_l95, hp_l96, hp_l97, hp_l98, hp_l99, hp_l100, hp_l101, hp_l102, hp_l103, hp_l104, hp_l105, hp_l106, hp_l107, hp_l108, hp_l109, hp_l110, hp_l111, hp_l112, hp_l113, hp_l114, hp_l115, hp_l116, hp_l117, hp_l118, hp_l119, hp_l120, hp_l121, hp_l122, hp_l123, hp_l124, hp_l125, hp_l126, hp_l127, hp_l141, hp_l142, hp_l150, hp_l151, hp_l152, hp_l153, hp_l251, hp_l255, hp_l256, hp_l300, hp_l432, hp_l864, hp_l1000, hp_l1600, hp_l1700, hp_l2304, hp_l2916, hp_l3000, hp_l9999, hp_l10000, nI_add, pk_mul, nI_clamp, hl_lt, hl_le, hl_eq, hl_nIb, hl_nsub, hp_eqm, hp_meq, hp_ltm, hp_mlt, hp_lem, hp_mle, hp_addm, hp_meqm, hp_mlem, hp_withinE, hp_within0, if_pos, if_neg, Option.bind_some, hp_let, Sum.elim_inl, Sum.elim_inr, hp_s01, hp_s11, hp_s2, true_and, and_true, if_true, if_false, not_true_eq_false, not_false_eq_true, reduceCtorEq] <;> omega)
      have bd : f_M_wordTold_L56 (nI w) v3 (nI i, τ) = some (.inr τ') := by
        unfold f_M_wordTold_L56
        dsimp only
        rw [h, Option.bind_some, if_pos e, nI_1, if_pos n1]
      rw [if_pos e8, hl_lp_e bd]
    · have n1 : ¬ (8 : Int32) ≤ nI (i + 1) := by first | omega | (simp (disch := first | assumption | omega) only [↓hp_neg1, hp_l0, hp_l1, hp_l2, hp_l3, hp_l4, hp_l5, hp_l6, hp_l7, hp_l8, hp_l9, hp_l10, hp_l11, hp_l12, hp_l13, hp_l14, hp_l15, hp_l16, hp_l17, hp_l18, hp_l19, hp_l20, hp_l21, hp_l22, hp_l23, hp_l24, hp_l25, hp_l26, hp_l27, hp_l28, hp_l29, hp_l30, hp_l31, hp_l32, hp_l33, hp_l34, hp_l35, hp_l36, hp_l37, hp_l38, hp_l39, hp_l40, hp_l41, hp_l42, hp_l43, hp_l44, hp_l45, hp_l46, hp_l47, hp_l48, hp_l49, hp_l50, hp_l51, hp_l52, hp_l53, hp_l54, hp_l55, hp_l56, hp_l57, hp_l58, hp_l59, hp_l60, hp_l61, hp_l62, hp_l63, hp_l64, hp_l65, hp_l66, hp_l67, hp_l68, hp_l69, hp_l70, hp_l71, hp_l72, hp_l73, hp_l74, hp_l75, hp_l76, hp_l77, hp_l78, hp_l79, hp_l80, hp_l81, hp_l82, hp_l83, hp_l84, hp_l85, hp_l86, hp_l87, hp_l88, hp_l89, hp_l90, hp_l91, hp_l92, hp_l93, hp_l94, hp_l95, hp_l96, hp_l97, hp_l98, hp_l99, hp_l100, hp_l101, hp_l102, hp_l103, hp_l104, hp_l105, hp_l106, hp_l107, hp_l108, hp_l109, hp_l110, hp_l111, hp_l112, hp_l113, hp_l114, hp_l115, hp_l116, hp_l117, hp_l118, hp_l119, hp_l120, hp_l121, hp_l122, hp_l123, hp_l124, hp_l125, hp_l126, hp_l127, hp_l141, hp_l142, hp_l150, hp_l151, hp_l152, hp_l153, hp_l251, hp_l255, hp_l256, hp_l300, hp_l432, hp_l864, hp_l1000, hp_l1600, hp_l1700, hp_l2304, hp_l2916, hp_l3000, hp_l9999, hp_l10000, nI_add, pk_mul, nI_clamp, hl_lt, hl_le, hl_eq, hl_nIb, hl_nsub, hp_eqm, hp_meq, hp_ltm, hp_mlt, hp_lem, hp_mle, hp_addm, hp_meqm, hp_mlem, hp_withinE, hp_within0, if_pos, if_neg, Option.bind_some, hp_let, Sum.elim_inl, Sum.elim_inr, hp_s01, hp_s11, hp_s2, true_and, and_true, if_true, if_false, not_true_eq_false, not_false_eq_true, reduceCtorEq] <;> omega)
      rw [if_neg e8]
      cases hl : f_M_look τ' with
      | none =>
        have bd : f_M_wordTold_L56 (nI w) v3 (nI i, τ) = none := by
          unfold f_M_wordTold_L56
          dsimp only
          rw [h, Option.bind_some, if_pos e, nI_1, if_neg n1, hl]
          rfl
        show (f_M_wordTold_L56 (nI w) v3 (nI i, τ)).bind _ = _
        rw [bd]
        rfl
      | some r =>
        rw [Option.bind_some]
        by_cases e59 : r.1 = 59
        · have bd : f_M_wordTold_L56 (nI w) v3 (nI i, τ) = some (.inr r.2) := by
            unfold f_M_wordTold_L56
            dsimp only
            rw [h, Option.bind_some, if_pos e, nI_1, if_neg n1, hl, Option.bind_some, if_pos e59]
          rw [if_pos e59, hl_lp_e bd]
        · have bd : f_M_wordTold_L56 (nI w) v3 (nI i, τ) = some (.inl (nI (i + 1), r.2)) := by
            unfold f_M_wordTold_L56
            dsimp only
            rw [h, Option.bind_some, if_pos e, nI_1, if_neg n1, hl, Option.bind_some, if_neg e59]
          rw [if_neg e59, hl_lp_s bd]
  · have bd : f_M_wordTold_L56 (nI w) v3 (nI i, τ) = some (.inr τ') := by
      unfold f_M_wordTold_L56
      dsimp only
      rw [h, Option.bind_some, if_neg e]
    rw [if_neg e, hl_lp_e bd]
theorem hx_L30_no (hi1 : 1 ≤ i) (hi : i ≤ 8) (H : q_no σ τ) : f_Tl_tellWord_L30 nm (x, y, nI i, σ) = some (.inr (x, y, σ)) := by
  have w0 : f_Rd_isWord 12 σ = some 0 := by
    unfold f_Rd_isWord
    rw [H.2.2.1, if_neg (by decide)]
  unfold f_Tl_tellWord_L30
  dsimp only
  by_cases e : i = 8
  · rw [if_pos (show (8 : Int32) ≤ nI i by rw [e]; decide)]
  · have n1 : ¬ (8 : Int32) ≤ nI i := by first | omega | (simp (disch := first | assumption | omega) only [↓hp_neg1, hp_l0, hp_l1, hp_l2, hp_l3, hp_l4, hp_l5, hp_l6, hp_l7, hp_l8, hp_l9, hp_l10, hp_l11, hp_l12, hp_l13, hp_l14, hp_l15, hp_l16, hp_l17, hp_l18, hp_l19, hp_l20, hp_l21, hp_l22, hp_l23, hp_l24, hp_l25, hp_l26, hp_l27, hp_l28, hp_l29, hp_l30, hp_l31, hp_l32, hp_l33, hp_l34, hp_l35, hp_l36, hp_l37, hp_l38, hp_l39, hp_l40, hp_l41, hp_l42, hp_l43, hp_l44, hp_l45, hp_l46, hp_l47, hp_l48, hp_l49, hp_l50, hp_l51, hp_l52, hp_l53, hp_l54, hp_l55, hp_l56, hp_l57, hp_l58, hp_l59, hp_l60, hp_l61, hp_l62, hp_l63, hp_l64, hp_l65, hp_l66, hp_l67, hp_l68, hp_l69, hp_l70, hp_l71, hp_l72, hp_l73, hp_l74, hp_l75, hp_l76, hp_l77, hp_l78, hp_l79, hp_l80, hp_l81, hp_l82, hp_l83, hp_l84, hp_l85, hp_l86, hp_l87, hp_l88, hp_l89, hp_l90, hp_l91, hp_l92, hp_l93, hp_l94, hp_l95, hp_l96, hp_l97, hp_l98, hp_l99, hp_l100, hp_l101, hp_l102, hp_l103, hp_l104, hp_l105, hp_l106, hp_l107, hp_l108, hp_l109, hp_l110, hp_l111, hp_l112, hp_l113, hp_l114, hp_l115, hp_l116, hp_l117, hp_l118, hp_l119, hp_l120, hp_l121, hp_l122, hp_l123, hp_l124, hp_l125, hp_l126, hp_l127, hp_l141, hp_l142, hp_l150, hp_l151, hp_l152, hp_l153, hp_l251, hp_l255, hp_l256, hp_l300, hp_l432, hp_l864, hp_l1000, hp_l1600, hp_l1700, hp_l2304, hp_l2916, hp_l3000, hp_l9999, hp_l10000, nI_add, pk_mul, nI_clamp, hl_lt, hl_le, hl_eq, hl_nIb, hl_nsub, hp_eqm, hp_meq, hp_ltm, hp_mlt, hp_lem, hp_mle, hp_addm, hp_meqm, hp_mlem, hp_withinE, hp_within0, if_pos, if_neg, Option.bind_some, hp_let, Sum.elim_inl, Sum.elim_inr, hp_s01, hp_s11, hp_s2, true_and, and_true, if_true, if_false, not_true_eq_false, not_false_eq_true, reduceCtorEq] <;> omega)
    have n2 : ¬ nI i = 0 := by first | omega | (simp (disch := first | assumption | omega) only [↓hp_neg1, hp_l0, hp_l1, hp_l2, hp_l3, hp_l4, hp_l5, hp_l6, hp_l7, hp_l8, hp_l9, hp_l10, hp_l11, hp_l12, hp_l13, hp_l14, hp_l15, hp_l16, hp_l17, hp_l18, hp_l19, hp_l20, hp_l21, hp_l22, hp_l23, hp_l24, hp_l25, hp_l26, hp_l27, hp_l28, hp_l29, hp_l30, hp_l31, hp_l32, hp_l33, hp_l34, hp_l35, hp_l36, hp_l37, hp_l38, hp_l39, hp_l40, hp_l41, hp_l42, hp_l43, hp_l44, hp_l45, hp_l46, hp_l47, hp_l48, hp_l49, hp_l50, hp_l51, hp_l52, hp_l53, hp_l54, hp_l55, hp_l56, hp_l57, hp_l58, hp_l59, hp_l60, hp_l61, hp_l62, hp_l63, hp_l64, hp_l65, hp_l66, hp_l67, hp_l68, hp_l69, hp_l70, hp_l71, hp_l72, hp_l73, hp_l74, hp_l75, hp_l76, hp_l77, hp_l78, hp_l79, hp_l80, hp_l81, hp_l82, hp_l83, hp_l84, hp_l85, hp_l86, hp_l87, hp_l88, hp_l89, hp_l90, hp_l91, hp_l92, hp_l93, hp_l94, hp_l95, hp_l96, hp_l97, hp_l98, hp_l99, hp_l100, hp_l101, hp_l102, hp_l103, hp_l104, hp_l105, hp_l106, hp_l107, hp_l108, hp_l109, hp_l110, hp_l111, hp_l112, hp_l113, hp_l114, hp_l115, hp_l116, hp_l117, hp_l118, hp_l119, hp_l120, hp_l121, hp_l122, hp_l123, hp_l124, hp_l125, hp_l126, hp_l127, hp_l141, hp_l142, hp_l150, hp_l151, hp_l152, hp_l153, hp_l251, hp_l255, hp_l256, hp_l300, hp_l432, hp_l864, hp_l1000, hp_l1600, hp_l1700, hp_l2304, hp_l2916, hp_l3000, hp_l9999, hp_l10000, nI_add, pk_mul, nI_clamp, hl_lt, hl_le, hl_eq, hl_nIb, hl_nsub, hp_eqm, hp_meq, hp_ltm, hp_mlt, hp_lem, hp_mle, hp_addm, hp_meqm, hp_mlem, hp_withinE, hp_within0, if_pos, if_neg, Option.bind_some, hp_let, Sum.elim_inl, Sum.elim_inr, hp_s01, hp_s11, hp_s2, true_and, and_true, if_true, if_false, not_true_eq_false, not_false_eq_true, reduceCtorEq] <;> omega)
    rw [if_neg n1, if_neg n2, w0, Option.bind_some, if_pos rfl]
theorem q_litLoop (hw : w < 8) : ∀ r i, i + r = 8 → 1 ≤ i → ∀ fX fM, r + 1 < fX → r + 1 < fM → ∀ (x y : Int64) (σ τ : hl_M) (L : Nat → Nat), hm_k τ → hx_t n b σ → hm_r n b τ → q_ok n b σ τ → q_D G P σ τ → w = G 0 3 → q_L G w L x y τ → fb_ct (fun k => decide (0 < L k)) 54 = i → ∃ x' y' σ' τ', hl_lp (f_Tl_tellWord_L30 nm) fX (x, y, nI i, σ) = some (x', y', σ') ∧ hm_mk (nI w) v3 fM i τ = some τ' ∧ hp_fr hx_FD σ σ' ∧ hp_fr (hm_FW w) τ τ' ∧ q_F n b G w x' y' σ' τ' := by
  intro r
  induction r with
  | zero =>
    intro i hi h1 fX fM hX hM x y σ τ L KK T R H D ew Q ct
    obtain ⟨f, rfl⟩ : ∃ f, fX = f + 1 := ⟨fX - 1, by omega⟩
    have bd : f_Tl_tellWord_L30 nm (x, y, nI i, σ) = some (.inr (x, y, σ)) := by
      unfold f_Tl_tellWord_L30
      dsimp only
      rw [if_pos (show (8 : Int32) ≤ nI i by rw [show i = 8 by omega]; decide)]
    rw [hl_lp_e bd]
    unfold hm_mk
    rw [if_pos (by omega)]
    exact ⟨_, _, _, _, rfl, rfl, .rf, .rf, .inl ⟨L, H, Q, by omega, by omega⟩⟩
  | succ r ih =>
    intro i hi h1 fX fM hX hM x y σ τ L KK T R H D ew Q ct
    obtain ⟨f, rfl⟩ : ∃ f, fX = f + 1 := ⟨fX - 1, by omega⟩
    obtain ⟨g, rfl⟩ : ∃ g, fM = g + 1 := ⟨fM - 1, by omega⟩
    have hn := T.1
    obtain ⟨a, s, t, S, E, h5, h2, he, h4, x2, x3, kd, kd3, -⟩ := q_kind H
    have kd1 := kd 1 (.inl rfl)
    have H' := q_at S H h2 hn
    have FM : hp_fr hm_FD τ (hl_si τ 64 2 (nI s)) := hp_fr.rf.si ⟨rfl, by omega⟩
    have KK' : hm_k (hl_si τ 64 2 (nI s)) := KK.fr FM (fun q f h => by have := h.1; omega)
    have R' : hm_r n b (hl_si τ 64 2 (nI s)) := R.si (by omega)
    have D' : q_D G P σ (hl_si τ 64 2 (nI s)) := D.fr0 .rf FM
    have Q' : q_L G w L x y (hl_si τ 64 2 (nI s)) := Q.fr FM (fun q f h => by have := h.1; omega)
    have mono : ∀ q f, hm_FD q f → hm_FW w q f := fun q f h => .inl h
    have n1 : ¬ (8 : Int32) ≤ nI i := by first | omega | (simp (disch := first | assumption | omega) only [↓hp_neg1, hp_l0, hp_l1, hp_l2, hp_l3, hp_l4, hp_l5, hp_l6, hp_l7, hp_l8, hp_l9, hp_l10, hp_l11, hp_l12, hp_l13, hp_l14, hp_l15, hp_l16, hp_l17, hp_l18, hp_l19, hp_l20, hp_l21, hp_l22, hp_l23, hp_l24, hp_l25, hp_l26, hp_l27, hp_l28, hp_l29, hp_l30, hp_l31, hp_l32, hp_l33, hp_l34, hp_l35, hp_l36, hp_l37, hp_l38, hp_l39, hp_l40, hp_l41, hp_l42, hp_l43, hp_l44, hp_l45, hp_l46, hp_l47, hp_l48, hp_l49, hp_l50, hp_l51, hp_l52, hp_l53, hp_l54, hp_l55, hp_l56, hp_l57, hp_l58, hp_l59, hp_l60, hp_l61, hp_l62, hp_l63, hp_l64, hp_l65, hp_l66, hp_l67, hp_l68, hp_l69, hp_l70, hp_l71, hp_l72, hp_l73, hp_l74, hp_l75, hp_l76, hp_l77, hp_l78, hp_l79, hp_l80, hp_l81, hp_l82, hp_l83, hp_l84, hp_l85, hp_l86, hp_l87, hp_l88, hp_l89, hp_l90, hp_l91, hp_l92, hp_l93, hp_l94, hp_l95, hp_l96, hp_l97, hp_l98, hp_l99, hp_l100, hp_l101, hp_l102, hp_l103, hp_l104, hp_l105, hp_l106, hp_l107, hp_l108, hp_l109, hp_l110, hp_l111, hp_l112, hp_l113, hp_l114, hp_l115, hp_l116, hp_l117, hp_l118, hp_l119, hp_l120, hp_l121, hp_l122, hp_l123, hp_l124, hp_l125, hp_l126, hp_l127, hp_l141, hp_l142, hp_l150, hp_l151, hp_l152, hp_l153, hp_l251, hp_l255, hp_l256, hp_l300, hp_l432, hp_l864, hp_l1000, hp_l1600, hp_l1700, hp_l2304, hp_l2916, hp_l3000, hp_l9999, hp_l10000, nI_add, pk_mul, nI_clamp, hl_lt, hl_le, hl_eq, hl_nIb, hl_nsub, hp_eqm, hp_meq, hp_ltm, hp_mlt, hp_lem, hp_mle, hp_addm, hp_meqm, hp_mlem, hp_withinE, hp_within0, if_pos, if_neg, Option.bind_some, hp_let, Sum.elim_inl, Sum.elim_inr, hp_s01, hp_s11, hp_s2, true_and, and_true, if_true, if_false, not_true_eq_false, not_false_eq_true, reduceCtorEq] <;> omega)
    have n2 : ¬ nI i = 0 := by first | omega | (simp (disch := first | assumption | omega) only [↓hp_neg1, hp_l0, hp_l1, hp_l2, hp_l3, hp_l4, hp_l5, hp_l6, hp_l7, hp_l8, hp_l9, hp_l10, hp_l11, hp_l12, hp_l13, hp_l14, hp_l15, hp_l16, hp_l17, hp_l18, hp_l19, hp_l20, hp_l21, hp_l22, hp_l23, hp_l24, hp_l25, hp_l26, hp_l27, hp_l28, hp_l29, hp_l30, hp_l31, hp_l32, hp_l33, hp_l34, hp_l35, hp_l36, hp_l37, hp_l38, hp_l39, hp_l40, hp_l41, hp_l42, hp_l43, hp_l44, hp_l45, hp_l46, hp_l47, hp_l48, hp_l49, hp_l50, hp_l51, hp_l52, hp_l53, hp_l54, hp_l55, hp_l56, hp_l57, hp_l58, hp_l59, hp_l60, hp_l61, hp_l62, hp_l63, hp_l64, hp_l65, hp_l66, hp_l67, hp_l68, hp_l69, hp_l70, hp_l71, hp_l72, hp_l73, hp_l74, hp_l75, hp_l76, hp_l77, hp_l78, hp_l79, hp_l80, hp_l81, hp_l82, hp_l83, hp_l84, hp_l85, hp_l86, hp_l87, hp_l88, hp_l89, hp_l90, hp_l91, hp_l92, hp_l93, hp_l94, hp_l95, hp_l96, hp_l97, hp_l98, hp_l99, hp_l100, hp_l101, hp_l102, hp_l103, hp_l104, hp_l105, hp_l106, hp_l107, hp_l108, hp_l109, hp_l110, hp_l111, hp_l112, hp_l113, hp_l114, hp_l115, hp_l116, hp_l117, hp_l118, hp_l119, hp_l120, hp_l121, hp_l122, hp_l123, hp_l124, hp_l125, hp_l126, hp_l127, hp_l141, hp_l142, hp_l150, hp_l151, hp_l152, hp_l153, hp_l251, hp_l255, hp_l256, hp_l300, hp_l432, hp_l864, hp_l1000, hp_l1600, hp_l1700, hp_l2304, hp_l2916, hp_l3000, hp_l9999, hp_l10000, nI_add, pk_mul, nI_clamp, hl_lt, hl_le, hl_eq, hl_nIb, hl_nsub, hp_eqm, hp_meq, hp_ltm, hp_mlt, hp_lem, hp_mle, hp_addm, hp_meqm, hp_mlem, hp_withinE, hp_within0, if_pos, if_neg, Option.bind_some, hp_let, Sum.elim_inl, Sum.elim_inr, hp_s01, hp_s11, hp_s2, true_and, and_true, if_true, if_false, not_true_eq_false, not_false_eq_true, reduceCtorEq] <;> omega)
    unfold hm_mk
    rw [if_neg (by omega), hm_look R h2 S, Option.bind_some]
    dsimp only
    have stop : f_Rd_isWord 12 σ = some 0 → hl_lp (f_Tl_tellWord_L30 nm) (f + 1) (x, y, nI i, σ) = some (x, y, σ) := by
      intro hw0
      have bd : f_Tl_tellWord_L30 nm (x, y, nI i, σ) = some (.inr (x, y, σ)) := by
        unfold f_Tl_tellWord_L30
        dsimp only
        rw [if_neg n1, if_neg n2, hw0, Option.bind_some, if_pos rfl]
      rw [hl_lp_e bd]
    have isw := hx_isWord (j := 12) (W := hp_W 3) (by decide +kernel) (hp_WL (by omega)) T x2 x3 E.1 E.2.1
    by_cases e59 : s < n ∧ b s = 59
    · have w0 : f_Rd_isWord 12 σ = some 0 := by
        rcases isw with ⟨q1, q2, q3⟩ | ⟨q1, q3⟩
        · have := (kd1.mp q1).2.1
          rw [e59.2] at this
          exact absurd this (by decide)
        · exact q3
      rw [if_pos e59.1, if_pos (show nI (b s) = 59 by rw [e59.2]; rfl), stop w0]
      exact ⟨_, _, _, _, rfl, rfl, .rf, FM.mono mono, .inl ⟨L, H', Q', by omega, by omega⟩⟩
    · have n3 : ¬ (if s < n then nI (b s) else -1) = (59 : Int32) := by
        by_cases e1 : s < n
        · have hb := R.2.2 s e1
          have iff : nI (b s) = nI 59 ↔ b s = 59 := hl_eq (by omega) (by omega)
          rw [if_pos e1]
          exact fun z => e59 ⟨e1, iff.mp z⟩
        · rw [if_neg e1]; decide
      rw [if_neg n3]
      rcases isw with ⟨q1, q2, q3⟩ | ⟨q1, q3⟩
      · obtain ⟨x', y', σ', τ', g1, g2, g3, g4, g5⟩ := q_litT (nm := nm) KK' T R' H' D' hw (show i < 8 by omega) Q'
        have bd : f_Tl_tellWord_L30 nm (x, y, nI i, σ) = some (.inl (x', y', nI (i + 1), σ')) := by
          unfold f_Tl_tellWord_L30
          dsimp only
          rw [if_neg n1, if_neg n2, q3, Option.bind_some, if_neg (show ¬ (1 : Int32) = 0 by decide), g1]
        rw [hl_lp_s bd, hm_L56 (by omega) g g2]
        rcases g5 with ⟨g5, c, u, hc, h0, hu, Q2⟩ | g5
        · rw [if_pos g5.x.2]
          have hC := D.1.C
          have ct2 := hp_Lu (f := L) hu h0
          rw [if_pos (show c < 54 by omega), ct] at ct2
          obtain ⟨x'', y'', σ'', τ'', k1, k2, k3, k4, k5⟩ := ih (i + 1) (by omega) (by omega) f g (by omega) (by omega) x' y' σ' τ' _ (KK'.fr g4 (fun q f h => by unfold hm_FW hm_FD at h; omega)) (T.fr g3 (by unfold hx_FD; omega) (fun k => by unfold hx_FD; omega)) (R'.fr g4 (by unfold hm_FW hm_FD; omega) (fun k => by unfold hm_FW hm_FD; omega)) g5 (D'.fr (g3.mono hx_FD_DD) (g4.mono (fun q f h => by unfold hm_DD; rcases h with h | h; exact .inl h; exact .inr (.inr (.inl (by omega)))))) ew Q2 ct2
          exact ⟨x'', y'', σ'', τ'', k1, k2, g3.tr k3, ((FM.mono mono).tr g4).tr k4, k5⟩
        · rw [if_neg g5.x.2]
          obtain ⟨f', rfl⟩ : ∃ f', f = f' + 1 := ⟨f - 1, by omega⟩
          rw [hl_lp_e (hx_L30_no (by omega) (by omega) g5)]
          exact ⟨_, _, _, _, rfl, rfl, g3, (FM.mono mono).tr g4, .inr (.inl g5)⟩
      · rw [stop q3]
        obtain ⟨σ2, τ2, b1, b2, b3, b4, b5⟩ := q_want (j := 12) (v := 69) (W := hp_W 3) (by decide +kernel) (KK' 3 (by omega)) (hp_WL (by omega)) (by omega) T R' (.inl H')
        have e2 : σ2 = f_Rd_fail 1 (σ.1 3 2) σ := by
          unfold f_Rd_wantWord at b1
          rw [q3, Option.bind_some, if_pos rfl] at b1
          exact (Option.some.inj b1).symm
        have no2 : q_no σ2 τ2 := by
          rcases b5 with h | h
          · exfalso
            have := (q_fail0 (σ := σ) (τ := τ) (f := 1) (p := σ.1 3 2) h4 h5 (by decide)).1.1
            rw [← e2] at this
            exact this h.x.1
          · exact h
        have lit : f_M_litTold (nI w) (hl_si τ 64 2 (nI s)) = some τ2 := by
          unfold f_M_litTold f_M_litTold_j43
          rw [b2, Option.bind_some, hm_cell_no no2.x.2, Option.bind_some, if_neg no2.x.2, hm_asks_no no2.x.2, Option.bind_some, hm_num_no no2.x.2, Option.bind_some, if_neg no2.x.2]
        have sg : f_Rd_wantSign 59 σ = some σ2 := by
          have w0 : f_Rd_isSign 59 σ = some 0 := by
            unfold f_Rd_isSign
            by_cases e3 : σ.1 3 1 = 3
            · obtain ⟨e1, e4⟩ := kd3.mp e3
              have hb := R.2.2 s e1
              have iff : nI (b s) = nI 59 ↔ b s = 59 := hl_eq (by omega) (by omega)
              have n5 : ¬ nI (b s) = 59 := fun z => e59 ⟨e1, iff.mp z⟩
              rw [if_pos e3, x2, hx_at T (by omega), if_pos e1, Option.bind_some, if_neg n5]
            · rw [if_neg e3]
          unfold f_Rd_wantSign
          rw [w0, Option.bind_some, if_pos rfl, e2]
        rw [hm_L56 (by omega) g lit, if_neg no2.x.2]
        exact ⟨_, _, _, _, rfl, rfl, .rf, (FM.mono mono).tr (b4.mono mono), .inr (.inr ⟨σ2, sg, b3, no2⟩)⟩
end LITS
