/-! STEPS wanted; a word taken, both readers in step -/
def hm_FS (z q f : Nat) : Prop := hm_FD q f ∨ (q = 78 ∧ z ≤ f ∧ f < z + 12)
section STEPS
variable {σ τ υ : hl_M} {n a s t k c j v z : Nat} {b : Nat → Nat} {W : List Nat}
theorem q_stepsW (hz : z + 12 ≤ 300) (T : hx_t n b σ) (R : hm_r n b τ) (H : q_st n b σ τ) : ∃ x y σ' τ', f_Rd_wantSteps σ = some (x, σ') ∧ f_M_stepsTold (nI z) τ = some (y, τ') ∧ hp_fr hx_FD σ σ' ∧ hp_fr (hm_FS z) τ τ' ∧ q_st n b σ' τ' ∧ (σ'.1 3 4 = 0 → ∃ m l, 1 ≤ m ∧ m ≤ 12 ∧ (∀ k, k < m → l k ≤ 4) ∧ x = lN (hp_pw m l m) ∧ y = nI m ∧ ∀ k, k < m → τ'.1 78 (z + k) = nI (l k)) := by
  have hn := T.1
  rcases H with H | H
  · obtain ⟨a, s, t, S, E, h5, h2, he, h4, x2, x3, kd, -, -⟩ := q_kind H
    have kd1 := kd 1 (.inl rfl)
    rw [show nI 1 = (1 : Int32) from rfl] at kd1
    have S2 := S.2.1
    have E1 := E.1
    have E2 := E.2.1
    have FM : hp_fr (hm_FS z) τ (hl_si τ 64 2 (nI s)) := hp_fr.rf.si (.inl ⟨rfl, by omega⟩)
    have h5' : ∀ x, (hl_si τ 64 2 x).1 64 5 = 0 := fun x => by rw [hp_sn (by omega)]; exact h5
    have mono : ∀ q f, hm_FD q f → hm_FS z q f := fun q f h => .inl h
    have fin : ∀ υ, υ.1 64 5 = 0 → hp_fr (hm_FS z) τ υ → ∃ x y σ' τ', some ((0 : Int64), f_Rd_fail 1 (nI s) σ) = some (x, σ') ∧ some ((0 : Int32), f_M_fail 1 (nI s) υ) = some (y, τ') ∧ hp_fr hx_FD σ σ' ∧ hp_fr (hm_FS z) τ τ' ∧ q_st n b σ' τ' ∧ (σ'.1 3 4 = 0 → ∃ m l, 1 ≤ m ∧ m ≤ 12 ∧ (∀ k, k < m → l k ≤ 4) ∧ x = lN (hp_pw m l m) ∧ y = nI m ∧ ∀ k, k < m → τ'.1 78 (z + k) = nI (l k)) := by
      intro υ u5 F
      obtain ⟨r1, r2, r3⟩ := q_fail0 (σ := σ) (τ := υ) (f := 1) (p := nI s) h4 u5 (by decide)
      exact ⟨_, _, _, _, rfl, rfl, r2, F.tr (r3.mono mono), .inr r1, fun z => absurd z r1.1⟩
    have j0 : f_Rd_wantSteps_j27 0 σ = some (0, f_Rd_fail 1 (nI s) σ) := by
      unfold f_Rd_wantSteps_j27
      rw [if_pos rfl, x2]
    have j30 : f_M_stepsTold_j30 (hl_si τ 64 2 (nI s)) = some (0, f_M_fail 1 (nI s) (hl_si τ 64 2 (nI s))) := by
      unfold f_M_stepsTold_j30
      rw [hp_s01]
    unfold f_Rd_wantSteps f_M_stepsTold
    rw [if_pos h5, hm_look R h2 S, Option.bind_some]
    dsimp only
    by_cases e : σ.1 3 1 = 1
    · obtain ⟨e1, e2, e3⟩ := kd1.mp e
      have hb := R.2.2 s e1
      have d0 : f_M_isLetter (nI (b s)) = 1 := by rw [hm_isLetter hb.1, if_pos e2]
      have e3' : ¬ nI s = (hl_si τ 64 2 (nI s)).1 64 4 := by rw [hp_sn (by omega)]; exact fun z => e3 z.symm
      obtain ⟨f1, f2, f3, f4⟩ := E.2.2 e1
      have lt : ∀ j, j < t - s → hp_kl (b (s + j)) = 1 := fun j hj => (f2 (s + j) (by omega) (by omega)).trans e2
      rw [if_pos e, if_pos e1, d0, if_neg (show ¬ (1 : Int32) = 0 by decide), hp_s01, if_neg e3']
      refine hp_invX (b := f_M_stepsTold_L48 (nI z) (nI s)) (s := (0, hl_si τ 64 2 (nI s))) (t - s) (fun j x => x.1 = nI j ∧ j ≤ 12 ∧ hp_let5 b s j ∧ x.2.1 64 2 = nI (s + j) ∧ hp_fr (hm_FS z) τ x.2 ∧ x.2.1 64 5 = 0 ∧ x.2.1 64 6 = τ.1 64 6 ∧ ∀ i, i < j → x.2.1 78 (z + i) = nI (hp_sc (b (s + i)))) (fun e => (∃ υ, e = .inl (nI (t - s), υ) ∧ t - s ≤ 12 ∧ hp_let5 b s (t - s) ∧ υ.1 64 2 = nI t ∧ hp_fr (hm_FS z) τ υ ∧ υ.1 64 5 = 0 ∧ υ.1 64 6 = τ.1 64 6 ∧ ∀ i, i < t - s → υ.1 78 (z + i) = nI (hp_sc (b (s + i)))) ∨ (∃ υ, e = .inr υ ∧ ¬ (1 ≤ t - s ∧ t - s ≤ 12 ∧ hp_let5 b s (t - s)) ∧ hp_fr (hm_FS z) τ υ ∧ υ.1 64 5 = 0)) (by omega) ⟨rfl, by omega, fun i hi => by omega, hp_s01, FM, h5' _, hp_sn (by omega), fun i hi => by omega⟩ ?_ ?_ ?_
      · intro o g1 g2
        rw [g1, Option.bind_some]
        have st := hx_stepsOn (m := t - s) (f := s) T (by omega)
        rw [show s + (t - s) = t by omega] at st
        rw [x2, x3]
        rcases g2 with ⟨υ, rfl, p1, p2, p3, p4, p5, p56, p6⟩ | ⟨υ, rfl, p1, p2, p3⟩ <;> rcases st with ⟨y1, y2, y3, y4⟩ | ⟨y1, y4⟩
        · have hs8 : ∀ j, j < t - s → hp_sc (b (s + j)) ≤ 4 := fun j hj => hp_sc_le (p2 j hj)
          have ne0 := hp_pw_ne0 (s := fun j => hp_sc (b (s + j))) y1 y2 (fun j hj => by have := hs8 j hj; show hp_sc (b (s + j)) < 8; omega)
          rw [y4, Option.bind_some, Sum.elim_inl]
          unfold f_Rd_wantSteps_j27
          rw [if_neg ne0]
          obtain ⟨σ', w1, w2, w3⟩ := q_adv (k := 1) (τ := hl_si υ 64 4 (υ.1 64 2)) T x3 E2 (by rw [e]; rfl) (.inl rfl) h4 (by rw [hp_sn (by omega)]; exact p5) (by rw [hp_sn (by omega)]; exact p3) (.inl ⟨by decide, by rw [hp_s01]; exact p3⟩) ⟨H.n5.1, by rw [hp_sn (by omega), p56]; exact H.n5.2⟩
          rw [w1, Option.bind_some]
          refine ⟨_, _, _, _, rfl, rfl, w2.mono (fun q f h => h.1), p4.si (.inl ⟨rfl, by omega⟩), .inl w3, fun _ => ⟨t - s, fun j => hp_sc (b (s + j)), y1, y2, hs8, rfl, rfl, fun k hk => ?_⟩⟩
          rw [hp_sn (by omega)]
          exact p6 k hk
        · exact absurd ⟨by omega, p1, p2⟩ y1
        · exact absurd ⟨y1, y2, y3⟩ p1
        · rw [y4, Option.bind_some, Sum.elim_inr, j0]
          exact fin υ p3 p2
      · rintro j ⟨w, υ⟩ hj ⟨a1, a2, a3, a4, a5, a6, b6, a7⟩
        dsimp only at a1 a4 a5 a6 a7
        subst a1
        have Rv : hm_r n b υ := R.fr a5 (by unfold hm_FS hm_FD; omega) (fun k => by unfold hm_FS hm_FD; omega)
        have hb := R.2.2 (s + j) (by omega)
        have n1 : ¬ nI n ≤ nI (s + j) := by first | omega | (simp (disch := first | assumption | omega) only [↓hp_neg1, hp_l0, hp_l1, hp_l2, hp_l3, hp_l4, hp_l5, hp_l6, hp_l7, hp_l8, hp_l9, hp_l10, hp_l11, hp_l12, hp_l13, hp_l14, hp_l15, hp_l16, hp_l17, hp_l18, hp_l19, hp_l20, hp_l21, hp_l22, hp_l23, hp_l24, hp_l25, hp_l26, hp_l27, hp_l28, hp_l29, hp_l30, hp_l31, hp_l32, hp_l33, hp_l34, hp_l35, hp_l36, hp_l37, hp_l38, hp_l39, hp_l40, hp_l41, hp_l42, hp_l43, hp_l44, hp_l45, hp_l46, hp_l47, hp_l48, hp_l49, hp_l50, hp_l51, hp_l52, hp_l53, hp_l54, hp_l55, hp_l56, hp_l57, hp_l58, hp_l59, hp_l60, hp_l61, hp_l62, hp_l63, hp_l64, hp_l65, hp_l66, hp_l67, hp_l68, hp_l69, hp_l70, hp_l71, hp_l72, hp_l73, hp_l74, hp_l75, hp_l76, hp_l77, hp_l78, hp_l79, hp_l80, hp_l81, hp_l82, hp_l83, hp_l84, hp_l85, hp_l86, hp_l87, hp_l88, hp_l89, hp_l90, hp_l91, hp_l92, hp_l93, hp_l94, hp_l95, hp_l96, hp_l97, hp_l98, hp_l99, hp_l100, hp_l101, hp_l102, hp_l103, hp_l104, hp_l105, hp_l106, hp_l107, hp_l108, hp_l109, hp_l110, hp_l111, hp_l112, hp_l113, hp_l114, hp_l115, hp_l116, hp_l117, hp_l118, hp_l119, hp_l120, hp_l121, hp_l122, hp_l123, hp_l124, hp_l125, hp_l126, hp_l127, hp_l141, hp_l142, hp_l150, hp_l151, hp_l152, hp_l153, hp_l251, hp_l255, hp_l256, hp_l300, hp_l432, hp_l864, hp_l1000, hp_l1600, hp_l1700, hp_l2304, hp_l2916, hp_l3000, hp_l9999, hp_l10000, nI_add, pk_mul, nI_clamp, hl_lt, hl_le, hl_eq, hl_nIb, hl_nsub, hp_eqm, hp_meq, hp_ltm, hp_mlt, hp_lem, hp_mle, hp_addm, hp_meqm, hp_mlem, hp_withinE, hp_within0, if_pos, if_neg, Option.bind_some, hp_let, Sum.elim_inl, Sum.elim_inr, hp_s01, hp_s11, hp_s2, true_and, and_true, if_true, if_false, not_true_eq_false, not_false_eq_true, reduceCtorEq] <;> omega)
        have n2 : hl_b (nI (s + j)) 1600 := by first | omega | (simp (disch := first | assumption | omega) only [↓hp_neg1, hp_l0, hp_l1, hp_l2, hp_l3, hp_l4, hp_l5, hp_l6, hp_l7, hp_l8, hp_l9, hp_l10, hp_l11, hp_l12, hp_l13, hp_l14, hp_l15, hp_l16, hp_l17, hp_l18, hp_l19, hp_l20, hp_l21, hp_l22, hp_l23, hp_l24, hp_l25, hp_l26, hp_l27, hp_l28, hp_l29, hp_l30, hp_l31, hp_l32, hp_l33, hp_l34, hp_l35, hp_l36, hp_l37, hp_l38, hp_l39, hp_l40, hp_l41, hp_l42, hp_l43, hp_l44, hp_l45, hp_l46, hp_l47, hp_l48, hp_l49, hp_l50, hp_l51, hp_l52, hp_l53, hp_l54, hp_l55, hp_l56, hp_l57, hp_l58, hp_l59, hp_l60, hp_l61, hp_l62, hp_l63, hp_l64, hp_l65, hp_l66, hp_l67, hp_l68, hp_l69, hp_l70, hp_l71, hp_l72, hp_l73, hp_l74, hp_l75, hp_l76, hp_l77, hp_l78, hp_l79, hp_l80, hp_l81, hp_l82, hp_l83, hp_l84, hp_l85, hp_l86, hp_l87, hp_l88, hp_l89, hp_l90, hp_l91, hp_l92, hp_l93, hp_l94, hp_l95, hp_l96, hp_l97, hp_l98, hp_l99, hp_l100, hp_l101, hp_l102, hp_l103, hp_l104, hp_l105, hp_l106, hp_l107, hp_l108, hp_l109, hp_l110, hp_l111, hp_l112, hp_l113, hp_l114, hp_l115, hp_l116, hp_l117, hp_l118, hp_l119, hp_l120, hp_l121, hp_l122, hp_l123, hp_l124, hp_l125, hp_l126, hp_l127, hp_l141, hp_l142, hp_l150, hp_l151, hp_l152, hp_l153, hp_l251, hp_l255, hp_l256, hp_l300, hp_l432, hp_l864, hp_l1000, hp_l1600, hp_l1700, hp_l2304, hp_l2916, hp_l3000, hp_l9999, hp_l10000, nI_add, pk_mul, nI_clamp, hl_lt, hl_le, hl_eq, hl_nIb, hl_nsub, hp_eqm, hp_meq, hp_ltm, hp_mlt, hp_lem, hp_mle, hp_addm, hp_meqm, hp_mlem, hp_withinE, hp_within0, if_pos, if_neg, Option.bind_some, hp_let, Sum.elim_inl, Sum.elim_inr, hp_s01, hp_s11, hp_s2, true_and, and_true, if_true, if_false, not_true_eq_false, not_false_eq_true, reduceCtorEq] <;> omega)
        have n9 := hm_stepOf hb.1
        unfold f_M_stepsTold_L48
        dsimp only
        rw [Rv.2.1, a4, if_neg n1, if_pos n2, nI_clamp (by omega), (Rv.2.2 _ (by omega)).2, hm_isLetter hb.1, if_pos (lt j hj), if_neg (show ¬ (1 : Int32) = 0 by decide)]
        by_cases e4 : j = 12
        · rw [if_pos (show nI j = 12 by rw [e4]; rfl)]
          exact .inr ⟨_, rfl, .inr ⟨υ, rfl, fun z => by omega, a5, a6⟩⟩
        · have n3 : ¬ nI j = 12 := by first | omega | (simp (disch := first | assumption | omega) only [↓hp_neg1, hp_l0, hp_l1, hp_l2, hp_l3, hp_l4, hp_l5, hp_l6, hp_l7, hp_l8, hp_l9, hp_l10, hp_l11, hp_l12, hp_l13, hp_l14, hp_l15, hp_l16, hp_l17, hp_l18, hp_l19, hp_l20, hp_l21, hp_l22, hp_l23, hp_l24, hp_l25, hp_l26, hp_l27, hp_l28, hp_l29, hp_l30, hp_l31, hp_l32, hp_l33, hp_l34, hp_l35, hp_l36, hp_l37, hp_l38, hp_l39, hp_l40, hp_l41, hp_l42, hp_l43, hp_l44, hp_l45, hp_l46, hp_l47, hp_l48, hp_l49, hp_l50, hp_l51, hp_l52, hp_l53, hp_l54, hp_l55, hp_l56, hp_l57, hp_l58, hp_l59, hp_l60, hp_l61, hp_l62, hp_l63, hp_l64, hp_l65, hp_l66, hp_l67, hp_l68, hp_l69, hp_l70, hp_l71, hp_l72, hp_l73, hp_l74, hp_l75, hp_l76, hp_l77, hp_l78, hp_l79, hp_l80, hp_l81, hp_l82, hp_l83, hp_l84, hp_l85, hp_l86, hp_l87, hp_l88, hp_l89, hp_l90, hp_l91, hp_l92, hp_l93, hp_l94, hp_l95, hp_l96, hp_l97, hp_l98, hp_l99, hp_l100, hp_l101, hp_l102, hp_l103, hp_l104, hp_l105, hp_l106, hp_l107, hp_l108, hp_l109, hp_l110, hp_l111, hp_l112, hp_l113, hp_l114, hp_l115, hp_l116, hp_l117, hp_l118, hp_l119, hp_l120, hp_l121, hp_l122, hp_l123, hp_l124, hp_l125, hp_l126, hp_l127, hp_l141, hp_l142, hp_l150, hp_l151, hp_l152, hp_l153, hp_l251, hp_l255, hp_l256, hp_l300, hp_l432, hp_l864, hp_l1000, hp_l1600, hp_l1700, hp_l2304, hp_l2916, hp_l3000, hp_l9999, hp_l10000, nI_add, pk_mul, nI_clamp, hl_lt, hl_le, hl_eq, hl_nIb, hl_nsub, hp_eqm, hp_meq, hp_ltm, hp_mlt, hp_lem, hp_mle, hp_addm, hp_meqm, hp_mlem, hp_withinE, hp_within0, if_pos, if_neg, Option.bind_some, hp_let, Sum.elim_inl, Sum.elim_inr, hp_s01, hp_s11, hp_s2, true_and, and_true, if_true, if_false, not_true_eq_false, not_false_eq_true, reduceCtorEq] <;> omega)
          rw [if_neg n3, if_pos n2, n9]
          by_cases e5 : hp_sc (b (s + j)) < 9
          · have h9 := hp_sc_le e5
            have n4 : ¬ nI (hp_sc (b (s + j))) = -1 := hl_nm1 (by omega)
            have n5 : hl_b (nI z + nI j) 300 := by first | omega | (simp (disch := first | assumption | omega) only [↓hp_neg1, hp_l0, hp_l1, hp_l2, hp_l3, hp_l4, hp_l5, hp_l6, hp_l7, hp_l8, hp_l9, hp_l10, hp_l11, hp_l12, hp_l13, hp_l14, hp_l15, hp_l16, hp_l17, hp_l18, hp_l19, hp_l20, hp_l21, hp_l22, hp_l23, hp_l24, hp_l25, hp_l26, hp_l27, hp_l28, hp_l29, hp_l30, hp_l31, hp_l32, hp_l33, hp_l34, hp_l35, hp_l36, hp_l37, hp_l38, hp_l39, hp_l40, hp_l41, hp_l42, hp_l43, hp_l44, hp_l45, hp_l46, hp_l47, hp_l48, hp_l49, hp_l50, hp_l51, hp_l52, hp_l53, hp_l54, hp_l55, hp_l56, hp_l57, hp_l58, hp_l59, hp_l60, hp_l61, hp_l62, hp_l63, hp_l64, hp_l65, hp_l66, hp_l67, hp_l68, hp_l69, hp_l70, hp_l71, hp_l72, hp_l73, hp_l74, hp_l75, hp_l76, hp_l77, hp_l78, hp_l79, hp_l80, hp_l81, hp_l82, hp_l83, hp_l84, hp_l85, hp_l86, hp_l87, hp_l88, hp_l89, hp_l90, hp_l91, hp_l92, hp_l93, hp_l94, hp_l95, hp_l96, hp_l97, hp_l98, hp_l99, hp_l100, hp_l101, hp_l102, hp_l103, hp_l104, hp_l105, hp_l106, hp_l107, hp_l108, hp_l109, hp_l110, hp_l111, hp_l112, hp_l113, hp_l114, hp_l115, hp_l116, hp_l117, hp_l118, hp_l119, hp_l120, hp_l121, hp_l122, hp_l123, hp_l124, hp_l125, hp_l126, hp_l127, hp_l141, hp_l142, hp_l150, hp_l151, hp_l152, hp_l153, hp_l251, hp_l255, hp_l256, hp_l300, hp_l432, hp_l864, hp_l1000, hp_l1600, hp_l1700, hp_l2304, hp_l2916, hp_l3000, hp_l9999, hp_l10000, nI_add, pk_mul, nI_clamp, hl_lt, hl_le, hl_eq, hl_nIb, hl_nsub, hp_eqm, hp_meq, hp_ltm, hp_mlt, hp_lem, hp_mle, hp_addm, hp_meqm, hp_mlem, hp_withinE, hp_within0, if_pos, if_neg, Option.bind_some, hp_let, Sum.elim_inl, Sum.elim_inr, hp_s01, hp_s11, hp_s2, true_and, and_true, if_true, if_false, not_true_eq_false, not_false_eq_true, reduceCtorEq] <;> omega)
            have c5 : (nI z + nI j).toNatClampNeg = z + j := by simp (disch := first | assumption | omega) only [↓hp_neg1, hp_l0, hp_l1, hp_l2, hp_l3, hp_l4, hp_l5, hp_l6, hp_l7, hp_l8, hp_l9, hp_l10, hp_l11, hp_l12, hp_l13, hp_l14, hp_l15, hp_l16, hp_l17, hp_l18, hp_l19, hp_l20, hp_l21, hp_l22, hp_l23, hp_l24, hp_l25, hp_l26, hp_l27, hp_l28, hp_l29, hp_l30, hp_l31, hp_l32, hp_l33, hp_l34, hp_l35, hp_l36, hp_l37, hp_l38, hp_l39, hp_l40, hp_l41, hp_l42, hp_l43, hp_l44, hp_l45, hp_l46, hp_l47, hp_l48, hp_l49, hp_l50, hp_l51, hp_l52, hp_l53, hp_l54, hp_l55, hp_l56, hp_l57, hp_l58, hp_l59, hp_l60, hp_l61, hp_l62, hp_l63, hp_l64, hp_l65, hp_l66, hp_l67, hp_l68, hp_l69, hp_l70, hp_l71, hp_l72, hp_l73, hp_l74, hp_l75, hp_l76, hp_l77, hp_l78, hp_l79, hp_l80, hp_l81, hp_l82, hp_l83, hp_l84, hp_l85, hp_l86, hp_l87, hp_l88, hp_l89, hp_l90, hp_l91, hp_l92, hp_l93, hp_l94, hp_l95, hp_l96, hp_l97, hp_l98, hp_l99, hp_l100, hp_l101, hp_l102, hp_l103, hp_l104, hp_l105, hp_l106, hp_l107, hp_l108, hp_l109, hp_l110, hp_l111, hp_l112, hp_l113, hp_l114, hp_l115, hp_l116, hp_l117, hp_l118, hp_l119, hp_l120, hp_l121, hp_l122, hp_l123, hp_l124, hp_l125, hp_l126, hp_l127, hp_l141, hp_l142, hp_l150, hp_l151, hp_l152, hp_l153, hp_l251, hp_l255, hp_l256, hp_l300, hp_l432, hp_l864, hp_l1000, hp_l1600, hp_l1700, hp_l2304, hp_l2916, hp_l3000, hp_l9999, hp_l10000, nI_add, pk_mul, nI_clamp, hl_lt, hl_le, hl_eq, hl_nIb, hl_nsub, hp_eqm, hp_meq, hp_ltm, hp_mlt, hp_lem, hp_mle, hp_addm, hp_meqm, hp_mlem, hp_withinE, hp_within0, if_pos, if_neg, Option.bind_some, hp_let, Sum.elim_inl, Sum.elim_inr, hp_s01, hp_s11, hp_s2, true_and, and_true, if_true, if_false, not_true_eq_false, not_false_eq_true, reduceCtorEq]
            rw [if_pos e5, if_neg n4, if_pos n2, if_pos n5, c5, hp_sn (show ¬ (64 = 78 ∧ 2 = z + j) by omega), a4, nI_1, nI_1]
            refine .inl ⟨_, rfl, rfl, by omega, fun i hi => ?_, hp_s01, (a5.si (.inr ⟨rfl, by omega, by omega⟩)).si (.inl ⟨rfl, by omega⟩), by rw [hp_sn (by omega), hp_sn (by omega)]; exact a6, by rw [hp_sn (by omega), hp_sn (by omega)]; exact b6, fun i hi => ?_⟩
            · by_cases ei : i = j
              · rw [ei]; exact e5
              · exact a3 i (by omega)
            · dsimp only
              rw [hp_sn (by omega)]
              by_cases ei : i = j
              · rw [ei, hp_s01]
              · rw [hp_sn (by omega)]
                exact a7 i (by omega)
          · rw [if_neg e5, if_pos rfl]
            exact .inr ⟨_, rfl, .inr ⟨υ, rfl, fun z => e5 (z.2.2 j hj), a5, a6⟩⟩
      · rintro ⟨w, υ⟩ ⟨a1, a2, a3, a4, a5, a6, b6, a7⟩
        dsimp only at a1 a4 a5 a6 a7
        subst a1
        rw [show s + (t - s) = t by omega] at a4
        have Rv : hm_r n b υ := R.fr a5 (by unfold hm_FS hm_FD; omega) (fun k => by unfold hm_FS hm_FD; omega)
        unfold f_M_stepsTold_L48
        dsimp only
        rw [Rv.2.1, a4]
        by_cases e5 : t = n
        · rw [if_pos (by first | omega | (simp (disch := first | assumption | omega) only [↓hp_neg1, hp_l0, hp_l1, hp_l2, hp_l3, hp_l4, hp_l5, hp_l6, hp_l7, hp_l8, hp_l9, hp_l10, hp_l11, hp_l12, hp_l13, hp_l14, hp_l15, hp_l16, hp_l17, hp_l18, hp_l19, hp_l20, hp_l21, hp_l22, hp_l23, hp_l24, hp_l25, hp_l26, hp_l27, hp_l28, hp_l29, hp_l30, hp_l31, hp_l32, hp_l33, hp_l34, hp_l35, hp_l36, hp_l37, hp_l38, hp_l39, hp_l40, hp_l41, hp_l42, hp_l43, hp_l44, hp_l45, hp_l46, hp_l47, hp_l48, hp_l49, hp_l50, hp_l51, hp_l52, hp_l53, hp_l54, hp_l55, hp_l56, hp_l57, hp_l58, hp_l59, hp_l60, hp_l61, hp_l62, hp_l63, hp_l64, hp_l65, hp_l66, hp_l67, hp_l68, hp_l69, hp_l70, hp_l71, hp_l72, hp_l73, hp_l74, hp_l75, hp_l76, hp_l77, hp_l78, hp_l79, hp_l80, hp_l81, hp_l82, hp_l83, hp_l84, hp_l85, hp_l86, hp_l87, hp_l88, hp_l89, hp_l90, hp_l91, hp_l92, hp_l93, hp_l94, hp_l95, hp_l96, hp_l97, hp_l98, hp_l99, hp_l100, hp_l101, hp_l102, hp_l103, hp_l104, hp_l105, hp_l106, hp_l107, hp_l108, hp_l109, hp_l110, hp_l111, hp_l112, hp_l113, hp_l114, hp_l115, hp_l116, hp_l117, hp_l118, hp_l119, hp_l120, hp_l121, hp_l122, hp_l123, hp_l124, hp_l125, hp_l126, hp_l127, hp_l141, hp_l142, hp_l150, hp_l151, hp_l152, hp_l153, hp_l251, hp_l255, hp_l256, hp_l300, hp_l432, hp_l864, hp_l1000, hp_l1600, hp_l1700, hp_l2304, hp_l2916, hp_l3000, hp_l9999, hp_l10000, nI_add, pk_mul, nI_clamp, hl_lt, hl_le, hl_eq, hl_nIb, hl_nsub, hp_eqm, hp_meq, hp_ltm, hp_mlt, hp_lem, hp_mle, hp_addm, hp_meqm, hp_mlem, hp_withinE, hp_within0, if_pos, if_neg, Option.bind_some, hp_let, Sum.elim_inl, Sum.elim_inr, hp_s01, hp_s11, hp_s2, true_and, and_true, if_true, if_false, not_true_eq_false, not_false_eq_true, reduceCtorEq] <;> omega))]
          exact ⟨_, rfl, .inl ⟨υ, rfl, a2, a3, a4, a5, a6, b6, a7⟩⟩
        · have hbt := R.2.2 t (by omega)
          have n1 : ¬ nI n ≤ nI t := by first | omega | (simp (disch := first | assumption | omega) only [↓hp_neg1, hp_l0, hp_l1, hp_l2, hp_l3, hp_l4, hp_l5, hp_l6, hp_l7, hp_l8, hp_l9, hp_l10, hp_l11, hp_l12, hp_l13, hp_l14, hp_l15, hp_l16, hp_l17, hp_l18, hp_l19, hp_l20, hp_l21, hp_l22, hp_l23, hp_l24, hp_l25, hp_l26, hp_l27, hp_l28, hp_l29, hp_l30, hp_l31, hp_l32, hp_l33, hp_l34, hp_l35, hp_l36, hp_l37, hp_l38, hp_l39, hp_l40, hp_l41, hp_l42, hp_l43, hp_l44, hp_l45, hp_l46, hp_l47, hp_l48, hp_l49, hp_l50, hp_l51, hp_l52, hp_l53, hp_l54, hp_l55, hp_l56, hp_l57, hp_l58, hp_l59, hp_l60, hp_l61, hp_l62, hp_l63, hp_l64, hp_l65, hp_l66, hp_l67, hp_l68, hp_l69, hp_l70, hp_l71, hp_l72, hp_l73, hp_l74, hp_l75, hp_l76, hp_l77, hp_l78, hp_l79, hp_l80, hp_l81, hp_l82, hp_l83, hp_l84, hp_l85, hp_l86, hp_l87, hp_l88, hp_l89, hp_l90, hp_l91, hp_l92, hp_l93, hp_l94, hp_l95, hp_l96, hp_l97, hp_l98, hp_l99, hp_l100, hp_l101, hp_l102, hp_l103, hp_l104, hp_l105, hp_l106, hp_l107, hp_l108, hp_l109, hp_l110, hp_l111, hp_l112, hp_l113, hp_l114, hp_l115, hp_l116, hp_l117, hp_l118, hp_l119, hp_l120, hp_l121, hp_l122, hp_l123, hp_l124, hp_l125, hp_l126, hp_l127, hp_l141, hp_l142, hp_l150, hp_l151, hp_l152, hp_l153, hp_l251, hp_l255, hp_l256, hp_l300, hp_l432, hp_l864, hp_l1000, hp_l1600, hp_l1700, hp_l2304, hp_l2916, hp_l3000, hp_l9999, hp_l10000, nI_add, pk_mul, nI_clamp, hl_lt, hl_le, hl_eq, hl_nIb, hl_nsub, hp_eqm, hp_meq, hp_ltm, hp_mlt, hp_lem, hp_mle, hp_addm, hp_meqm, hp_mlem, hp_withinE, hp_within0, if_pos, if_neg, Option.bind_some, hp_let, Sum.elim_inl, Sum.elim_inr, hp_s01, hp_s11, hp_s2, true_and, and_true, if_true, if_false, not_true_eq_false, not_false_eq_true, reduceCtorEq] <;> omega)
          have n2 : hl_b (nI t) 1600 := by first | omega | (simp (disch := first | assumption | omega) only [↓hp_neg1, hp_l0, hp_l1, hp_l2, hp_l3, hp_l4, hp_l5, hp_l6, hp_l7, hp_l8, hp_l9, hp_l10, hp_l11, hp_l12, hp_l13, hp_l14, hp_l15, hp_l16, hp_l17, hp_l18, hp_l19, hp_l20, hp_l21, hp_l22, hp_l23, hp_l24, hp_l25, hp_l26, hp_l27, hp_l28, hp_l29, hp_l30, hp_l31, hp_l32, hp_l33, hp_l34, hp_l35, hp_l36, hp_l37, hp_l38, hp_l39, hp_l40, hp_l41, hp_l42, hp_l43, hp_l44, hp_l45, hp_l46, hp_l47, hp_l48, hp_l49, hp_l50, hp_l51, hp_l52, hp_l53, hp_l54, hp_l55, hp_l56, hp_l57, hp_l58, hp_l59, hp_l60, hp_l61, hp_l62, hp_l63, hp_l64, hp_l65, hp_l66, hp_l67, hp_l68, hp_l69, hp_l70, hp_l71, hp_l72, hp_l73, hp_l74, hp_l75, hp_l76, hp_l77, hp_l78, hp_l79, hp_l80, hp_l81, hp_l82, hp_l83, hp_l84, hp_l85, hp_l86, hp_l87, hp_l88, hp_l89, hp_l90, hp_l91, hp_l92, hp_l93, hp_l94, hp_l95, hp_l96, hp_l97, hp_l98, hp_l99, hp_l100, hp_l101, hp_l102, hp_l103, hp_l104, hp_l105, hp_l106, hp_l107, hp_l108, hp_l109, hp_l110, hp_l111, hp_l112, hp_l113, hp_l114, hp_l115, hp_l116, hp_l117, hp_l118, hp_l119, hp_l120, hp_l121, hp_l122, hp_l123, hp_l124, hp_l125, hp_l126, hp_l127, hp_l141, hp_l142, hp_l150, hp_l151, hp_l152, hp_l153, hp_l251, hp_l255, hp_l256, hp_l300, hp_l432, hp_l864, hp_l1000, hp_l1600, hp_l1700, hp_l2304, hp_l2916, hp_l3000, hp_l9999, hp_l10000, nI_add, pk_mul, nI_clamp, hl_lt, hl_le, hl_eq, hl_nIb, hl_nsub, hp_eqm, hp_meq, hp_ltm, hp_mlt, hp_lem, hp_mle, hp_addm, hp_meqm, hp_mlem, hp_withinE, hp_within0, if_pos, if_neg, Option.bind_some, hp_let, Sum.elim_inl, Sum.elim_inr, hp_s01, hp_s11, hp_s2, true_and, and_true, if_true, if_false, not_true_eq_false, not_false_eq_true, reduceCtorEq] <;> omega)
          have n3 : ¬ hp_kl (b t) = 1 := fun z => f4 (by omega) (by omega) (z.trans e2.symm)
          rw [if_neg n1, if_pos n2, nI_clamp (by omega), (Rv.2.2 _ (by omega)).2, hm_isLetter hbt.1, if_neg n3, if_pos rfl]
          exact ⟨_, rfl, .inl ⟨υ, rfl, a2, a3, a4, a5, a6, b6, a7⟩⟩
    · have ne : ¬ (s < n ∧ hp_kl (b s) = 1 ∧ τ.1 64 4 ≠ nI s) := fun z => e (kd1.mpr z)
      have all := fin _ (h5' (nI s)) FM
      rw [← j0, ← j30] at all
      rw [if_neg e]
      by_cases e1 : s < n
      · have hb := R.2.2 s e1
        rw [if_pos e1, hm_isLetter hb.1]
        by_cases e2 : hp_kl (b s) = 1
        · have e3 : nI s = (hl_si τ 64 2 (nI s)).1 64 4 := by
            rw [hp_sn (by omega)]
            by_cases e4 : τ.1 64 4 = nI s
            · exact e4.symm
            · exact absurd ⟨e1, e2, e4⟩ ne
          rw [if_pos e2, if_neg (show ¬ (1 : Int32) = 0 by decide), hp_s01, if_pos e3]
          exact all
        · rw [if_neg e2, if_pos rfl]
          exact all
      · rw [if_neg e1, show f_M_isLetter (-1) = 0 by decide, if_pos rfl]
        exact all
  · obtain ⟨h1, h2, h3, h4⟩ := H
    unfold f_Rd_wantSteps f_M_stepsTold f_Rd_wantSteps_j27
    rw [h3, if_neg (by decide), if_pos rfl, if_neg (by rw [h2]; exact h1)]
    obtain ⟨r1, r2⟩ := q_failN (f := 1) (p := σ.1 3 2) ⟨h1, h2, h3, h4⟩
    exact ⟨_, _, _, _, rfl, rfl, r2, .rf, .inr r1, fun z => absurd z r1.1⟩
/-- a word that may stand there: the class asks, the model takes it -/
theorem q_takes (J : hl_sB j = W.map nI) (V : hp_wv W v τ) (L : hp_le W) (v64 : v ≠ 64) (T : hx_t n b σ) (R : hm_r n b τ) (H : q_ok n b σ τ) : ∃ τ', hp_fr hm_FD τ τ' ∧ τ'.1 64 5 = 0 ∧ ((f_Rd_isWord j σ = some 0 ∧ f_M_takes v τ = some (0, τ') ∧ q_ok n b σ τ' ∧ τ'.1 64 2 = σ.1 3 2) ∨ (f_Rd_isWord j σ = some 1 ∧ f_M_takes v τ = some (1, τ') ∧ ∃ σ', f_Rd_advance σ = some σ' ∧ hp_fr hx_RD σ σ' ∧ q_ok n b σ' τ')) := by
  have hn := T.1
  obtain ⟨a, s, t, S, E, h5, h2, he, h4, x2, x3, kd, -, -⟩ := q_kind H
  have kd1 := kd 1 (.inl rfl)
  rw [show nI 1 = (1 : Int32) from rfl] at kd1
  have S2 := S.2.1
  have E1 := E.1
  have E2 := E.2.1
  have H' := q_at S H h2 hn
  have FM : hp_fr hm_FD τ (hl_si τ 64 2 (nI s)) := hp_fr.rf.si ⟨rfl, by omega⟩
  unfold f_M_takes
  rcases hx_isWord J L T x2 x3 E1 E2 with ⟨q1, q2, q3⟩ | ⟨q1, q3⟩ <;> rcases hm_isHere V L v64 R h5 h2 S E with ⟨m1, m2, m3, m4, m5⟩ | ⟨m1, m5⟩
  · have ew : nI s + Int32.ofNat W.length = nI t := by
      rw [show Int32.ofNat W.length = nI W.length from rfl, nI_add]
      congr 1
      have := m4.1
      omega
    refine ⟨hl_si (hl_si (hl_si τ 64 2 (nI s)) 64 2 (nI t)) 64 4 ((hl_si (hl_si τ 64 2 (nI s)) 64 2 (nI t)).1 64 2), (FM.si ⟨rfl, by omega⟩).si ⟨rfl, by omega⟩, by rw [hp_sn (by omega), hp_sn (by omega), hp_sn (by omega)]; exact h5, .inr ⟨q3, ?_, ?_⟩⟩
    · rw [m5, Option.bind_some, if_neg (show ¬ (1 : Int32) = 0 by decide), V.1, if_pos rfl, hp_let]
      dsimp only
      have v2 : (hl_si τ 64 2 (nI s)).1 64 2 = nI s := hp_s01
      rw [v2, ew]
    · exact q_adv (k := 1) T x3 E2 q1 (.inl rfl) h4 (by rw [hp_sn (by omega), hp_sn (by omega), hp_sn (by omega)]; exact h5) (by rw [hp_sn (by omega), hp_s01]) (.inl ⟨by decide, by rw [hp_s01, hp_s01]⟩) ⟨H.n5.1, by rw [hp_sn (by omega), hp_sn (by omega), hp_sn (by omega)]; exact H.n5.2⟩
  · exact absurd ⟨(kd1.mp q1).1, (kd1.mp q1).2.1, (kd1.mp q1).2.2, q2⟩ m1
  · exact absurd ⟨kd1.mpr ⟨m1, m2, m3⟩, m4⟩ q1
  · refine ⟨hl_si τ 64 2 (nI s), FM, by rw [hp_sn (by omega)]; exact h5, .inl ⟨q3, ?_, H', by rw [hp_s01, x2]⟩⟩
    rw [m5, Option.bind_some, if_pos rfl]
end STEPS
