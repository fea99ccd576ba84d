/-! the told half stands: distances and walks -/
section RCH
variable {G P : hp_G} {σ τ υ : hl_M} {c : Nat}
theorem hm_reachAll (K : hm0 G P τ) : ∃ τ' ds, hl_lp f_M_stands_L190 hl_big (0, τ) = some τ' ∧ hm0 G P τ' ∧ hp_DS G ds ∧ hm_d G ds τ' ∧ hp_fr (fun q _ => q = 81 ∨ q = 82) τ τ' := by
  have hC := K.wg.C
  have main : ∃ τ', hl_lp f_M_stands_L190 hl_big (0, τ) = some τ' ∧ (hm0 G P τ' ∧ (∃ ds : Nat → Nat → Nat, ∀ a, a < hp_C G → (∀ c, c < 54 → τ'.1 81 (54 * a + c) = nI (ds a c)) ∧ (G 1 a = 0 → hp_D G 1000 a (ds a)) ∧ (G 1 a ≠ 0 → ∀ c, c < 54 → ds a c = 1000)) ∧ hp_fr (fun q _ => q = 81 ∨ q = 82) τ τ') := by
    refine hp_inv (b := f_M_stands_L190) (s := (0, τ)) (hp_C G) (fun j s => s.1 = nI j ∧ hm0 G P s.2 ∧ (∃ ds : Nat → Nat → Nat, ∀ a, a < j → (∀ c, c < 54 → s.2.1 81 (54 * a + c) = nI (ds a c)) ∧ (G 1 a = 0 → hp_D G 1000 a (ds a)) ∧ (G 1 a ≠ 0 → ∀ c, c < 54 → ds a c = 1000)) ∧ hp_fr (fun q _ => q = 81 ∨ q = 82) τ s.2) _ (by omega) ⟨rfl, K, ⟨fun _ _ => 0, fun a ha => absurd ha (Nat.not_lt_zero a)⟩, .rf⟩ ?_ ?_
    · rintro j ⟨q, υ⟩ hj ⟨a1, a2, ⟨ds, a3⟩, a4⟩
      dsimp only at a1 a2 a3 a4
      subst a1
      obtain ⟨υ', d, r1, r2, r3, r4, r5⟩ := hm_reaches a2 hj
      have n1 : ¬ nI (hp_C G) ≤ nI j := by first | omega | (simp (disch := first | assumption | omega) only [↓hp_neg1, hp_l0, hp_l1, hp_l2, hp_l3, hp_l4, hp_l5, hp_l6, hp_l7, hp_l8, hp_l9, hp_l10, hp_l11, hp_l12, hp_l13, hp_l14, hp_l15, hp_l16, hp_l17, hp_l18, hp_l19, hp_l20, hp_l21, hp_l22, hp_l23, hp_l24, hp_l25, hp_l26, hp_l27, hp_l28, hp_l29, hp_l30, hp_l31, hp_l32, hp_l33, hp_l34, hp_l35, hp_l36, hp_l37, hp_l38, hp_l39, hp_l40, hp_l41, hp_l42, hp_l43, hp_l44, hp_l45, hp_l46, hp_l47, hp_l48, hp_l49, hp_l50, hp_l51, hp_l52, hp_l53, hp_l54, hp_l55, hp_l56, hp_l57, hp_l58, hp_l59, hp_l60, hp_l61, hp_l62, hp_l63, hp_l64, hp_l65, hp_l66, hp_l67, hp_l68, hp_l69, hp_l70, hp_l71, hp_l72, hp_l73, hp_l74, hp_l75, hp_l76, hp_l77, hp_l78, hp_l79, hp_l80, hp_l81, hp_l82, hp_l83, hp_l84, hp_l85, hp_l86, hp_l87, hp_l88, hp_l89, hp_l90, hp_l91, hp_l92, hp_l93, hp_l94, hp_l95, hp_l96, hp_l97, hp_l98, hp_l99, hp_l100, hp_l101, hp_l102, hp_l103, hp_l104, hp_l105, hp_l106, hp_l107, hp_l108, hp_l109, hp_l110, hp_l111, hp_l112, hp_l113, hp_l114, hp_l115, hp_l116, hp_l117, hp_l118, hp_l119, hp_l120, hp_l121, hp_l122, hp_l123, hp_l124, hp_l125, hp_l126, hp_l127, hp_l141, hp_l142, hp_l150, hp_l151, hp_l152, hp_l153, hp_l251, hp_l255, hp_l256, hp_l300, hp_l432, hp_l864, hp_l1000, hp_l1600, hp_l1700, hp_l2304, hp_l2916, hp_l3000, hp_l9999, hp_l10000, nI_add, pk_mul, nI_clamp, hl_lt, hl_le, hl_eq, hl_nIb, hl_nsub, hp_eqm, hp_meq, hp_ltm, hp_mlt, hp_lem, hp_mle, hp_addm, hp_meqm, hp_mlem, hp_withinE, hp_within0, if_pos, if_neg, Option.bind_some, hp_let, Sum.elim_inl, Sum.elim_inr, hp_s01, hp_s11, hp_s2, true_and, and_true, if_true, if_false, not_true_eq_false, not_false_eq_true, reduceCtorEq] <;> omega)
      left
      unfold f_M_stands_L190
      dsimp only
      rw [hm_cells0 a2, if_neg n1, r1, Option.bind_some, nI_1]
      refine ⟨_, rfl, rfl, a2.F r5, ⟨fun a => if a = j then d else ds a, fun a ha => ?_⟩, a4.tr (r5.mono (fun q f h => by unfold hm_F at h; omega))⟩
      dsimp only
      by_cases e : a = j
      · rw [if_pos e, e]
        exact ⟨r2, r3, r4⟩
      · rw [if_neg e]
        obtain ⟨g1, g2, g3⟩ := a3 a (by omega)
        refine ⟨fun c hc => ?_, g2, g3⟩
        rw [r5.i (by unfold hm_F; omega)]
        exact g1 c hc
    · rintro ⟨q, υ⟩ ⟨a1, a2, a3, a4⟩
      dsimp only at a1 a2 a3 a4
      subst a1
      unfold f_M_stands_L190
      dsimp only
      rw [hm_cells0 a2, if_pos (by first | omega | (simp (disch := first | assumption | omega) only [↓hp_neg1, hp_l0, hp_l1, hp_l2, hp_l3, hp_l4, hp_l5, hp_l6, hp_l7, hp_l8, hp_l9, hp_l10, hp_l11, hp_l12, hp_l13, hp_l14, hp_l15, hp_l16, hp_l17, hp_l18, hp_l19, hp_l20, hp_l21, hp_l22, hp_l23, hp_l24, hp_l25, hp_l26, hp_l27, hp_l28, hp_l29, hp_l30, hp_l31, hp_l32, hp_l33, hp_l34, hp_l35, hp_l36, hp_l37, hp_l38, hp_l39, hp_l40, hp_l41, hp_l42, hp_l43, hp_l44, hp_l45, hp_l46, hp_l47, hp_l48, hp_l49, hp_l50, hp_l51, hp_l52, hp_l53, hp_l54, hp_l55, hp_l56, hp_l57, hp_l58, hp_l59, hp_l60, hp_l61, hp_l62, hp_l63, hp_l64, hp_l65, hp_l66, hp_l67, hp_l68, hp_l69, hp_l70, hp_l71, hp_l72, hp_l73, hp_l74, hp_l75, hp_l76, hp_l77, hp_l78, hp_l79, hp_l80, hp_l81, hp_l82, hp_l83, hp_l84, hp_l85, hp_l86, hp_l87, hp_l88, hp_l89, hp_l90, hp_l91, hp_l92, hp_l93, hp_l94, hp_l95, hp_l96, hp_l97, hp_l98, hp_l99, hp_l100, hp_l101, hp_l102, hp_l103, hp_l104, hp_l105, hp_l106, hp_l107, hp_l108, hp_l109, hp_l110, hp_l111, hp_l112, hp_l113, hp_l114, hp_l115, hp_l116, hp_l117, hp_l118, hp_l119, hp_l120, hp_l121, hp_l122, hp_l123, hp_l124, hp_l125, hp_l126, hp_l127, hp_l141, hp_l142, hp_l150, hp_l151, hp_l152, hp_l153, hp_l251, hp_l255, hp_l256, hp_l300, hp_l432, hp_l864, hp_l1000, hp_l1600, hp_l1700, hp_l2304, hp_l2916, hp_l3000, hp_l9999, hp_l10000, nI_add, pk_mul, nI_clamp, hl_lt, hl_le, hl_eq, hl_nIb, hl_nsub, hp_eqm, hp_meq, hp_ltm, hp_mlt, hp_lem, hp_mle, hp_addm, hp_meqm, hp_mlem, hp_withinE, hp_within0, if_pos, if_neg, Option.bind_some, hp_let, Sum.elim_inl, Sum.elim_inr, hp_s01, hp_s11, hp_s2, true_and, and_true, if_true, if_false, not_true_eq_false, not_false_eq_true, reduceCtorEq] <;> omega))]
      exact ⟨_, rfl, a2, a3, a4⟩
  obtain ⟨τ', h1, h2, ⟨ds, h3⟩, h4⟩ := main
  exact ⟨τ', ds, h1, h2, fun a ha => (h3 a ha).2, fun a ha => (h3 a ha).1, h4⟩
theorem hm_stands (D : q_D G P σ τ) : ∃ τ' ds, f_M_stands τ = some τ' ∧ hm G P τ' ∧ hp_DS G ds ∧ hm_d G ds τ' ∧ τ'.1 64 50 = 0 ∧ τ'.1 64 47 = 0 ∧ hp_fr hm_SD τ τ' := by
  obtain ⟨τ5, a1, a2, a3⟩ := hm_copies D
  have F6 : hp_fr (fun q f => q = 64 ∧ (f = 50 ∨ f = 47)) τ5 (hl_si (hl_si τ5 64 50 0) 64 47 0) := (hp_fr.rf.si ⟨rfl, .inl rfl⟩).si ⟨rfl, .inr rfl⟩
  have K6 : hm0 G P (hl_si (hl_si τ5 64 50 0) 64 47 0) := a2.fr F6 (fun q f h => by unfold hm_dep0; omega)
  obtain ⟨τ7, ds, b1, b2, b3, b4, b5⟩ := hm_reachAll K6
  obtain ⟨τ8, c1, c2, c3⟩ := hm_walks b2
  have K8 := b2.fr c3 (fun q f h => by unfold hm_dep0; omega)
  unfold f_M_stands
  rw [a1, b1, Option.bind_some, c1, Option.bind_some]
  refine ⟨τ8, ds, rfl, ⟨K8.1, K8.2.1, K8.2.2.1, K8.2.2.2, c2⟩, b3, fun a ha c hc => ?_, ?_, ?_, ?_⟩
  · rw [c3.i (by omega)]; exact b4 a ha c hc
  · rw [c3.i (by omega), b5.i (by omega), hp_sn (by omega), hp_s01]
  · rw [c3.i (by omega), b5.i (by omega), hp_s01]
  · exact ((a3.tr (F6.mono (fun q f h => by unfold hm_SD; omega))).tr (b5.mono (fun q f h => by unfold hm_SD; omega))).tr (c3.mono (fun q f h => by unfold hm_SD; omega))
end RCH
