/-! the nearest word, in what doubt -/
def hp_nb (F : Nat → Nat) : Nat → Nat
  | 0 => 1000
  | n + 1 => if hp_nb F n = 1000 ∨ F n < F (hp_nb F n) then n else hp_nb F n
def hp_nd (F : Nat → Nat) : Nat → Nat
  | 0 => 99
  | n + 1 => if hp_nb F n = 1000 then hp_nd F n else if F n < F (hp_nb F n) then F (hp_nb F n) - F n else if F n - F (hp_nb F n) < hp_nd F n then F n - F (hp_nb F n) else hp_nd F n
def hp_ns (F : Nat → Nat) (a : Nat) : Nat → Nat
  | 0 => 1000
  | n + 1 => if n = a then hp_ns F a n else if hp_ns F a n = 1000 ∨ F n < F (hp_ns F a n) then n else hp_ns F a n
theorem hp_nb_s (F : Nat → Nat) (n : Nat) : hp_nb F (n + 1) = if hp_nb F n = 1000 ∨ F n < F (hp_nb F n) then n else hp_nb F n := rfl
theorem hp_nd_s (F : Nat → Nat) (n : Nat) : hp_nd F (n + 1) = if hp_nb F n = 1000 then hp_nd F n else if F n < F (hp_nb F n) then F (hp_nb F n) - F n else if F n - F (hp_nb F n) < hp_nd F n then F n - F (hp_nb F n) else hp_nd F n := rfl
theorem hp_ns_s (F : Nat → Nat) (a n : Nat) : hp_ns F a (n + 1) = if n = a then hp_ns F a n else if hp_ns F a n = 1000 ∨ F n < F (hp_ns F a n) then n else hp_ns F a n := rfl
theorem hp_nb_le (F : Nat → Nat) : ∀ n, n < 1000 → hp_nb F n = 1000 ∧ n = 0 ∨ hp_nb F n < n
  | 0, _ => .inl ⟨rfl, rfl⟩
  | n + 1, h => by
    have ih := hp_nb_le F n (by omega)
    right
    rw [hp_nb_s]
    split <;> omega
theorem hp_nb_min (F : Nat → Nat) : ∀ n, n < 1000 → ∀ w, w < n → F (hp_nb F n) ≤ F w
  | 0, _, w, hw => by omega
  | n + 1, h, w, hw => by
    have ih := hp_nb_min F n (by omega)
    have hl := hp_nb_le F n (by omega)
    rw [hp_nb_s]
    by_cases e : w = n
    · subst e
      split <;> omega
    · have := ih w (by omega)
      split <;> omega
theorem hp_nd_ok {F : Nat → Nat} (hF : ∀ w, F w ≤ 54) : ∀ n, n + 1 < 1000 → (∀ w, w < n + 1 → w ≠ hp_nb F (n + 1) → F (hp_nb F (n + 1)) + hp_nd F (n + 1) ≤ F w) ∧ ((n = 0 ∧ hp_nd F (n + 1) = 99) ∨ ∃ w, w < n + 1 ∧ w ≠ hp_nb F (n + 1) ∧ F (hp_nb F (n + 1)) + hp_nd F (n + 1) = F w)
  | 0, _ => by
    refine ⟨fun w hw h => ?_, .inl ⟨rfl, rfl⟩⟩
    exfalso
    apply h
    show w = 0
    omega
  | n + 1, h => by
    obtain ⟨i1, i2⟩ := hp_nd_ok hF n (by omega)
    have hm := hp_nb_min F (n + 1) (by omega)
    have hl := hp_nb_le F (n + 1) (by omega)
    have hl2 : hp_nb F (n + 1) < n + 1 := by omega
    have f1 := hF (n + 1)
    have f2 := hF (hp_nb F (n + 1))
    rw [hp_nb_s F (n + 1), hp_nd_s F (n + 1), if_neg (show ¬ hp_nb F (n + 1) = 1000 by omega)]
    by_cases e : F (n + 1) < F (hp_nb F (n + 1))
    · rw [if_pos (.inr e), if_pos e]
      refine ⟨fun w hw hn => ?_, .inr ⟨hp_nb F (n + 1), by omega, by omega, by omega⟩⟩
      have := hm w (by omega)
      omega
    · rw [if_neg (show ¬ (hp_nb F (n + 1) = 1000 ∨ F (n + 1) < F (hp_nb F (n + 1))) by omega), if_neg e]
      by_cases e2 : F (n + 1) - F (hp_nb F (n + 1)) < hp_nd F (n + 1)
      · rw [if_pos e2]
        refine ⟨fun w hw hn => ?_, .inr ⟨n + 1, by omega, by omega, by omega⟩⟩
        by_cases e3 : w = n + 1
        · subst e3; omega
        · have := i1 w (by omega) hn
          omega
      · rw [if_neg e2]
        refine ⟨fun w hw hn => ?_, ?_⟩
        · by_cases e3 : w = n + 1
          · subst e3; omega
          · exact i1 w (by omega) hn
        · rcases i2 with ⟨_, h2⟩ | ⟨w, h1, h2, h3⟩
          · omega
          · exact .inr ⟨w, by omega, h2, h3⟩
theorem hp_ns_ok (F : Nat → Nat) (a : Nat) : ∀ n, n < 1000 → (hp_ns F a n = 1000 ∧ ∀ w, w < n → w = a) ∨ (hp_ns F a n < n ∧ hp_ns F a n ≠ a ∧ ∀ w, w < n → w ≠ a → F (hp_ns F a n) ≤ F w)
  | 0, _ => .inl ⟨rfl, fun w hw => by omega⟩
  | n + 1, h => by
    have ih := hp_ns_ok F a n (by omega)
    rw [hp_ns_s]
    by_cases e : n = a
    · rw [if_pos e]
      rcases ih with ⟨h1, h2⟩ | ⟨h1, h2, h3⟩
      · refine .inl ⟨h1, fun w hw => ?_⟩
        by_cases e2 : w = n
        · omega
        · exact h2 w (by omega)
      · refine .inr ⟨by omega, h2, fun w hw hn => h3 w (by omega) hn⟩
    · rw [if_neg e]
      rcases ih with ⟨h1, h2⟩ | ⟨h1, h2, h3⟩
      · rw [if_pos (.inl h1)]
        refine .inr ⟨by omega, e, fun w hw hn => ?_⟩
        by_cases e2 : w = n
        · subst e2; omega
        · exact absurd (h2 w (by omega)) hn
      · by_cases e3 : F n < F (hp_ns F a n)
        · rw [if_pos (.inr e3)]
          refine .inr ⟨by omega, e, fun w hw hn => ?_⟩
          by_cases e2 : w = n
          · subst e2; omega
          · have := h3 w (by omega) hn
            omega
        · rw [if_neg (by omega)]
          refine .inr ⟨by omega, h2, fun w hw hn => ?_⟩
          by_cases e2 : w = n
          · subst e2; omega
          · exact h3 w (by omega) hn
theorem hp_doubt {F : Nat → Nat} (hF : ∀ w, F w ≤ 54) {n : Nat} (h0 : 0 < n) (h : n < 1000) : (if hp_ns F (hp_nb F n) n = 1000 then 99 else F (hp_ns F (hp_nb F n) n) - F (hp_nb F n)) = hp_nd F n := by
  obtain ⟨m, rfl⟩ : ∃ m, n = m + 1 := ⟨n - 1, by omega⟩
  obtain ⟨d1, d2⟩ := hp_nd_ok hF m h
  have hl := hp_nb_le F (m + 1) h
  have hm := hp_nb_min F (m + 1) h
  rcases hp_ns_ok F (hp_nb F (m + 1)) (m + 1) h with ⟨h1, h2⟩ | ⟨h1, h2, h3⟩
  · rw [if_pos h1]
    rcases d2 with ⟨_, d2⟩ | ⟨w, a1, a2, _⟩
    · exact d2.symm
    · exact absurd (h2 w a1) a2
  · rw [if_neg (by omega)]
    have a1 := d1 _ h1 h2
    rcases d2 with ⟨rfl, _⟩ | ⟨w, b1, b2, b3⟩
    · omega
    · have := h3 w b1 b2
      omega
section NE
variable {G P : hp_G} {σ τ υ : hl_M} {p w c b d m t u : Nat}
theorem hx_nearest {f : Nat → Nat} (H : hx G P σ) (V : hx_v f σ) (hf : ∀ c, f c ≤ 2) : f_Vw_nearestWord σ = some (hp_o (hp_nb (hp_far G f) (G 0 3))) := by
  have hnw := H.wg.nw
  unfold f_Vw_nearestWord
  refine hp_bindE (hp_o (hp_nb (hp_far G f) (G 0 3))) (hp_for' (G 0 3) (fun k => (hp_o (hp_nb (hp_far G f) k), nI k)) rfl (by omega) ?_ ?_) rfl
  · intro k hk
    have hl := hp_nb_le (hp_far G f) k (by omega)
    unfold f_Vw_nearestWord_L4
    dsimp only
    rw [H.nw, if_neg (by first | omega | (simp (disch := first | assumption | omega) only [↓hp_neg1, hp_l0, hp_l1, hp_l2, hp_l3, hp_l4, hp_l5, hp_l6, hp_l7, hp_l8, hp_l9, hp_l10, hp_l11, hp_l12, hp_l13, hp_l14, hp_l15, hp_l16, hp_l17, hp_l18, hp_l19, hp_l20, hp_l21, hp_l22, hp_l23, hp_l24, hp_l25, hp_l26, hp_l27, hp_l28, hp_l29, hp_l30, hp_l31, hp_l32, hp_l33, hp_l34, hp_l35, hp_l36, hp_l37, hp_l38, hp_l39, hp_l40, hp_l41, hp_l42, hp_l43, hp_l44, hp_l45, hp_l46, hp_l47, hp_l48, hp_l49, hp_l50, hp_l51, hp_l52, hp_l53, hp_l54, hp_l55, hp_l56, hp_l57, hp_l58, hp_l59, hp_l60, hp_l61, hp_l62, hp_l63, hp_l64, hp_l65, hp_l66, hp_l67, hp_l68, hp_l69, hp_l70, hp_l71, hp_l72, hp_l73, hp_l74, hp_l75, hp_l76, hp_l77, hp_l78, hp_l79, hp_l80, hp_l81, hp_l82, hp_l83, hp_l84, hp_l85, hp_l86, hp_l87, hp_l88, hp_l89, hp_l90, hp_l91, hp_l92, hp_l93, hp_l94, hp_l95, hp_l96, hp_l97, hp_l98, hp_l99, hp_l100, hp_l101, hp_l102, hp_l103, hp_l104, hp_l105, hp_l106, hp_l107, hp_l108, hp_l109, hp_l110, hp_l111, hp_l112, hp_l113, hp_l114, hp_l115, hp_l116, hp_l117, hp_l118, hp_l119, hp_l120, hp_l121, hp_l122, hp_l123, hp_l124, hp_l125, hp_l126, hp_l127, hp_l141, hp_l142, hp_l150, hp_l151, hp_l152, hp_l153, hp_l251, hp_l255, hp_l256, hp_l300, hp_l432, hp_l864, hp_l1000, hp_l1600, hp_l1700, hp_l2304, hp_l2916, hp_l3000, hp_l9999, hp_l10000, nI_add, pk_mul, nI_clamp, hl_lt, hl_le, hl_eq, hl_nIb, hl_nsub, hp_eqm, hp_meq, hp_ltm, hp_mlt, hp_lem, hp_mle, hp_addm, hp_meqm, hp_mlem, hp_withinE, hp_within0, if_pos, if_neg, Option.bind_some, hp_let, Sum.elim_inl, Sum.elim_inr, hp_s01, hp_s11, hp_s2, true_and, and_true, if_true, if_false, not_true_eq_false, not_false_eq_true, reduceCtorEq] <;> omega)), nI_1, hp_nb_s]
    by_cases e : hp_nb (hp_far G f) k = 1000
    · rw [e, if_pos (show hp_o 1000 = -1 from rfl), if_pos (.inl rfl)]
      unfold hp_o
      rw [if_neg (by omega)]
    · have e2 : hp_o (hp_nb (hp_far G f) k) = nI (hp_nb (hp_far G f) k) := if_neg e
      have l1 := hp_far_le (G := G) (f := f) (w := k)
      have l2 := hp_far_le (G := G) (f := f) (w := hp_nb (hp_far G f) k)
      rw [e2, if_neg (by first | omega | (simp (disch := first | assumption | omega) only [↓hp_neg1, hp_l0, hp_l1, hp_l2, hp_l3, hp_l4, hp_l5, hp_l6, hp_l7, hp_l8, hp_l9, hp_l10, hp_l11, hp_l12, hp_l13, hp_l14, hp_l15, hp_l16, hp_l17, hp_l18, hp_l19, hp_l20, hp_l21, hp_l22, hp_l23, hp_l24, hp_l25, hp_l26, hp_l27, hp_l28, hp_l29, hp_l30, hp_l31, hp_l32, hp_l33, hp_l34, hp_l35, hp_l36, hp_l37, hp_l38, hp_l39, hp_l40, hp_l41, hp_l42, hp_l43, hp_l44, hp_l45, hp_l46, hp_l47, hp_l48, hp_l49, hp_l50, hp_l51, hp_l52, hp_l53, hp_l54, hp_l55, hp_l56, hp_l57, hp_l58, hp_l59, hp_l60, hp_l61, hp_l62, hp_l63, hp_l64, hp_l65, hp_l66, hp_l67, hp_l68, hp_l69, hp_l70, hp_l71, hp_l72, hp_l73, hp_l74, hp_l75, hp_l76, hp_l77, hp_l78, hp_l79, hp_l80, hp_l81, hp_l82, hp_l83, hp_l84, hp_l85, hp_l86, hp_l87, hp_l88, hp_l89, hp_l90, hp_l91, hp_l92, hp_l93, hp_l94, hp_l95, hp_l96, hp_l97, hp_l98, hp_l99, hp_l100, hp_l101, hp_l102, hp_l103, hp_l104, hp_l105, hp_l106, hp_l107, hp_l108, hp_l109, hp_l110, hp_l111, hp_l112, hp_l113, hp_l114, hp_l115, hp_l116, hp_l117, hp_l118, hp_l119, hp_l120, hp_l121, hp_l122, hp_l123, hp_l124, hp_l125, hp_l126, hp_l127, hp_l141, hp_l142, hp_l150, hp_l151, hp_l152, hp_l153, hp_l251, hp_l255, hp_l256, hp_l300, hp_l432, hp_l864, hp_l1000, hp_l1600, hp_l1700, hp_l2304, hp_l2916, hp_l3000, hp_l9999, hp_l10000, nI_add, pk_mul, nI_clamp, hl_lt, hl_le, hl_eq, hl_nIb, hl_nsub, hp_eqm, hp_meq, hp_ltm, hp_mlt, hp_lem, hp_mle, hp_addm, hp_meqm, hp_mlem, hp_withinE, hp_within0, if_pos, if_neg, Option.bind_some, hp_let, Sum.elim_inl, Sum.elim_inr, hp_s01, hp_s11, hp_s2, true_and, and_true, if_true, if_false, not_true_eq_false, not_false_eq_true, reduceCtorEq] <;> omega)), hx_far H V hf hk, Option.bind_some, hx_far H V hf (by omega), Option.bind_some]
      by_cases e3 : hp_far G f k < hp_far G f (hp_nb (hp_far G f) k)
      · rw [if_neg (by first | omega | (simp (disch := first | assumption | omega) only [↓hp_neg1, hp_l0, hp_l1, hp_l2, hp_l3, hp_l4, hp_l5, hp_l6, hp_l7, hp_l8, hp_l9, hp_l10, hp_l11, hp_l12, hp_l13, hp_l14, hp_l15, hp_l16, hp_l17, hp_l18, hp_l19, hp_l20, hp_l21, hp_l22, hp_l23, hp_l24, hp_l25, hp_l26, hp_l27, hp_l28, hp_l29, hp_l30, hp_l31, hp_l32, hp_l33, hp_l34, hp_l35, hp_l36, hp_l37, hp_l38, hp_l39, hp_l40, hp_l41, hp_l42, hp_l43, hp_l44, hp_l45, hp_l46, hp_l47, hp_l48, hp_l49, hp_l50, hp_l51, hp_l52, hp_l53, hp_l54, hp_l55, hp_l56, hp_l57, hp_l58, hp_l59, hp_l60, hp_l61, hp_l62, hp_l63, hp_l64, hp_l65, hp_l66, hp_l67, hp_l68, hp_l69, hp_l70, hp_l71, hp_l72, hp_l73, hp_l74, hp_l75, hp_l76, hp_l77, hp_l78, hp_l79, hp_l80, hp_l81, hp_l82, hp_l83, hp_l84, hp_l85, hp_l86, hp_l87, hp_l88, hp_l89, hp_l90, hp_l91, hp_l92, hp_l93, hp_l94, hp_l95, hp_l96, hp_l97, hp_l98, hp_l99, hp_l100, hp_l101, hp_l102, hp_l103, hp_l104, hp_l105, hp_l106, hp_l107, hp_l108, hp_l109, hp_l110, hp_l111, hp_l112, hp_l113, hp_l114, hp_l115, hp_l116, hp_l117, hp_l118, hp_l119, hp_l120, hp_l121, hp_l122, hp_l123, hp_l124, hp_l125, hp_l126, hp_l127, hp_l141, hp_l142, hp_l150, hp_l151, hp_l152, hp_l153, hp_l251, hp_l255, hp_l256, hp_l300, hp_l432, hp_l864, hp_l1000, hp_l1600, hp_l1700, hp_l2304, hp_l2916, hp_l3000, hp_l9999, hp_l10000, nI_add, pk_mul, nI_clamp, hl_lt, hl_le, hl_eq, hl_nIb, hl_nsub, hp_eqm, hp_meq, hp_ltm, hp_mlt, hp_lem, hp_mle, hp_addm, hp_meqm, hp_mlem, hp_withinE, hp_within0, if_pos, if_neg, Option.bind_some, hp_let, Sum.elim_inl, Sum.elim_inr, hp_s01, hp_s11, hp_s2, true_and, and_true, if_true, if_false, not_true_eq_false, not_false_eq_true, reduceCtorEq] <;> omega)), if_pos (.inr e3)]
        unfold hp_o
        rw [if_neg (by omega)]
      · rw [if_pos (by first | omega | (simp (disch := first | assumption | omega) only [↓hp_neg1, hp_l0, hp_l1, hp_l2, hp_l3, hp_l4, hp_l5, hp_l6, hp_l7, hp_l8, hp_l9, hp_l10, hp_l11, hp_l12, hp_l13, hp_l14, hp_l15, hp_l16, hp_l17, hp_l18, hp_l19, hp_l20, hp_l21, hp_l22, hp_l23, hp_l24, hp_l25, hp_l26, hp_l27, hp_l28, hp_l29, hp_l30, hp_l31, hp_l32, hp_l33, hp_l34, hp_l35, hp_l36, hp_l37, hp_l38, hp_l39, hp_l40, hp_l41, hp_l42, hp_l43, hp_l44, hp_l45, hp_l46, hp_l47, hp_l48, hp_l49, hp_l50, hp_l51, hp_l52, hp_l53, hp_l54, hp_l55, hp_l56, hp_l57, hp_l58, hp_l59, hp_l60, hp_l61, hp_l62, hp_l63, hp_l64, hp_l65, hp_l66, hp_l67, hp_l68, hp_l69, hp_l70, hp_l71, hp_l72, hp_l73, hp_l74, hp_l75, hp_l76, hp_l77, hp_l78, hp_l79, hp_l80, hp_l81, hp_l82, hp_l83, hp_l84, hp_l85, hp_l86, hp_l87, hp_l88, hp_l89, hp_l90, hp_l91, hp_l92, hp_l93, hp_l94, hp_l95, hp_l96, hp_l97, hp_l98, hp_l99, hp_l100, hp_l101, hp_l102, hp_l103, hp_l104, hp_l105, hp_l106, hp_l107, hp_l108, hp_l109, hp_l110, hp_l111, hp_l112, hp_l113, hp_l114, hp_l115, hp_l116, hp_l117, hp_l118, hp_l119, hp_l120, hp_l121, hp_l122, hp_l123, hp_l124, hp_l125, hp_l126, hp_l127, hp_l141, hp_l142, hp_l150, hp_l151, hp_l152, hp_l153, hp_l251, hp_l255, hp_l256, hp_l300, hp_l432, hp_l864, hp_l1000, hp_l1600, hp_l1700, hp_l2304, hp_l2916, hp_l3000, hp_l9999, hp_l10000, nI_add, pk_mul, nI_clamp, hl_lt, hl_le, hl_eq, hl_nIb, hl_nsub, hp_eqm, hp_meq, hp_ltm, hp_mlt, hp_lem, hp_mle, hp_addm, hp_meqm, hp_mlem, hp_withinE, hp_within0, if_pos, if_neg, Option.bind_some, hp_let, Sum.elim_inl, Sum.elim_inr, hp_s01, hp_s11, hp_s2, true_and, and_true, if_true, if_false, not_true_eq_false, not_false_eq_true, reduceCtorEq] <;> omega)), if_neg (by omega), e2]
  · unfold f_Vw_nearestWord_L4
    dsimp only
    rw [H.nw, if_pos (by first | omega | (simp (disch := first | assumption | omega) only [↓hp_neg1, hp_l0, hp_l1, hp_l2, hp_l3, hp_l4, hp_l5, hp_l6, hp_l7, hp_l8, hp_l9, hp_l10, hp_l11, hp_l12, hp_l13, hp_l14, hp_l15, hp_l16, hp_l17, hp_l18, hp_l19, hp_l20, hp_l21, hp_l22, hp_l23, hp_l24, hp_l25, hp_l26, hp_l27, hp_l28, hp_l29, hp_l30, hp_l31, hp_l32, hp_l33, hp_l34, hp_l35, hp_l36, hp_l37, hp_l38, hp_l39, hp_l40, hp_l41, hp_l42, hp_l43, hp_l44, hp_l45, hp_l46, hp_l47, hp_l48, hp_l49, hp_l50, hp_l51, hp_l52, hp_l53, hp_l54, hp_l55, hp_l56, hp_l57, hp_l58, hp_l59, hp_l60, hp_l61, hp_l62, hp_l63, hp_l64, hp_l65, hp_l66, hp_l67, hp_l68, hp_l69, hp_l70, hp_l71, hp_l72, hp_l73, hp_l74, hp_l75, hp_l76, hp_l77, hp_l78, hp_l79, hp_l80, hp_l81, hp_l82, hp_l83, hp_l84, hp_l85, hp_l86, hp_l87, hp_l88, hp_l89, hp_l90, hp_l91, hp_l92, hp_l93, hp_l94, hp_l95, hp_l96, hp_l97, hp_l98, hp_l99, hp_l100, hp_l101, hp_l102, hp_l103, hp_l104, hp_l105, hp_l106, hp_l107, hp_l108, hp_l109, hp_l110, hp_l111, hp_l112, hp_l113, hp_l114, hp_l115, hp_l116, hp_l117, hp_l118, hp_l119, hp_l120, hp_l121, hp_l122, hp_l123, hp_l124, hp_l125, hp_l126, hp_l127, hp_l141, hp_l142, hp_l150, hp_l151, hp_l152, hp_l153, hp_l251, hp_l255, hp_l256, hp_l300, hp_l432, hp_l864, hp_l1000, hp_l1600, hp_l1700, hp_l2304, hp_l2916, hp_l3000, hp_l9999, hp_l10000, nI_add, pk_mul, nI_clamp, hl_lt, hl_le, hl_eq, hl_nIb, hl_nsub, hp_eqm, hp_meq, hp_ltm, hp_mlt, hp_lem, hp_mle, hp_addm, hp_meqm, hp_mlem, hp_withinE, hp_within0, if_pos, if_neg, Option.bind_some, hp_let, Sum.elim_inl, Sum.elim_inr, hp_s01, hp_s11, hp_s2, true_and, and_true, if_true, if_false, not_true_eq_false, not_false_eq_true, reduceCtorEq] <;> omega))]
theorem hx_doubt {f : Nat → Nat} (H : hx G P σ) (V : hx_v f σ) (hf : ∀ c, f c ≤ 2) (h0 : 0 < G 0 3) : f_Vw_doubtNow σ = some (nI (hp_nd (hp_far G f) (G 0 3))) := by
  have hnw := H.wg.nw
  have hl := hp_nb_le (hp_far G f) (G 0 3) (by omega)
  have hF : ∀ w, hp_far G f w ≤ 54 := fun w => hp_far_le
  unfold f_Vw_doubtNow
  rw [hx_nearest H V hf, Option.bind_some, ← hp_doubt hF h0 (by omega)]
  have ea : hp_o (hp_nb (hp_far G f) (G 0 3)) = nI (hp_nb (hp_far G f) (G 0 3)) := if_neg (by omega)
  generalize hA : hp_nb (hp_far G f) (G 0 3) = a at *
  have hm := hp_nb_min (hp_far G f) (G 0 3) (by omega)
  rw [hA] at hm
  refine hp_bindE (hp_o (hp_ns (hp_far G f) a (G 0 3))) (hp_for' (G 0 3) (fun k => (hp_o (hp_ns (hp_far G f) a k), nI k)) rfl (by omega) ?_ ?_) ?_
  · intro k hk
    have hl := hp_ns_ok (hp_far G f) a k (by omega)
    unfold f_Vw_doubtNow_L9
    dsimp only
    rw [H.nw, if_neg (by first | omega | (simp (disch := first | assumption | omega) only [↓hp_neg1, hp_l0, hp_l1, hp_l2, hp_l3, hp_l4, hp_l5, hp_l6, hp_l7, hp_l8, hp_l9, hp_l10, hp_l11, hp_l12, hp_l13, hp_l14, hp_l15, hp_l16, hp_l17, hp_l18, hp_l19, hp_l20, hp_l21, hp_l22, hp_l23, hp_l24, hp_l25, hp_l26, hp_l27, hp_l28, hp_l29, hp_l30, hp_l31, hp_l32, hp_l33, hp_l34, hp_l35, hp_l36, hp_l37, hp_l38, hp_l39, hp_l40, hp_l41, hp_l42, hp_l43, hp_l44, hp_l45, hp_l46, hp_l47, hp_l48, hp_l49, hp_l50, hp_l51, hp_l52, hp_l53, hp_l54, hp_l55, hp_l56, hp_l57, hp_l58, hp_l59, hp_l60, hp_l61, hp_l62, hp_l63, hp_l64, hp_l65, hp_l66, hp_l67, hp_l68, hp_l69, hp_l70, hp_l71, hp_l72, hp_l73, hp_l74, hp_l75, hp_l76, hp_l77, hp_l78, hp_l79, hp_l80, hp_l81, hp_l82, hp_l83, hp_l84, hp_l85, hp_l86, hp_l87, hp_l88, hp_l89, hp_l90, hp_l91, hp_l92, hp_l93, hp_l94, hp_l95, hp_l96, hp_l97, hp_l98, hp_l99, hp_l100, hp_l101, hp_l102, hp_l103, hp_l104, hp_l105, hp_l106, hp_l107, hp_l108, hp_l109, hp_l110, hp_l111, hp_l112, hp_l113, hp_l114, hp_l115, hp_l116, hp_l117, hp_l118, hp_l119, hp_l120, hp_l121, hp_l122, hp_l123, hp_l124, hp_l125, hp_l126, hp_l127, hp_l141, hp_l142, hp_l150, hp_l151, hp_l152, hp_l153, hp_l251, hp_l255, hp_l256, hp_l300, hp_l432, hp_l864, hp_l1000, hp_l1600, hp_l1700, hp_l2304, hp_l2916, hp_l3000, hp_l9999, hp_l10000, nI_add, pk_mul, nI_clamp, hl_lt, hl_le, hl_eq, hl_nIb, hl_nsub, hp_eqm, hp_meq, hp_ltm, hp_mlt, hp_lem, hp_mle, hp_addm, hp_meqm, hp_mlem, hp_withinE, hp_within0, if_pos, if_neg, Option.bind_some, hp_let, Sum.elim_inl, Sum.elim_inr, hp_s01, hp_s11, hp_s2, true_and, and_true, if_true, if_false, not_true_eq_false, not_false_eq_true, reduceCtorEq] <;> omega)), nI_1, hp_ns_s, ea]
    by_cases e0 : k = a
    · rw [if_pos (by rw [e0]), if_pos e0]
    · rw [if_neg (by first | omega | (simp (disch := first | assumption | omega) only [↓hp_neg1, hp_l0, hp_l1, hp_l2, hp_l3, hp_l4, hp_l5, hp_l6, hp_l7, hp_l8, hp_l9, hp_l10, hp_l11, hp_l12, hp_l13, hp_l14, hp_l15, hp_l16, hp_l17, hp_l18, hp_l19, hp_l20, hp_l21, hp_l22, hp_l23, hp_l24, hp_l25, hp_l26, hp_l27, hp_l28, hp_l29, hp_l30, hp_l31, hp_l32, hp_l33, hp_l34, hp_l35, hp_l36, hp_l37, hp_l38, hp_l39, hp_l40, hp_l41, hp_l42, hp_l43, hp_l44, hp_l45, hp_l46, hp_l47, hp_l48, hp_l49, hp_l50, hp_l51, hp_l52, hp_l53, hp_l54, hp_l55, hp_l56, hp_l57, hp_l58, hp_l59, hp_l60, hp_l61, hp_l62, hp_l63, hp_l64, hp_l65, hp_l66, hp_l67, hp_l68, hp_l69, hp_l70, hp_l71, hp_l72, hp_l73, hp_l74, hp_l75, hp_l76, hp_l77, hp_l78, hp_l79, hp_l80, hp_l81, hp_l82, hp_l83, hp_l84, hp_l85, hp_l86, hp_l87, hp_l88, hp_l89, hp_l90, hp_l91, hp_l92, hp_l93, hp_l94, hp_l95, hp_l96, hp_l97, hp_l98, hp_l99, hp_l100, hp_l101, hp_l102, hp_l103, hp_l104, hp_l105, hp_l106, hp_l107, hp_l108, hp_l109, hp_l110, hp_l111, hp_l112, hp_l113, hp_l114, hp_l115, hp_l116, hp_l117, hp_l118, hp_l119, hp_l120, hp_l121, hp_l122, hp_l123, hp_l124, hp_l125, hp_l126, hp_l127, hp_l141, hp_l142, hp_l150, hp_l151, hp_l152, hp_l153, hp_l251, hp_l255, hp_l256, hp_l300, hp_l432, hp_l864, hp_l1000, hp_l1600, hp_l1700, hp_l2304, hp_l2916, hp_l3000, hp_l9999, hp_l10000, nI_add, pk_mul, nI_clamp, hl_lt, hl_le, hl_eq, hl_nIb, hl_nsub, hp_eqm, hp_meq, hp_ltm, hp_mlt, hp_lem, hp_mle, hp_addm, hp_meqm, hp_mlem, hp_withinE, hp_within0, if_pos, if_neg, Option.bind_some, hp_let, Sum.elim_inl, Sum.elim_inr, hp_s01, hp_s11, hp_s2, true_and, and_true, if_true, if_false, not_true_eq_false, not_false_eq_true, reduceCtorEq] <;> omega)), if_neg e0]
      by_cases e : hp_ns (hp_far G f) a k = 1000
      · rw [e, if_pos (show hp_o 1000 = -1 from rfl), if_pos (.inl rfl)]
        unfold hp_o
        rw [if_neg (by omega)]
      · have hlt : hp_ns (hp_far G f) a k < k := by rcases hl with h | h <;> omega
        have e2 : hp_o (hp_ns (hp_far G f) a k) = nI (hp_ns (hp_far G f) a k) := if_neg e
        have l1 := hp_far_le (G := G) (f := f) (w := k)
        have l2 := hp_far_le (G := G) (f := f) (w := hp_ns (hp_far G f) a k)
        rw [e2, if_neg (by first | omega | (simp (disch := first | assumption | omega) only [↓hp_neg1, hp_l0, hp_l1, hp_l2, hp_l3, hp_l4, hp_l5, hp_l6, hp_l7, hp_l8, hp_l9, hp_l10, hp_l11, hp_l12, hp_l13, hp_l14, hp_l15, hp_l16, hp_l17, hp_l18, hp_l19, hp_l20, hp_l21, hp_l22, hp_l23, hp_l24, hp_l25, hp_l26, hp_l27, hp_l28, hp_l29, hp_l30, hp_l31, hp_l32, hp_l33, hp_l34, hp_l35, hp_l36, hp_l37, hp_l38, hp_l39, hp_l40, hp_l41, hp_l42, hp_l43, hp_l44, hp_l45, hp_l46, hp_l47, hp_l48, hp_l49, hp_l50, hp_l51, hp_l52, hp_l53, hp_l54, hp_l55, hp_l56, hp_l57, hp_l58, hp_l59, hp_l60, hp_l61, hp_l62, hp_l63, hp_l64, hp_l65, hp_l66, hp_l67, hp_l68, hp_l69, hp_l70, hp_l71, hp_l72, hp_l73, hp_l74, hp_l75, hp_l76, hp_l77, hp_l78, hp_l79, hp_l80, hp_l81, hp_l82, hp_l83, hp_l84, hp_l85, hp_l86, hp_l87, hp_l88, hp_l89, hp_l90, hp_l91, hp_l92, hp_l93, hp_l94, hp_l95, hp_l96, hp_l97, hp_l98, hp_l99, hp_l100, hp_l101, hp_l102, hp_l103, hp_l104, hp_l105, hp_l106, hp_l107, hp_l108, hp_l109, hp_l110, hp_l111, hp_l112, hp_l113, hp_l114, hp_l115, hp_l116, hp_l117, hp_l118, hp_l119, hp_l120, hp_l121, hp_l122, hp_l123, hp_l124, hp_l125, hp_l126, hp_l127, hp_l141, hp_l142, hp_l150, hp_l151, hp_l152, hp_l153, hp_l251, hp_l255, hp_l256, hp_l300, hp_l432, hp_l864, hp_l1000, hp_l1600, hp_l1700, hp_l2304, hp_l2916, hp_l3000, hp_l9999, hp_l10000, nI_add, pk_mul, nI_clamp, hl_lt, hl_le, hl_eq, hl_nIb, hl_nsub, hp_eqm, hp_meq, hp_ltm, hp_mlt, hp_lem, hp_mle, hp_addm, hp_meqm, hp_mlem, hp_withinE, hp_within0, if_pos, if_neg, Option.bind_some, hp_let, Sum.elim_inl, Sum.elim_inr, hp_s01, hp_s11, hp_s2, true_and, and_true, if_true, if_false, not_true_eq_false, not_false_eq_true, reduceCtorEq] <;> omega)), hx_far H V hf hk, Option.bind_some, hx_far H V hf (by omega), Option.bind_some]
        by_cases e3 : hp_far G f k < hp_far G f (hp_ns (hp_far G f) a k)
        · rw [if_neg (by first | omega | (simp (disch := first | assumption | omega) only [↓hp_neg1, hp_l0, hp_l1, hp_l2, hp_l3, hp_l4, hp_l5, hp_l6, hp_l7, hp_l8, hp_l9, hp_l10, hp_l11, hp_l12, hp_l13, hp_l14, hp_l15, hp_l16, hp_l17, hp_l18, hp_l19, hp_l20, hp_l21, hp_l22, hp_l23, hp_l24, hp_l25, hp_l26, hp_l27, hp_l28, hp_l29, hp_l30, hp_l31, hp_l32, hp_l33, hp_l34, hp_l35, hp_l36, hp_l37, hp_l38, hp_l39, hp_l40, hp_l41, hp_l42, hp_l43, hp_l44, hp_l45, hp_l46, hp_l47, hp_l48, hp_l49, hp_l50, hp_l51, hp_l52, hp_l53, hp_l54, hp_l55, hp_l56, hp_l57, hp_l58, hp_l59, hp_l60, hp_l61, hp_l62, hp_l63, hp_l64, hp_l65, hp_l66, hp_l67, hp_l68, hp_l69, hp_l70, hp_l71, hp_l72, hp_l73, hp_l74, hp_l75, hp_l76, hp_l77, hp_l78, hp_l79, hp_l80, hp_l81, hp_l82, hp_l83, hp_l84, hp_l85, hp_l86, hp_l87, hp_l88, hp_l89, hp_l90, hp_l91, hp_l92, hp_l93, hp_l94, hp_l95, hp_l96, hp_l97, hp_l98, hp_l99, hp_l100, hp_l101, hp_l102, hp_l103, hp_l104, hp_l105, hp_l106, hp_l107, hp_l108, hp_l109, hp_l110, hp_l111, hp_l112, hp_l113, hp_l114, hp_l115, hp_l116, hp_l117, hp_l118, hp_l119, hp_l120, hp_l121, hp_l122, hp_l123, hp_l124, hp_l125, hp_l126, hp_l127, hp_l141, hp_l142, hp_l150, hp_l151, hp_l152, hp_l153, hp_l251, hp_l255, hp_l256, hp_l300, hp_l432, hp_l864, hp_l1000, hp_l1600, hp_l1700, hp_l2304, hp_l2916, hp_l3000, hp_l9999, hp_l10000, nI_add, pk_mul, nI_clamp, hl_lt, hl_le, hl_eq, hl_nIb, hl_nsub, hp_eqm, hp_meq, hp_ltm, hp_mlt, hp_lem, hp_mle, hp_addm, hp_meqm, hp_mlem, hp_withinE, hp_within0, if_pos, if_neg, Option.bind_some, hp_let, Sum.elim_inl, Sum.elim_inr, hp_s01, hp_s11, hp_s2, true_and, and_true, if_true, if_false, not_true_eq_false, not_false_eq_true, reduceCtorEq] <;> omega)), if_pos (.inr e3)]
          unfold hp_o
          rw [if_neg (by omega)]
        · rw [if_pos (by first | omega | (simp (disch := first | assumption | omega) only [↓hp_neg1, hp_l0, hp_l1, hp_l2, hp_l3, hp_l4, hp_l5, hp_l6, hp_l7, hp_l8, hp_l9, hp_l10, hp_l11, hp_l12, hp_l13, hp_l14, hp_l15, hp_l16, hp_l17, hp_l18, hp_l19, hp_l20, hp_l21, hp_l22, hp_l23, hp_l24, hp_l25, hp_l26, hp_l27, hp_l28, hp_l29, hp_l30, hp_l31, hp_l32, hp_l33, hp_l34, hp_l35, hp_l36, hp_l37, hp_l38, hp_l39, hp_l40, hp_l41, hp_l42, hp_l43, hp_l44, hp_l45, hp_l46, hp_l47, hp_l48, hp_l49, hp_l50, hp_l51, hp_l52, hp_l53, hp_l54, hp_l55, hp_l56, hp_l57, hp_l58, hp_l59, hp_l60, hp_l61, hp_l62, hp_l63, hp_l64, hp_l65, hp_l66, hp_l67, hp_l68, hp_l69, hp_l70, hp_l71, hp_l72, hp_l73, hp_l74, hp_l75, hp_l76, hp_l77, hp_l78, hp_l79, hp_l80, hp_l81, hp_l82, hp_l83, hp_l84, hp_l85, hp_l86, hp_l87, hp_l88, hp_l89, hp_l90, hp_l91, hp_l92, hp_l93, hp_l94, hp_l95, hp_l96, hp_l97, hp_l98, hp_l99, hp_l100, hp_l101, hp_l102, hp_l103, hp_l104, hp_l105, hp_l106, hp_l107, hp_l108, hp_l109, hp_l110, hp_l111, hp_l112, hp_l113, hp_l114, hp_l115, hp_l116, hp_l117, hp_l118, hp_l119, hp_l120, hp_l121, hp_l122, hp_l123, hp_l124, hp_l125, hp_l126, hp_l127, hp_l141, hp_l142, hp_l150, hp_l151, hp_l152, hp_l153, hp_l251, hp_l255, hp_l256, hp_l300, hp_l432, hp_l864, hp_l1000, hp_l1600, hp_l1700, hp_l2304, hp_l2916, hp_l3000, hp_l9999, hp_l10000, nI_add, pk_mul, nI_clamp, hl_lt, hl_le, hl_eq, hl_nIb, hl_nsub, hp_eqm, hp_meq, hp_ltm, hp_mlt, hp_lem, hp_mle, hp_addm, hp_meqm, hp_mlem, hp_withinE, hp_within0, if_pos, if_neg, Option.bind_some, hp_let, Sum.elim_inl, Sum.elim_inr, hp_s01, hp_s11, hp_s2, true_and, and_true, if_true, if_false, not_true_eq_false, not_false_eq_true, reduceCtorEq] <;> omega)), if_neg (by omega), e2]
  · unfold f_Vw_doubtNow_L9
    dsimp only
    rw [H.nw, if_pos (by first | omega | (simp (disch := first | assumption | omega) only [↓hp_neg1, hp_l0, hp_l1, hp_l2, hp_l3, hp_l4, hp_l5, hp_l6, hp_l7, hp_l8, hp_l9, hp_l10, hp_l11, hp_l12, hp_l13, hp_l14, hp_l15, hp_l16, hp_l17, hp_l18, hp_l19, hp_l20, hp_l21, hp_l22, hp_l23, hp_l24, hp_l25, hp_l26, hp_l27, hp_l28, hp_l29, hp_l30, hp_l31, hp_l32, hp_l33, hp_l34, hp_l35, hp_l36, hp_l37, hp_l38, hp_l39, hp_l40, hp_l41, hp_l42, hp_l43, hp_l44, hp_l45, hp_l46, hp_l47, hp_l48, hp_l49, hp_l50, hp_l51, hp_l52, hp_l53, hp_l54, hp_l55, hp_l56, hp_l57, hp_l58, hp_l59, hp_l60, hp_l61, hp_l62, hp_l63, hp_l64, hp_l65, hp_l66, hp_l67, hp_l68, hp_l69, hp_l70, hp_l71, hp_l72, hp_l73, hp_l74, hp_l75, hp_l76, hp_l77, hp_l78, hp_l79, hp_l80, hp_l81, hp_l82, hp_l83, hp_l84, hp_l85, hp_l86, hp_l87, hp_l88, hp_l89, hp_l90, hp_l91, hp_l92, hp_l93, hp_l94, hp_l95, hp_l96, hp_l97, hp_l98, hp_l99, hp_l100, hp_l101, hp_l102, hp_l103, hp_l104, hp_l105, hp_l106, hp_l107, hp_l108, hp_l109, hp_l110, hp_l111, hp_l112, hp_l113, hp_l114, hp_l115, hp_l116, hp_l117, hp_l118, hp_l119, hp_l120, hp_l121, hp_l122, hp_l123, hp_l124, hp_l125, hp_l126, hp_l127, hp_l141, hp_l142, hp_l150, hp_l151, hp_l152, hp_l153, hp_l251, hp_l255, hp_l256, hp_l300, hp_l432, hp_l864, hp_l1000, hp_l1600, hp_l1700, hp_l2304, hp_l2916, hp_l3000, hp_l9999, hp_l10000, nI_add, pk_mul, nI_clamp, hl_lt, hl_le, hl_eq, hl_nIb, hl_nsub, hp_eqm, hp_meq, hp_ltm, hp_mlt, hp_lem, hp_mle, hp_addm, hp_meqm, hp_mlem, hp_withinE, hp_within0, if_pos, if_neg, Option.bind_some, hp_let, Sum.elim_inl, Sum.elim_inr, hp_s01, hp_s11, hp_s2, true_and, and_true, if_true, if_false, not_true_eq_false, not_false_eq_true, reduceCtorEq] <;> omega))]
  · have hl := hp_ns_ok (hp_far G f) a (G 0 3) (by omega)
    by_cases e : hp_ns (hp_far G f) a (G 0 3) = 1000
    · rw [e, if_pos (show hp_o 1000 = -1 from rfl), if_pos rfl]
      rfl
    · have hlt : hp_ns (hp_far G f) a (G 0 3) < G 0 3 := by rcases hl with h | h <;> omega
      have e2 : hp_o (hp_ns (hp_far G f) a (G 0 3)) = nI (hp_ns (hp_far G f) a (G 0 3)) := if_neg e
      have := hm _ hlt
      rw [e2, if_neg (by first | omega | (simp (disch := first | assumption | omega) only [↓hp_neg1, hp_l0, hp_l1, hp_l2, hp_l3, hp_l4, hp_l5, hp_l6, hp_l7, hp_l8, hp_l9, hp_l10, hp_l11, hp_l12, hp_l13, hp_l14, hp_l15, hp_l16, hp_l17, hp_l18, hp_l19, hp_l20, hp_l21, hp_l22, hp_l23, hp_l24, hp_l25, hp_l26, hp_l27, hp_l28, hp_l29, hp_l30, hp_l31, hp_l32, hp_l33, hp_l34, hp_l35, hp_l36, hp_l37, hp_l38, hp_l39, hp_l40, hp_l41, hp_l42, hp_l43, hp_l44, hp_l45, hp_l46, hp_l47, hp_l48, hp_l49, hp_l50, hp_l51, hp_l52, hp_l53, hp_l54, hp_l55, hp_l56, hp_l57, hp_l58, hp_l59, hp_l60, hp_l61, hp_l62, hp_l63, hp_l64, hp_l65, hp_l66, hp_l67, hp_l68, hp_l69, hp_l70, hp_l71, hp_l72, hp_l73, hp_l74, hp_l75, hp_l76, hp_l77, hp_l78, hp_l79, hp_l80, hp_l81, hp_l82, hp_l83, hp_l84, hp_l85, hp_l86, hp_l87, hp_l88, hp_l89, hp_l90, hp_l91, hp_l92, hp_l93, hp_l94, hp_l95, hp_l96, hp_l97, hp_l98, hp_l99, hp_l100, hp_l101, hp_l102, hp_l103, hp_l104, hp_l105, hp_l106, hp_l107, hp_l108, hp_l109, hp_l110, hp_l111, hp_l112, hp_l113, hp_l114, hp_l115, hp_l116, hp_l117, hp_l118, hp_l119, hp_l120, hp_l121, hp_l122, hp_l123, hp_l124, hp_l125, hp_l126, hp_l127, hp_l141, hp_l142, hp_l150, hp_l151, hp_l152, hp_l153, hp_l251, hp_l255, hp_l256, hp_l300, hp_l432, hp_l864, hp_l1000, hp_l1600, hp_l1700, hp_l2304, hp_l2916, hp_l3000, hp_l9999, hp_l10000, nI_add, pk_mul, nI_clamp, hl_lt, hl_le, hl_eq, hl_nIb, hl_nsub, hp_eqm, hp_meq, hp_ltm, hp_mlt, hp_lem, hp_mle, hp_addm, hp_meqm, hp_mlem, hp_withinE, hp_within0, if_pos, if_neg, Option.bind_some, hp_let, Sum.elim_inl, Sum.elim_inr, hp_s01, hp_s11, hp_s2, true_and, and_true, if_true, if_false, not_true_eq_false, not_false_eq_true, reduceCtorEq] <;> omega)), if_neg e, hx_far H V hf hlt, Option.bind_some, ea, hx_far H V hf (by omega), Option.bind_some, pk_sub this]
def hm_T (q f : Nat) : Prop := q = 64 ∧ 38 ≤ f ∧ f ≤ 39
theorem hm.T (K : hm G P τ) (F : hp_fr hm_T τ υ) : hm G P υ := K.fr F (fun q f h => by unfold hm_T at h; unfold hm_dep; omega)
theorem hm_o.T (O : hm_o d m t τ) (F : hp_fr hm_T τ υ) : hm_o d m t υ := by
  obtain ⟨h1, h2, h3, h4, h5, h6⟩ := O
  refine ⟨h1, h2, h3, ?_, ?_, fun h => ?_⟩
  · rw [F.i (by unfold hm_T; omega)]; exact h4
  · rw [F.i (by unfold hm_T; omega)]; exact h5
  · rw [F.i (by unfold hm_T; omega)]; exact h6 h
theorem hm_nearest (K : hm G P τ) (O : hm_o d m t τ) (hb : b < 100) (ht : m = 1000 ∨ t < hp_C G) : ∃ τ', f_M_nearestIn (nI b) τ = some (hp_o (hp_nb (hp_far G (hp_li G P b d m t)) (G 0 3)), τ') ∧ (0 < G 0 3 → τ'.1 64 38 = nI (hp_far G (hp_li G P b d m t) (hp_nb (hp_far G (hp_li G P b d m t)) (G 0 3)))) ∧ τ'.1 64 39 = nI (hp_nd (hp_far G (hp_li G P b d m t)) (G 0 3)) ∧ hp_fr hm_T τ τ' := by
  have hnw := K.wg.nw
  generalize hf : hp_li G P b d m t = f
  have hF : ∀ w, hp_far G f w ≤ 54 := fun w => hp_far_le
  have far : ∀ υ w, hp_fr hm_T τ υ → w < G 0 3 → f_M_farFrom (nI b) (nI w) 0 υ = some (nI (hp_far G f w)) := by
    intro υ w F hw
    have := hm_far2 (u := 0) (K.T F) (by omega) (hm_lit_of (K.T F) (O.T F) hb ht) hw
    rw [hf, hp_see0] at this
    exact this
  unfold f_M_nearestIn
  refine hp_invX (b := f_M_nearestIn_L10 (nI b)) (s := (-1, 0, hl_si τ 64 39 99)) (G 0 3) (fun k s => s.1 = hp_o (hp_nb (hp_far G f) k) ∧ s.2.1 = nI k ∧ (0 < k → s.2.2.1 64 38 = nI (hp_far G f (hp_nb (hp_far G f) k))) ∧ s.2.2.1 64 39 = nI (hp_nd (hp_far G f) k) ∧ hp_fr hm_T τ s.2.2) (fun e => e.1 = hp_o (hp_nb (hp_far G f) (G 0 3)) ∧ (0 < G 0 3 → e.2.1 64 38 = nI (hp_far G f (hp_nb (hp_far G f) (G 0 3)))) ∧ e.2.1 64 39 = nI (hp_nd (hp_far G f) (G 0 3)) ∧ hp_fr hm_T τ e.2) (by omega) ?_ ?_ ?_ ?_
  · refine ⟨rfl, rfl, fun h => by omega, hp_s01, ?_⟩
    refine hp_fr.si hp_fr.rf ?_
    unfold hm_T; omega
  · rintro ⟨r, υ⟩ h ⟨h1, h2, h3, h4⟩
    dsimp only at h1 h2 h3 h4
    rw [h, Option.bind_some, ← h1]
    exact ⟨υ, rfl, h2, h3, h4⟩
  · rintro k ⟨r, x, υ⟩ hk ⟨h1, h2, h3, h4, F⟩
    dsimp only at h1 h2 h3 h4 F
    subst h1 h2
    left
    have hl := hp_nb_le (hp_far G f) k (by omega)
    have l1 := hF k
    have l2 := hF (hp_nb (hp_far G f) k)
    unfold f_M_nearestIn_L10
    dsimp only
    rw [hm_wordMany (K.T F), Option.bind_some, if_neg (by first | omega | (simp (disch := first | assumption | omega) only [↓hp_neg1, hp_l0, hp_l1, hp_l2, hp_l3, hp_l4, hp_l5, hp_l6, hp_l7, hp_l8, hp_l9, hp_l10, hp_l11, hp_l12, hp_l13, hp_l14, hp_l15, hp_l16, hp_l17, hp_l18, hp_l19, hp_l20, hp_l21, hp_l22, hp_l23, hp_l24, hp_l25, hp_l26, hp_l27, hp_l28, hp_l29, hp_l30, hp_l31, hp_l32, hp_l33, hp_l34, hp_l35, hp_l36, hp_l37, hp_l38, hp_l39, hp_l40, hp_l41, hp_l42, hp_l43, hp_l44, hp_l45, hp_l46, hp_l47, hp_l48, hp_l49, hp_l50, hp_l51, hp_l52, hp_l53, hp_l54, hp_l55, hp_l56, hp_l57, hp_l58, hp_l59, hp_l60, hp_l61, hp_l62, hp_l63, hp_l64, hp_l65, hp_l66, hp_l67, hp_l68, hp_l69, hp_l70, hp_l71, hp_l72, hp_l73, hp_l74, hp_l75, hp_l76, hp_l77, hp_l78, hp_l79, hp_l80, hp_l81, hp_l82, hp_l83, hp_l84, hp_l85, hp_l86, hp_l87, hp_l88, hp_l89, hp_l90, hp_l91, hp_l92, hp_l93, hp_l94, hp_l95, hp_l96, hp_l97, hp_l98, hp_l99, hp_l100, hp_l101, hp_l102, hp_l103, hp_l104, hp_l105, hp_l106, hp_l107, hp_l108, hp_l109, hp_l110, hp_l111, hp_l112, hp_l113, hp_l114, hp_l115, hp_l116, hp_l117, hp_l118, hp_l119, hp_l120, hp_l121, hp_l122, hp_l123, hp_l124, hp_l125, hp_l126, hp_l127, hp_l141, hp_l142, hp_l150, hp_l151, hp_l152, hp_l153, hp_l251, hp_l255, hp_l256, hp_l300, hp_l432, hp_l864, hp_l1000, hp_l1600, hp_l1700, hp_l2304, hp_l2916, hp_l3000, hp_l9999, hp_l10000, nI_add, pk_mul, nI_clamp, hl_lt, hl_le, hl_eq, hl_nIb, hl_nsub, hp_eqm, hp_meq, hp_ltm, hp_mlt, hp_lem, hp_mle, hp_addm, hp_meqm, hp_mlem, hp_withinE, hp_within0, if_pos, if_neg, Option.bind_some, hp_let, Sum.elim_inl, Sum.elim_inr, hp_s01, hp_s11, hp_s2, true_and, and_true, if_true, if_false, not_true_eq_false, not_false_eq_true, reduceCtorEq] <;> omega)), far υ k F hk, Option.bind_some, nI_1]
    have hnd : hp_nd (hp_far G f) k ≤ 99 := by
      clear h3 h4 hl l1 l2
      have : ∀ n, hp_nd (hp_far G f) n ≤ 99 := by
        intro n
        induction n with
        | zero => show 99 ≤ 99; omega
        | succ n ih =>
          have := hF n
          have := hF (hp_nb (hp_far G f) n)
          rw [hp_nd_s]
          split
          · exact ih
          · split
            · omega
            · split <;> omega
      exact this k
    by_cases e : hp_nb (hp_far G f) k = 1000
    · rw [e, if_pos (show hp_o 1000 = -1 from rfl)]
      have e3 : hp_nb (hp_far G f) (k + 1) = k := by rw [hp_nb_s, if_pos (.inl e)]
      refine ⟨_, rfl, ?_, rfl, fun _ => ?_, ?_, F.si ⟨rfl, by omega⟩⟩
      · rw [e3]; unfold hp_o; rw [if_neg (by omega)]
      · rw [e3]; exact hp_s01
      · dsimp only
        rw [hp_sn (by omega), h4, hp_nd_s, if_pos e]
    · have e2 : hp_o (hp_nb (hp_far G f) k) = nI (hp_nb (hp_far G f) k) := if_neg e
      rw [e2, if_neg (by first | omega | (simp (disch := first | assumption | omega) only [↓hp_neg1, hp_l0, hp_l1, hp_l2, hp_l3, hp_l4, hp_l5, hp_l6, hp_l7, hp_l8, hp_l9, hp_l10, hp_l11, hp_l12, hp_l13, hp_l14, hp_l15, hp_l16, hp_l17, hp_l18, hp_l19, hp_l20, hp_l21, hp_l22, hp_l23, hp_l24, hp_l25, hp_l26, hp_l27, hp_l28, hp_l29, hp_l30, hp_l31, hp_l32, hp_l33, hp_l34, hp_l35, hp_l36, hp_l37, hp_l38, hp_l39, hp_l40, hp_l41, hp_l42, hp_l43, hp_l44, hp_l45, hp_l46, hp_l47, hp_l48, hp_l49, hp_l50, hp_l51, hp_l52, hp_l53, hp_l54, hp_l55, hp_l56, hp_l57, hp_l58, hp_l59, hp_l60, hp_l61, hp_l62, hp_l63, hp_l64, hp_l65, hp_l66, hp_l67, hp_l68, hp_l69, hp_l70, hp_l71, hp_l72, hp_l73, hp_l74, hp_l75, hp_l76, hp_l77, hp_l78, hp_l79, hp_l80, hp_l81, hp_l82, hp_l83, hp_l84, hp_l85, hp_l86, hp_l87, hp_l88, hp_l89, hp_l90, hp_l91, hp_l92, hp_l93, hp_l94, hp_l95, hp_l96, hp_l97, hp_l98, hp_l99, hp_l100, hp_l101, hp_l102, hp_l103, hp_l104, hp_l105, hp_l106, hp_l107, hp_l108, hp_l109, hp_l110, hp_l111, hp_l112, hp_l113, hp_l114, hp_l115, hp_l116, hp_l117, hp_l118, hp_l119, hp_l120, hp_l121, hp_l122, hp_l123, hp_l124, hp_l125, hp_l126, hp_l127, hp_l141, hp_l142, hp_l150, hp_l151, hp_l152, hp_l153, hp_l251, hp_l255, hp_l256, hp_l300, hp_l432, hp_l864, hp_l1000, hp_l1600, hp_l1700, hp_l2304, hp_l2916, hp_l3000, hp_l9999, hp_l10000, nI_add, pk_mul, nI_clamp, hl_lt, hl_le, hl_eq, hl_nIb, hl_nsub, hp_eqm, hp_meq, hp_ltm, hp_mlt, hp_lem, hp_mle, hp_addm, hp_meqm, hp_mlem, hp_withinE, hp_within0, if_pos, if_neg, Option.bind_some, hp_let, Sum.elim_inl, Sum.elim_inr, hp_s01, hp_s11, hp_s2, true_and, and_true, if_true, if_false, not_true_eq_false, not_false_eq_true, reduceCtorEq] <;> omega)), h3 (by omega), h4]
      by_cases e3 : hp_far G f k < hp_far G f (hp_nb (hp_far G f) k)
      · rw [if_neg (by first | omega | (simp (disch := first | assumption | omega) only [↓hp_neg1, hp_l0, hp_l1, hp_l2, hp_l3, hp_l4, hp_l5, hp_l6, hp_l7, hp_l8, hp_l9, hp_l10, hp_l11, hp_l12, hp_l13, hp_l14, hp_l15, hp_l16, hp_l17, hp_l18, hp_l19, hp_l20, hp_l21, hp_l22, hp_l23, hp_l24, hp_l25, hp_l26, hp_l27, hp_l28, hp_l29, hp_l30, hp_l31, hp_l32, hp_l33, hp_l34, hp_l35, hp_l36, hp_l37, hp_l38, hp_l39, hp_l40, hp_l41, hp_l42, hp_l43, hp_l44, hp_l45, hp_l46, hp_l47, hp_l48, hp_l49, hp_l50, hp_l51, hp_l52, hp_l53, hp_l54, hp_l55, hp_l56, hp_l57, hp_l58, hp_l59, hp_l60, hp_l61, hp_l62, hp_l63, hp_l64, hp_l65, hp_l66, hp_l67, hp_l68, hp_l69, hp_l70, hp_l71, hp_l72, hp_l73, hp_l74, hp_l75, hp_l76, hp_l77, hp_l78, hp_l79, hp_l80, hp_l81, hp_l82, hp_l83, hp_l84, hp_l85, hp_l86, hp_l87, hp_l88, hp_l89, hp_l90, hp_l91, hp_l92, hp_l93, hp_l94, hp_l95, hp_l96, hp_l97, hp_l98, hp_l99, hp_l100, hp_l101, hp_l102, hp_l103, hp_l104, hp_l105, hp_l106, hp_l107, hp_l108, hp_l109, hp_l110, hp_l111, hp_l112, hp_l113, hp_l114, hp_l115, hp_l116, hp_l117, hp_l118, hp_l119, hp_l120, hp_l121, hp_l122, hp_l123, hp_l124, hp_l125, hp_l126, hp_l127, hp_l141, hp_l142, hp_l150, hp_l151, hp_l152, hp_l153, hp_l251, hp_l255, hp_l256, hp_l300, hp_l432, hp_l864, hp_l1000, hp_l1600, hp_l1700, hp_l2304, hp_l2916, hp_l3000, hp_l9999, hp_l10000, nI_add, pk_mul, nI_clamp, hl_lt, hl_le, hl_eq, hl_nIb, hl_nsub, hp_eqm, hp_meq, hp_ltm, hp_mlt, hp_lem, hp_mle, hp_addm, hp_meqm, hp_mlem, hp_withinE, hp_within0, if_pos, if_neg, Option.bind_some, hp_let, Sum.elim_inl, Sum.elim_inr, hp_s01, hp_s11, hp_s2, true_and, and_true, if_true, if_false, not_true_eq_false, not_false_eq_true, reduceCtorEq] <;> omega)), pk_sub (by omega)]
        have e4 : hp_nb (hp_far G f) (k + 1) = k := by rw [hp_nb_s, if_pos (.inr e3)]
        refine ⟨_, rfl, ?_, rfl, fun _ => ?_, ?_, (F.si ⟨rfl, by omega⟩).si ⟨rfl, by omega⟩⟩
        · rw [e4]; unfold hp_o; rw [if_neg (by omega)]
        · rw [e4]; exact hp_s01
        · dsimp only
          rw [hp_sn (by omega), hp_s01, hp_nd_s, if_neg e, if_pos e3]
      · rw [if_pos (by first | omega | (simp (disch := first | assumption | omega) only [↓hp_neg1, hp_l0, hp_l1, hp_l2, hp_l3, hp_l4, hp_l5, hp_l6, hp_l7, hp_l8, hp_l9, hp_l10, hp_l11, hp_l12, hp_l13, hp_l14, hp_l15, hp_l16, hp_l17, hp_l18, hp_l19, hp_l20, hp_l21, hp_l22, hp_l23, hp_l24, hp_l25, hp_l26, hp_l27, hp_l28, hp_l29, hp_l30, hp_l31, hp_l32, hp_l33, hp_l34, hp_l35, hp_l36, hp_l37, hp_l38, hp_l39, hp_l40, hp_l41, hp_l42, hp_l43, hp_l44, hp_l45, hp_l46, hp_l47, hp_l48, hp_l49, hp_l50, hp_l51, hp_l52, hp_l53, hp_l54, hp_l55, hp_l56, hp_l57, hp_l58, hp_l59, hp_l60, hp_l61, hp_l62, hp_l63, hp_l64, hp_l65, hp_l66, hp_l67, hp_l68, hp_l69, hp_l70, hp_l71, hp_l72, hp_l73, hp_l74, hp_l75, hp_l76, hp_l77, hp_l78, hp_l79, hp_l80, hp_l81, hp_l82, hp_l83, hp_l84, hp_l85, hp_l86, hp_l87, hp_l88, hp_l89, hp_l90, hp_l91, hp_l92, hp_l93, hp_l94, hp_l95, hp_l96, hp_l97, hp_l98, hp_l99, hp_l100, hp_l101, hp_l102, hp_l103, hp_l104, hp_l105, hp_l106, hp_l107, hp_l108, hp_l109, hp_l110, hp_l111, hp_l112, hp_l113, hp_l114, hp_l115, hp_l116, hp_l117, hp_l118, hp_l119, hp_l120, hp_l121, hp_l122, hp_l123, hp_l124, hp_l125, hp_l126, hp_l127, hp_l141, hp_l142, hp_l150, hp_l151, hp_l152, hp_l153, hp_l251, hp_l255, hp_l256, hp_l300, hp_l432, hp_l864, hp_l1000, hp_l1600, hp_l1700, hp_l2304, hp_l2916, hp_l3000, hp_l9999, hp_l10000, nI_add, pk_mul, nI_clamp, hl_lt, hl_le, hl_eq, hl_nIb, hl_nsub, hp_eqm, hp_meq, hp_ltm, hp_mlt, hp_lem, hp_mle, hp_addm, hp_meqm, hp_mlem, hp_withinE, hp_within0, if_pos, if_neg, Option.bind_some, hp_let, Sum.elim_inl, Sum.elim_inr, hp_s01, hp_s11, hp_s2, true_and, and_true, if_true, if_false, not_true_eq_false, not_false_eq_true, reduceCtorEq] <;> omega)), pk_sub (by omega)]
        have e4 : hp_nb (hp_far G f) (k + 1) = hp_nb (hp_far G f) k := by rw [hp_nb_s, if_neg (by omega)]
        by_cases e5 : hp_far G f k - hp_far G f (hp_nb (hp_far G f) k) < hp_nd (hp_far G f) k
        · rw [if_neg (by first | omega | (simp (disch := first | assumption | omega) only [↓hp_neg1, hp_l0, hp_l1, hp_l2, hp_l3, hp_l4, hp_l5, hp_l6, hp_l7, hp_l8, hp_l9, hp_l10, hp_l11, hp_l12, hp_l13, hp_l14, hp_l15, hp_l16, hp_l17, hp_l18, hp_l19, hp_l20, hp_l21, hp_l22, hp_l23, hp_l24, hp_l25, hp_l26, hp_l27, hp_l28, hp_l29, hp_l30, hp_l31, hp_l32, hp_l33, hp_l34, hp_l35, hp_l36, hp_l37, hp_l38, hp_l39, hp_l40, hp_l41, hp_l42, hp_l43, hp_l44, hp_l45, hp_l46, hp_l47, hp_l48, hp_l49, hp_l50, hp_l51, hp_l52, hp_l53, hp_l54, hp_l55, hp_l56, hp_l57, hp_l58, hp_l59, hp_l60, hp_l61, hp_l62, hp_l63, hp_l64, hp_l65, hp_l66, hp_l67, hp_l68, hp_l69, hp_l70, hp_l71, hp_l72, hp_l73, hp_l74, hp_l75, hp_l76, hp_l77, hp_l78, hp_l79, hp_l80, hp_l81, hp_l82, hp_l83, hp_l84, hp_l85, hp_l86, hp_l87, hp_l88, hp_l89, hp_l90, hp_l91, hp_l92, hp_l93, hp_l94, hp_l95, hp_l96, hp_l97, hp_l98, hp_l99, hp_l100, hp_l101, hp_l102, hp_l103, hp_l104, hp_l105, hp_l106, hp_l107, hp_l108, hp_l109, hp_l110, hp_l111, hp_l112, hp_l113, hp_l114, hp_l115, hp_l116, hp_l117, hp_l118, hp_l119, hp_l120, hp_l121, hp_l122, hp_l123, hp_l124, hp_l125, hp_l126, hp_l127, hp_l141, hp_l142, hp_l150, hp_l151, hp_l152, hp_l153, hp_l251, hp_l255, hp_l256, hp_l300, hp_l432, hp_l864, hp_l1000, hp_l1600, hp_l1700, hp_l2304, hp_l2916, hp_l3000, hp_l9999, hp_l10000, nI_add, pk_mul, nI_clamp, hl_lt, hl_le, hl_eq, hl_nIb, hl_nsub, hp_eqm, hp_meq, hp_ltm, hp_mlt, hp_lem, hp_mle, hp_addm, hp_meqm, hp_mlem, hp_withinE, hp_within0, if_pos, if_neg, Option.bind_some, hp_let, Sum.elim_inl, Sum.elim_inr, hp_s01, hp_s11, hp_s2, true_and, and_true, if_true, if_false, not_true_eq_false, not_false_eq_true, reduceCtorEq] <;> omega))]
          refine ⟨_, rfl, ?_, rfl, fun _ => ?_, ?_, F.si ⟨rfl, by omega⟩⟩
          · rw [e4, e2]
          · dsimp only
            rw [e4, hp_sn (by omega)]; exact h3 (by omega)
          · dsimp only
            rw [hp_s01, hp_nd_s, if_neg e, if_neg e3, if_pos e5]
        · rw [if_pos (by first | omega | (simp (disch := first | assumption | omega) only [↓hp_neg1, hp_l0, hp_l1, hp_l2, hp_l3, hp_l4, hp_l5, hp_l6, hp_l7, hp_l8, hp_l9, hp_l10, hp_l11, hp_l12, hp_l13, hp_l14, hp_l15, hp_l16, hp_l17, hp_l18, hp_l19, hp_l20, hp_l21, hp_l22, hp_l23, hp_l24, hp_l25, hp_l26, hp_l27, hp_l28, hp_l29, hp_l30, hp_l31, hp_l32, hp_l33, hp_l34, hp_l35, hp_l36, hp_l37, hp_l38, hp_l39, hp_l40, hp_l41, hp_l42, hp_l43, hp_l44, hp_l45, hp_l46, hp_l47, hp_l48, hp_l49, hp_l50, hp_l51, hp_l52, hp_l53, hp_l54, hp_l55, hp_l56, hp_l57, hp_l58, hp_l59, hp_l60, hp_l61, hp_l62, hp_l63, hp_l64, hp_l65, hp_l66, hp_l67, hp_l68, hp_l69, hp_l70, hp_l71, hp_l72, hp_l73, hp_l74, hp_l75, hp_l76, hp_l77, hp_l78, hp_l79, hp_l80, hp_l81, hp_l82, hp_l83, hp_l84, hp_l85, hp_l86, hp_l87, hp_l88, hp_l89, hp_l90, hp_l91, hp_l92, hp_l93, hp_l94, hp_l95, hp_l96, hp_l97, hp_l98, hp_l99, hp_l100, hp_l101, hp_l102, hp_l103, hp_l104, hp_l105, hp_l106, hp_l107, hp_l108, hp_l109, hp_l110, hp_l111, hp_l112, hp_l113, hp_l114, hp_l115, hp_l116, hp_l117, hp_l118, hp_l119, hp_l120, hp_l121, hp_l122, hp_l123, hp_l124, hp_l125, hp_l126, hp_l127, hp_l141, hp_l142, hp_l150, hp_l151, hp_l152, hp_l153, hp_l251, hp_l255, hp_l256, hp_l300, hp_l432, hp_l864, hp_l1000, hp_l1600, hp_l1700, hp_l2304, hp_l2916, hp_l3000, hp_l9999, hp_l10000, nI_add, pk_mul, nI_clamp, hl_lt, hl_le, hl_eq, hl_nIb, hl_nsub, hp_eqm, hp_meq, hp_ltm, hp_mlt, hp_lem, hp_mle, hp_addm, hp_meqm, hp_mlem, hp_withinE, hp_within0, if_pos, if_neg, Option.bind_some, hp_let, Sum.elim_inl, Sum.elim_inr, hp_s01, hp_s11, hp_s2, true_and, and_true, if_true, if_false, not_true_eq_false, not_false_eq_true, reduceCtorEq] <;> omega))]
          refine ⟨_, rfl, ?_, rfl, fun _ => ?_, ?_, F⟩
          · rw [e4, e2]
          · rw [e4]; exact h3 (by omega)
          · dsimp only
            rw [h4, hp_nd_s, if_neg e, if_neg e3, if_neg e5]
  · rintro ⟨r, x, υ⟩ ⟨h1, h2, h3, h4, F⟩
    dsimp only at h1 h2 h3 h4 F
    subst h1 h2
    unfold f_M_nearestIn_L10
    dsimp only
    rw [hm_wordMany (K.T F), Option.bind_some, if_pos (by first | omega | (simp (disch := first | assumption | omega) only [↓hp_neg1, hp_l0, hp_l1, hp_l2, hp_l3, hp_l4, hp_l5, hp_l6, hp_l7, hp_l8, hp_l9, hp_l10, hp_l11, hp_l12, hp_l13, hp_l14, hp_l15, hp_l16, hp_l17, hp_l18, hp_l19, hp_l20, hp_l21, hp_l22, hp_l23, hp_l24, hp_l25, hp_l26, hp_l27, hp_l28, hp_l29, hp_l30, hp_l31, hp_l32, hp_l33, hp_l34, hp_l35, hp_l36, hp_l37, hp_l38, hp_l39, hp_l40, hp_l41, hp_l42, hp_l43, hp_l44, hp_l45, hp_l46, hp_l47, hp_l48, hp_l49, hp_l50, hp_l51, hp_l52, hp_l53, hp_l54, hp_l55, hp_l56, hp_l57, hp_l58, hp_l59, hp_l60, hp_l61, hp_l62, hp_l63, hp_l64, hp_l65, hp_l66, hp_l67, hp_l68, hp_l69, hp_l70, hp_l71, hp_l72, hp_l73, hp_l74, hp_l75, hp_l76, hp_l77, hp_l78, hp_l79, hp_l80, hp_l81, hp_l82, hp_l83, hp_l84, hp_l85, hp_l86, hp_l87, hp_l88, hp_l89, hp_l90, hp_l91, hp_l92, hp_l93, hp_l94, hp_l95, hp_l96, hp_l97, hp_l98, hp_l99, hp_l100, hp_l101, hp_l102, hp_l103, hp_l104, hp_l105, hp_l106, hp_l107, hp_l108, hp_l109, hp_l110, hp_l111, hp_l112, hp_l113, hp_l114, hp_l115, hp_l116, hp_l117, hp_l118, hp_l119, hp_l120, hp_l121, hp_l122, hp_l123, hp_l124, hp_l125, hp_l126, hp_l127, hp_l141, hp_l142, hp_l150, hp_l151, hp_l152, hp_l153, hp_l251, hp_l255, hp_l256, hp_l300, hp_l432, hp_l864, hp_l1000, hp_l1600, hp_l1700, hp_l2304, hp_l2916, hp_l3000, hp_l9999, hp_l10000, nI_add, pk_mul, nI_clamp, hl_lt, hl_le, hl_eq, hl_nIb, hl_nsub, hp_eqm, hp_meq, hp_ltm, hp_mlt, hp_lem, hp_mle, hp_addm, hp_meqm, hp_mlem, hp_withinE, hp_within0, if_pos, if_neg, Option.bind_some, hp_let, Sum.elim_inl, Sum.elim_inr, hp_s01, hp_s11, hp_s2, true_and, and_true, if_true, if_false, not_true_eq_false, not_false_eq_true, reduceCtorEq] <;> omega))]
    exact ⟨_, rfl, rfl, h3, h4, F⟩
theorem hp_li_see : hp_see G 0 (hp_li G P b d m t) = hp_li G P b d m t := hp_see0
/-- how many cells are lit -/
theorem q_litMany {f : Nat → Nat} (H : hx G P σ) (K : hm G P τ) (L : hm_lit G f b τ) (V : hx_v f σ) : ∃ k, k ≤ 54 ∧ f_Vw_litCells σ = nI k ∧ f_M_litMany (nI b) τ = some (nI k) := by
  have hC := H.wg.C
  refine ⟨fb_ct (fun c => decide (0 < f c)) 54, fb_ct_le _ _, ?_, ?_⟩
  · unfold f_Vw_litCells
    rw [((V.1.or V.2).cong (q := fun c => decide (0 < f c)) ?_).cnt]
    intro c _
    have := L.2.1 c
    rcases (show f c = 0 ∨ f c = 1 ∨ f c = 2 by omega) with e | e | e <;> simp [e]
  · have e54 : fb_ct (fun c => decide (0 < f c)) 54 = fb_ct (fun c => decide (0 < f c)) (hp_C G) := by
      apply fb_ct_cut hC
      intro c h1 _
      rw [L.2.2 c h1]; rfl
    unfold f_M_litMany
    refine hp_bindE (nI (fb_ct (fun c => decide (0 < f c)) 54)) (hp_for' (hp_C G) (fun k => (nI (fb_ct (fun c => decide (0 < f c)) k), nI k)) rfl (by omega) ?_ ?_) rfl
    · intro k hk
      have := L.2.1 k
      unfold f_M_litMany_L4
      dsimp only
      rw [hm_cells K, if_neg (by first | omega | (simp (disch := first | assumption | omega) only [↓hp_neg1, hp_l0, hp_l1, hp_l2, hp_l3, hp_l4, hp_l5, hp_l6, hp_l7, hp_l8, hp_l9, hp_l10, hp_l11, hp_l12, hp_l13, hp_l14, hp_l15, hp_l16, hp_l17, hp_l18, hp_l19, hp_l20, hp_l21, hp_l22, hp_l23, hp_l24, hp_l25, hp_l26, hp_l27, hp_l28, hp_l29, hp_l30, hp_l31, hp_l32, hp_l33, hp_l34, hp_l35, hp_l36, hp_l37, hp_l38, hp_l39, hp_l40, hp_l41, hp_l42, hp_l43, hp_l44, hp_l45, hp_l46, hp_l47, hp_l48, hp_l49, hp_l50, hp_l51, hp_l52, hp_l53, hp_l54, hp_l55, hp_l56, hp_l57, hp_l58, hp_l59, hp_l60, hp_l61, hp_l62, hp_l63, hp_l64, hp_l65, hp_l66, hp_l67, hp_l68, hp_l69, hp_l70, hp_l71, hp_l72, hp_l73, hp_l74, hp_l75, hp_l76, hp_l77, hp_l78, hp_l79, hp_l80, hp_l81, hp_l82, hp_l83, hp_l84, hp_l85, hp_l86, hp_l87, hp_l88, hp_l89, hp_l90, hp_l91, hp_l92, hp_l93, hp_l94, hp_l95, hp_l96, hp_l97, hp_l98, hp_l99, hp_l100, hp_l101, hp_l102, hp_l103, hp_l104, hp_l105, hp_l106, hp_l107, hp_l108, hp_l109, hp_l110, hp_l111, hp_l112, hp_l113, hp_l114, hp_l115, hp_l116, hp_l117, hp_l118, hp_l119, hp_l120, hp_l121, hp_l122, hp_l123, hp_l124, hp_l125, hp_l126, hp_l127, hp_l141, hp_l142, hp_l150, hp_l151, hp_l152, hp_l153, hp_l251, hp_l255, hp_l256, hp_l300, hp_l432, hp_l864, hp_l1000, hp_l1600, hp_l1700, hp_l2304, hp_l2916, hp_l3000, hp_l9999, hp_l10000, nI_add, pk_mul, nI_clamp, hl_lt, hl_le, hl_eq, hl_nIb, hl_nsub, hp_eqm, hp_meq, hp_ltm, hp_mlt, hp_lem, hp_mle, hp_addm, hp_meqm, hp_mlem, hp_withinE, hp_within0, if_pos, if_neg, Option.bind_some, hp_let, Sum.elim_inl, Sum.elim_inr, hp_s01, hp_s11, hp_s2, true_and, and_true, if_true, if_false, not_true_eq_false, not_false_eq_true, reduceCtorEq] <;> omega)), L.1 k hk, Option.bind_some, nI_1, nI_1, fb_ct_succ]
      by_cases e : 0 < f k
      · rw [if_neg (by first | omega | (simp (disch := first | assumption | omega) only [↓hp_neg1, hp_l0, hp_l1, hp_l2, hp_l3, hp_l4, hp_l5, hp_l6, hp_l7, hp_l8, hp_l9, hp_l10, hp_l11, hp_l12, hp_l13, hp_l14, hp_l15, hp_l16, hp_l17, hp_l18, hp_l19, hp_l20, hp_l21, hp_l22, hp_l23, hp_l24, hp_l25, hp_l26, hp_l27, hp_l28, hp_l29, hp_l30, hp_l31, hp_l32, hp_l33, hp_l34, hp_l35, hp_l36, hp_l37, hp_l38, hp_l39, hp_l40, hp_l41, hp_l42, hp_l43, hp_l44, hp_l45, hp_l46, hp_l47, hp_l48, hp_l49, hp_l50, hp_l51, hp_l52, hp_l53, hp_l54, hp_l55, hp_l56, hp_l57, hp_l58, hp_l59, hp_l60, hp_l61, hp_l62, hp_l63, hp_l64, hp_l65, hp_l66, hp_l67, hp_l68, hp_l69, hp_l70, hp_l71, hp_l72, hp_l73, hp_l74, hp_l75, hp_l76, hp_l77, hp_l78, hp_l79, hp_l80, hp_l81, hp_l82, hp_l83, hp_l84, hp_l85, hp_l86, hp_l87, hp_l88, hp_l89, hp_l90, hp_l91, hp_l92, hp_l93, hp_l94, hp_l95, hp_l96, hp_l97, hp_l98, hp_l99, hp_l100, hp_l101, hp_l102, hp_l103, hp_l104, hp_l105, hp_l106, hp_l107, hp_l108, hp_l109, hp_l110, hp_l111, hp_l112, hp_l113, hp_l114, hp_l115, hp_l116, hp_l117, hp_l118, hp_l119, hp_l120, hp_l121, hp_l122, hp_l123, hp_l124, hp_l125, hp_l126, hp_l127, hp_l141, hp_l142, hp_l150, hp_l151, hp_l152, hp_l153, hp_l251, hp_l255, hp_l256, hp_l300, hp_l432, hp_l864, hp_l1000, hp_l1600, hp_l1700, hp_l2304, hp_l2916, hp_l3000, hp_l9999, hp_l10000, nI_add, pk_mul, nI_clamp, hl_lt, hl_le, hl_eq, hl_nIb, hl_nsub, hp_eqm, hp_meq, hp_ltm, hp_mlt, hp_lem, hp_mle, hp_addm, hp_meqm, hp_mlem, hp_withinE, hp_within0, if_pos, if_neg, Option.bind_some, hp_let, Sum.elim_inl, Sum.elim_inr, hp_s01, hp_s11, hp_s2, true_and, and_true, if_true, if_false, not_true_eq_false, not_false_eq_true, reduceCtorEq] <;> omega)), decide_eq_true e]; rfl
      · rw [if_pos (by first | omega | (simp (disch := first | assumption | omega) only [↓hp_neg1, hp_l0, hp_l1, hp_l2, hp_l3, hp_l4, hp_l5, hp_l6, hp_l7, hp_l8, hp_l9, hp_l10, hp_l11, hp_l12, hp_l13, hp_l14, hp_l15, hp_l16, hp_l17, hp_l18, hp_l19, hp_l20, hp_l21, hp_l22, hp_l23, hp_l24, hp_l25, hp_l26, hp_l27, hp_l28, hp_l29, hp_l30, hp_l31, hp_l32, hp_l33, hp_l34, hp_l35, hp_l36, hp_l37, hp_l38, hp_l39, hp_l40, hp_l41, hp_l42, hp_l43, hp_l44, hp_l45, hp_l46, hp_l47, hp_l48, hp_l49, hp_l50, hp_l51, hp_l52, hp_l53, hp_l54, hp_l55, hp_l56, hp_l57, hp_l58, hp_l59, hp_l60, hp_l61, hp_l62, hp_l63, hp_l64, hp_l65, hp_l66, hp_l67, hp_l68, hp_l69, hp_l70, hp_l71, hp_l72, hp_l73, hp_l74, hp_l75, hp_l76, hp_l77, hp_l78, hp_l79, hp_l80, hp_l81, hp_l82, hp_l83, hp_l84, hp_l85, hp_l86, hp_l87, hp_l88, hp_l89, hp_l90, hp_l91, hp_l92, hp_l93, hp_l94, hp_l95, hp_l96, hp_l97, hp_l98, hp_l99, hp_l100, hp_l101, hp_l102, hp_l103, hp_l104, hp_l105, hp_l106, hp_l107, hp_l108, hp_l109, hp_l110, hp_l111, hp_l112, hp_l113, hp_l114, hp_l115, hp_l116, hp_l117, hp_l118, hp_l119, hp_l120, hp_l121, hp_l122, hp_l123, hp_l124, hp_l125, hp_l126, hp_l127, hp_l141, hp_l142, hp_l150, hp_l151, hp_l152, hp_l153, hp_l251, hp_l255, hp_l256, hp_l300, hp_l432, hp_l864, hp_l1000, hp_l1600, hp_l1700, hp_l2304, hp_l2916, hp_l3000, hp_l9999, hp_l10000, nI_add, pk_mul, nI_clamp, hl_lt, hl_le, hl_eq, hl_nIb, hl_nsub, hp_eqm, hp_meq, hp_ltm, hp_mlt, hp_lem, hp_mle, hp_addm, hp_meqm, hp_mlem, hp_withinE, hp_within0, if_pos, if_neg, Option.bind_some, hp_let, Sum.elim_inl, Sum.elim_inr, hp_s01, hp_s11, hp_s2, true_and, and_true, if_true, if_false, not_true_eq_false, not_false_eq_true, reduceCtorEq] <;> omega)), decide_eq_false e]; rfl
    · unfold f_M_litMany_L4
      dsimp only
      rw [hm_cells K, if_pos (by first | omega | (simp (disch := first | assumption | omega) only [↓hp_neg1, hp_l0, hp_l1, hp_l2, hp_l3, hp_l4, hp_l5, hp_l6, hp_l7, hp_l8, hp_l9, hp_l10, hp_l11, hp_l12, hp_l13, hp_l14, hp_l15, hp_l16, hp_l17, hp_l18, hp_l19, hp_l20, hp_l21, hp_l22, hp_l23, hp_l24, hp_l25, hp_l26, hp_l27, hp_l28, hp_l29, hp_l30, hp_l31, hp_l32, hp_l33, hp_l34, hp_l35, hp_l36, hp_l37, hp_l38, hp_l39, hp_l40, hp_l41, hp_l42, hp_l43, hp_l44, hp_l45, hp_l46, hp_l47, hp_l48, hp_l49, hp_l50, hp_l51, hp_l52, hp_l53, hp_l54, hp_l55, hp_l56, hp_l57, hp_l58, hp_l59, hp_l60, hp_l61, hp_l62, hp_l63, hp_l64, hp_l65, hp_l66, hp_l67, hp_l68, hp_l69, hp_l70, hp_l71, hp_l72, hp_l73, hp_l74, hp_l75, hp_l76, hp_l77, hp_l78, hp_l79, hp_l80, hp_l81, hp_l82, hp_l83, hp_l84, hp_l85, hp_l86, hp_l87, hp_l88, hp_l89, hp_l90, hp_l91, hp_l92, hp_l93, hp_l94, hp_l95, hp_l96, hp_l97, hp_l98, hp_l99, hp_l100, hp_l101, hp_l102, hp_l103, hp_l104, hp_l105, hp_l106, hp_l107, hp_l108, hp_l109, hp_l110, hp_l111, hp_l112, hp_l113, hp_l114, hp_l115, hp_l116, hp_l117, hp_l118, hp_l119, hp_l120, hp_l121, hp_l122, hp_l123, hp_l124, hp_l125, hp_l126, hp_l127, hp_l141, hp_l142, hp_l150, hp_l151, hp_l152, hp_l153, hp_l251, hp_l255, hp_l256, hp_l300, hp_l432, hp_l864, hp_l1000, hp_l1600, hp_l1700, hp_l2304, hp_l2916, hp_l3000, hp_l9999, hp_l10000, nI_add, pk_mul, nI_clamp, hl_lt, hl_le, hl_eq, hl_nIb, hl_nsub, hp_eqm, hp_meq, hp_ltm, hp_mlt, hp_lem, hp_mle, hp_addm, hp_meqm, hp_mlem, hp_withinE, hp_within0, if_pos, if_neg, Option.bind_some, hp_let, Sum.elim_inl, Sum.elim_inr, hp_s01, hp_s11, hp_s2, true_and, and_true, if_true, if_false, not_true_eq_false, not_false_eq_true, reduceCtorEq] <;> omega)), e54]
theorem q_nearest (H : hx G P σ) (K : hm G P τ) (O : hm_o 1000 1000 0 τ) (v1 v2 : Int32) : ∃ r σ' τ', f_X_nearest v1 v2 σ = some (r, σ') ∧ hp_fr hx_T σ σ' ∧ f_M_nearest v1 v2 τ = some (r, τ') ∧ hp_fr hm_T τ τ' := by
  have hnw := H.wg.nw
  unfold f_X_nearest f_M_nearest
  rw [hm_isBeat, hp_i100]
  rcases hp_guard v1 (n := 100) (by decide) with ⟨b, hb, rfl, g1, g2⟩ | ⟨g1, g2, _⟩
  · rw [g1, g2, hp_if1, hp_if1]
    obtain ⟨σ1, e1, V, F⟩ := hx_look H hb (d := 1000) (by omega)
    have L := hm_lit_of K O hb (.inl rfl)
    have H1 := H.fr F (by omega)
    have F1 := hx_T37 F
    rw [show (-1 : Int32) = hp_o 1000 from rfl, e1, Option.bind_some, show (3 : Int64) = (nI 4 - 1).toInt64 by decide, H1.nw]
    obtain ⟨τ1, n1, n2, n3, n4⟩ := hm_nearest K O hb (.inl rfl)
    rcases hp_guard v2 (n := 4) (by decide) with ⟨i, hi, rfl, k1, k2⟩ | ⟨k1, k2, k3⟩
    · rw [k2, hp_if1, n1, Option.bind_some]
      by_cases e3 : i = 3
      · subst e3
        obtain ⟨k, _, a1, a2⟩ := q_litMany H1 K L V
        rw [if_pos (by decide), if_pos (by decide), a1, a2]
        exact ⟨_, _, _, rfl, F1, rfl, .rf⟩
      · have i3 : ¬ nI i = 3 := by first | omega | (simp (disch := first | assumption | omega) only [↓hp_neg1, hp_l0, hp_l1, hp_l2, hp_l3, hp_l4, hp_l5, hp_l6, hp_l7, hp_l8, hp_l9, hp_l10, hp_l11, hp_l12, hp_l13, hp_l14, hp_l15, hp_l16, hp_l17, hp_l18, hp_l19, hp_l20, hp_l21, hp_l22, hp_l23, hp_l24, hp_l25, hp_l26, hp_l27, hp_l28, hp_l29, hp_l30, hp_l31, hp_l32, hp_l33, hp_l34, hp_l35, hp_l36, hp_l37, hp_l38, hp_l39, hp_l40, hp_l41, hp_l42, hp_l43, hp_l44, hp_l45, hp_l46, hp_l47, hp_l48, hp_l49, hp_l50, hp_l51, hp_l52, hp_l53, hp_l54, hp_l55, hp_l56, hp_l57, hp_l58, hp_l59, hp_l60, hp_l61, hp_l62, hp_l63, hp_l64, hp_l65, hp_l66, hp_l67, hp_l68, hp_l69, hp_l70, hp_l71, hp_l72, hp_l73, hp_l74, hp_l75, hp_l76, hp_l77, hp_l78, hp_l79, hp_l80, hp_l81, hp_l82, hp_l83, hp_l84, hp_l85, hp_l86, hp_l87, hp_l88, hp_l89, hp_l90, hp_l91, hp_l92, hp_l93, hp_l94, hp_l95, hp_l96, hp_l97, hp_l98, hp_l99, hp_l100, hp_l101, hp_l102, hp_l103, hp_l104, hp_l105, hp_l106, hp_l107, hp_l108, hp_l109, hp_l110, hp_l111, hp_l112, hp_l113, hp_l114, hp_l115, hp_l116, hp_l117, hp_l118, hp_l119, hp_l120, hp_l121, hp_l122, hp_l123, hp_l124, hp_l125, hp_l126, hp_l127, hp_l141, hp_l142, hp_l150, hp_l151, hp_l152, hp_l153, hp_l251, hp_l255, hp_l256, hp_l300, hp_l432, hp_l864, hp_l1000, hp_l1600, hp_l1700, hp_l2304, hp_l2916, hp_l3000, hp_l9999, hp_l10000, nI_add, pk_mul, nI_clamp, hl_lt, hl_le, hl_eq, hl_nIb, hl_nsub, hp_eqm, hp_meq, hp_ltm, hp_mlt, hp_lem, hp_mle, hp_addm, hp_meqm, hp_mlem, hp_withinE, hp_within0, if_pos, if_neg, Option.bind_some, hp_let, Sum.elim_inl, Sum.elim_inr, hp_s01, hp_s11, hp_s2, true_and, and_true, if_true, if_false, not_true_eq_false, not_false_eq_true, reduceCtorEq] <;> omega)
        simp only [if_neg i3]
        by_cases h0 : G 0 3 = 0
        · have z1 : nI (G 0 3) = 0 := by rw [h0]; rfl
          have z2 : hp_o (hp_nb (hp_far G (hp_li G P b 1000 1000 0)) (G 0 3)) = hp_o 1000 := by rw [h0]; rfl
          rw [if_pos z1, if_pos z2]
          exact ⟨_, _, _, rfl, F1, rfl, n4⟩
        · have hl := hp_nb_le (hp_far G (hp_li G P b 1000 1000 0)) (G 0 3) (by omega)
          have e2 : hp_o (hp_nb (hp_far G (hp_li G P b 1000 1000 0)) (G 0 3)) = nI (hp_nb (hp_far G (hp_li G P b 1000 1000 0)) (G 0 3)) := if_neg (by omega)
          have z3 : ¬ nI (G 0 3) = 0 := by first | omega | (simp (disch := first | assumption | omega) only [↓hp_neg1, hp_l0, hp_l1, hp_l2, hp_l3, hp_l4, hp_l5, hp_l6, hp_l7, hp_l8, hp_l9, hp_l10, hp_l11, hp_l12, hp_l13, hp_l14, hp_l15, hp_l16, hp_l17, hp_l18, hp_l19, hp_l20, hp_l21, hp_l22, hp_l23, hp_l24, hp_l25, hp_l26, hp_l27, hp_l28, hp_l29, hp_l30, hp_l31, hp_l32, hp_l33, hp_l34, hp_l35, hp_l36, hp_l37, hp_l38, hp_l39, hp_l40, hp_l41, hp_l42, hp_l43, hp_l44, hp_l45, hp_l46, hp_l47, hp_l48, hp_l49, hp_l50, hp_l51, hp_l52, hp_l53, hp_l54, hp_l55, hp_l56, hp_l57, hp_l58, hp_l59, hp_l60, hp_l61, hp_l62, hp_l63, hp_l64, hp_l65, hp_l66, hp_l67, hp_l68, hp_l69, hp_l70, hp_l71, hp_l72, hp_l73, hp_l74, hp_l75, hp_l76, hp_l77, hp_l78, hp_l79, hp_l80, hp_l81, hp_l82, hp_l83, hp_l84, hp_l85, hp_l86, hp_l87, hp_l88, hp_l89, hp_l90, hp_l91, hp_l92, hp_l93, hp_l94, hp_l95, hp_l96, hp_l97, hp_l98, hp_l99, hp_l100, hp_l101, hp_l102, hp_l103, hp_l104, hp_l105, hp_l106, hp_l107, hp_l108, hp_l109, hp_l110, hp_l111, hp_l112, hp_l113, hp_l114, hp_l115, hp_l116, hp_l117, hp_l118, hp_l119, hp_l120, hp_l121, hp_l122, hp_l123, hp_l124, hp_l125, hp_l126, hp_l127, hp_l141, hp_l142, hp_l150, hp_l151, hp_l152, hp_l153, hp_l251, hp_l255, hp_l256, hp_l300, hp_l432, hp_l864, hp_l1000, hp_l1600, hp_l1700, hp_l2304, hp_l2916, hp_l3000, hp_l9999, hp_l10000, nI_add, pk_mul, nI_clamp, hl_lt, hl_le, hl_eq, hl_nIb, hl_nsub, hp_eqm, hp_meq, hp_ltm, hp_mlt, hp_lem, hp_mle, hp_addm, hp_meqm, hp_mlem, hp_withinE, hp_within0, if_pos, if_neg, Option.bind_some, hp_let, Sum.elim_inl, Sum.elim_inr, hp_s01, hp_s11, hp_s2, true_and, and_true, if_true, if_false, not_true_eq_false, not_false_eq_true, reduceCtorEq] <;> omega)
          rw [if_neg z3, hx_nearest H1 V L.2.1, hx_doubt H1 V L.2.1 (by omega), e2, if_neg (show ¬ nI _ = hp_o 1000 from hl_nm1 (by omega)), n2 (by omega), n3]
          rcases (show i = 0 ∨ i = 1 ∨ i = 2 by omega) with rfl | rfl | rfl
          · simp only [if_pos (show nI 0 = (0 : Int32) by decide)]
            exact ⟨_, _, _, rfl, F1, rfl, n4⟩
          · simp only [if_neg (show ¬ nI 1 = (0 : Int32) by decide), if_pos (show nI 1 = (1 : Int32) by decide), Option.bind_some]
            rw [hx_far H1 V L.2.1 (by omega)]
            exact ⟨_, _, _, rfl, F1, rfl, n4⟩
          · simp only [if_neg (show ¬ nI 2 = (0 : Int32) by decide), if_neg (show ¬ nI 2 = (1 : Int32) by decide), if_pos (show nI 2 = (2 : Int32) by decide), Option.bind_some]
            exact ⟨_, _, _, rfl, F1, rfl, n4⟩
    · rw [k2, hp_if0]
      have ne : ∀ i, i < 4 → ¬ v2 = nI i := by
        rintro i hi rfl
        rw [hp_withinT hi (by decide)] at k1
        exact absurd k1 (by decide)
      have n0 : ¬ v2 = 0 := ne 0 (by omega)
      have n1 : ¬ v2 = 1 := ne 1 (by omega)
      have n2 : ¬ v2 = 2 := ne 2 (by omega)
      have n3 : ¬ v2 = 3 := ne 3 (by omega)
      rw [if_neg n3, if_neg n0, if_neg n1, if_neg n2]
      by_cases h0 : nI (G 0 3) = 0
      · rw [if_pos h0]
        exact ⟨_, _, _, rfl, F1, rfl, .rf⟩
      · rw [if_neg h0]
        exact ⟨_, _, _, rfl, F1, rfl, .rf⟩
  · rw [g1, g2, hp_if0, hp_if0]
    exact ⟨_, _, _, rfl, .rf, rfl, .rf⟩
end NE
