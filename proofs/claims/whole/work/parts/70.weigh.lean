/-! the class: least sums, who is chosen; the plan -/
section WE
variable {G P : hp_G} {σ τ υ : hl_M} {ds : Nat → Nat → Nat} {p w c b i k : Nat}
def hx_cm (N : Nat) (c : Nat → Nat → Nat) (σ : hl_M) : Prop := σ.1 38 4 = nI N ∧ ∀ i k, i < N → k < N → σ.1 (44 + i) k = nI (hp_ph (c i k))
def hx_T3 (q _ : Nat) : Prop := q = 52 ∨ q = 53 ∨ q = 54
theorem hx_cm.T3 {N : Nat} {c : Nat → Nat → Nat} (M : hx_cm N c σ) (hN : N ≤ 8) (F : hp_fr hx_T3 σ τ) : hx_cm N c τ := by
  obtain ⟨m1, m2⟩ := M
  refine ⟨?_, fun i k hi hk => ?_⟩
  · rw [F.i (by unfold hx_T3; omega)]; exact m1
  · rw [F.i (by unfold hx_T3; omega)]; exact m2 i k hi hk
theorem hp_ph_le {c : Nat → Nat → Nat} (hc : hp_cst c) (i k : Nat) : hp_ph (c i k) ≤ 10000 := by
  unfold hp_ph
  have := hc i k
  split <;> omega
theorem hp_L_le {U N : Nat} {c : Nat → Nat → Nat} : ∀ m z, hp_L U N c m z ≤ U
  | 0, _ => Nat.zero_le U
  | m + 1, z => hp_mn_le _ _ _ _
theorem hp_S_le {U N : Nat} {c : Nat → Nat → Nat} : ∀ m z, hp_S U N c m z ≤ U
  | 0, _ => Nat.zero_le U
  | m + 1, z => hp_mn_le _ _ _ _
/-- what is known of sets -/
def hx_lm (N : Nat) (c : Nat → Nat → Nat) (P : Nat → Prop) (σ : hl_M) : Prop := ∀ z, z < 2 ^ N → P z → σ.1 52 z = nI (hp_L 10000 N (fun i k => hp_ph (c i k)) (N - hp_pz z) z) ∧ σ.1 53 z = nI (hp_S 10000 N (fun i k => hp_ph (c i k)) (N - hp_pz z) z)
theorem hx_weigh {N : Nat} {c : Nat → Nat → Nat} (hN : N ≤ 8) (hc : hp_cst c) (M : hx_cm N c σ) : ∃ σ', f_Pt_weigh σ = some σ' ∧ hp_fr hx_T3 σ σ' ∧ hx_lm N c (fun _ => True) σ' := by
  have hp2 : 2 ^ N ≤ 2 ^ 8 := Nat.pow_le_pow_right (by decide) hN
  have hp1 : 0 < 2 ^ N := Nat.two_pow_pos N
  generalize hA : 2 ^ N - 1 = A
  have hA' : 2 ^ N = A + 1 := by omega
  have pA := hp_pz_all N (by omega)
  rw [hA] at pA
  unfold f_Pt_weigh
  rw [M.1, hp_allI N (by omega), hA, if_pos (by first | omega | (simp (disch := first | assumption | omega) only [↓hp_neg1, hp_l0, hp_l1, hp_l2, hp_l3, hp_l4, hp_l5, hp_l6, hp_l7, hp_l8, hp_l9, hp_l10, hp_l11, hp_l12, hp_l13, hp_l14, hp_l15, hp_l16, hp_l17, hp_l18, hp_l19, hp_l20, hp_l21, hp_l22, hp_l23, hp_l24, hp_l25, hp_l26, hp_l27, hp_l28, hp_l29, hp_l30, hp_l31, hp_l32, hp_l33, hp_l34, hp_l35, hp_l36, hp_l37, hp_l38, hp_l39, hp_l40, hp_l41, hp_l42, hp_l43, hp_l44, hp_l45, hp_l46, hp_l47, hp_l48, hp_l49, hp_l50, hp_l51, hp_l52, hp_l53, hp_l54, hp_l55, hp_l56, hp_l57, hp_l58, hp_l59, hp_l60, hp_l61, hp_l62, hp_l63, hp_l64, hp_l65, hp_l66, hp_l67, hp_l68, hp_l69, hp_l70, hp_l71, hp_l72, hp_l73, hp_l74, hp_l75, hp_l76, hp_l77, hp_l78, hp_l79, hp_l80, hp_l81, hp_l82, hp_l83, hp_l84, hp_l85, hp_l86, hp_l87, hp_l88, hp_l89, hp_l90, hp_l91, hp_l92, hp_l93, hp_l94, hp_l95, hp_l96, hp_l97, hp_l98, hp_l99, hp_l100, hp_l101, hp_l102, hp_l103, hp_l104, hp_l105, hp_l106, hp_l107, hp_l108, hp_l109, hp_l110, hp_l111, hp_l112, hp_l113, hp_l114, hp_l115, hp_l116, hp_l117, hp_l118, hp_l119, hp_l120, hp_l121, hp_l122, hp_l123, hp_l124, hp_l125, hp_l126, hp_l127, hp_l141, hp_l142, hp_l150, hp_l151, hp_l152, hp_l153, hp_l251, hp_l255, hp_l256, hp_l300, hp_l432, hp_l864, hp_l1000, hp_l1600, hp_l1700, hp_l2304, hp_l2916, hp_l3000, hp_l9999, hp_l10000, nI_add, pk_mul, nI_clamp, hl_lt, hl_le, hl_eq, hl_nIb, hl_nsub, hp_eqm, hp_meq, hp_ltm, hp_mlt, hp_lem, hp_mle, hp_addm, hp_meqm, hp_mlem, hp_withinE, hp_within0, if_pos, if_neg, Option.bind_some, hp_let, Sum.elim_inl, Sum.elim_inr, hp_s01, hp_s11, hp_s2, true_and, and_true, if_true, if_false, not_true_eq_false, not_false_eq_true, reduceCtorEq] <;> omega)), if_pos (by first | omega | (simp (disch := first | assumption | omega) only [↓hp_neg1, hp_l0, hp_l1, hp_l2, hp_l3, hp_l4, hp_l5, hp_l6, hp_l7, hp_l8, hp_l9, hp_l10, hp_l11, hp_l12, hp_l13, hp_l14, hp_l15, hp_l16, hp_l17, hp_l18, hp_l19, hp_l20, hp_l21, hp_l22, hp_l23, hp_l24, hp_l25, hp_l26, hp_l27, hp_l28, hp_l29, hp_l30, hp_l31, hp_l32, hp_l33, hp_l34, hp_l35, hp_l36, hp_l37, hp_l38, hp_l39, hp_l40, hp_l41, hp_l42, hp_l43, hp_l44, hp_l45, hp_l46, hp_l47, hp_l48, hp_l49, hp_l50, hp_l51, hp_l52, hp_l53, hp_l54, hp_l55, hp_l56, hp_l57, hp_l58, hp_l59, hp_l60, hp_l61, hp_l62, hp_l63, hp_l64, hp_l65, hp_l66, hp_l67, hp_l68, hp_l69, hp_l70, hp_l71, hp_l72, hp_l73, hp_l74, hp_l75, hp_l76, hp_l77, hp_l78, hp_l79, hp_l80, hp_l81, hp_l82, hp_l83, hp_l84, hp_l85, hp_l86, hp_l87, hp_l88, hp_l89, hp_l90, hp_l91, hp_l92, hp_l93, hp_l94, hp_l95, hp_l96, hp_l97, hp_l98, hp_l99, hp_l100, hp_l101, hp_l102, hp_l103, hp_l104, hp_l105, hp_l106, hp_l107, hp_l108, hp_l109, hp_l110, hp_l111, hp_l112, hp_l113, hp_l114, hp_l115, hp_l116, hp_l117, hp_l118, hp_l119, hp_l120, hp_l121, hp_l122, hp_l123, hp_l124, hp_l125, hp_l126, hp_l127, hp_l141, hp_l142, hp_l150, hp_l151, hp_l152, hp_l153, hp_l251, hp_l255, hp_l256, hp_l300, hp_l432, hp_l864, hp_l1000, hp_l1600, hp_l1700, hp_l2304, hp_l2916, hp_l3000, hp_l9999, hp_l10000, nI_add, pk_mul, nI_clamp, hl_lt, hl_le, hl_eq, hl_nIb, hl_nsub, hp_eqm, hp_meq, hp_ltm, hp_mlt, hp_lem, hp_mle, hp_addm, hp_meqm, hp_mlem, hp_withinE, hp_within0, if_pos, if_neg, Option.bind_some, hp_let, Sum.elim_inl, Sum.elim_inr, hp_s01, hp_s11, hp_s2, true_and, and_true, if_true, if_false, not_true_eq_false, not_false_eq_true, reduceCtorEq] <;> omega)), nI_clamp (by omega)]
  refine hp_invX (b := f_Pt_weigh_L27) (s := (nI A - 1, hl_si (hl_si σ 52 A 0) 53 A 0)) A (fun j s => s.1 = (if j < A then nI (A - 1 - j) else -1) ∧ hp_fr hx_T3 σ s.2 ∧ hx_lm N c (fun z => A < z + j + 1) s.2) (fun e => hp_fr hx_T3 σ e ∧ hx_lm N c (fun _ => True) e) (by omega) ?_ ?_ ?_ ?_
  · refine ⟨?_, (hp_fr.rf.si (.inl rfl)).si (.inr (.inl rfl)), fun z hz h => ?_⟩
    · dsimp only
      by_cases e : 0 < A
      · rw [if_pos e, show (1 : Int32) = nI 1 from rfl, pk_sub (by omega)]
        rfl
      · rw [if_neg e, show A = 0 by omega]; rfl
    · have ez : z = A := by omega
      dsimp only
      rw [ez, hp_sn (by omega), hp_s01, hp_s01, pA, Nat.sub_self]
      exact ⟨rfl, rfl⟩
  · rintro e h1 ⟨h2, h3⟩
    rw [h1]
    exact ⟨e, rfl, h2, h3⟩
  · rintro j ⟨x, υ⟩ hj ⟨a1, F, a3⟩
    dsimp only at a1 F a3
    rw [if_pos hj] at a1
    subst a1
    generalize hz : A - 1 - j = z
    have hzA : z < A := by omega
    have hpz := hp_pz_lt z (by omega) N (by omega) (by omega)
    have M1 := M.T3 hN F
    obtain ⟨m, hm⟩ : ∃ m, N - hp_pz z = m + 1 := ⟨N - hp_pz z - 1, by omega⟩
    left
    have n0 : ¬ nI z < 0 := nI_pos (by omega)
    unfold f_Pt_weigh_L27
    dsimp only
    rw [if_neg n0, hp_pzX z (by omega)]
    refine hp_bindF (nI (hp_L 10000 N (fun i k => hp_ph (c i k)) (N - hp_pz z) z), nI (hp_S 10000 N (fun i k => hp_ph (c i k)) (N - hp_pz z) z)) (hp_for' N (fun k => (nI (hp_mn 10000 (fun k => !z.testBit k) (fun k => hp_ph (c (hp_pz z) k) + hp_L 10000 N (fun i k => hp_ph (c i k)) m (z ||| 2 ^ k)) k), nI (hp_mn 10000 (fun k => !z.testBit k) (fun k => if hp_ph (c (hp_pz z) k) < hp_S 10000 N (fun i k => hp_ph (c i k)) m (z ||| 2 ^ k) then hp_S 10000 N (fun i k => hp_ph (c i k)) m (z ||| 2 ^ k) else hp_ph (c (hp_pz z) k)) k), nI k)) rfl (by omega) ?_ ?_) ?_
    · intro k hk
      have hlt := hp_or_lt (z := z) (k := k) (N := N) (by omega) hk
      have hcp := hp_ph_le hc (hp_pz z) k
      have hLp := hp_L_le (U := 10000) (N := N) (c := fun i k => hp_ph (c i k)) m (z ||| 2 ^ k)
      have hSp := hp_S_le (U := 10000) (N := N) (c := fun i k => hp_ph (c i k)) m (z ||| 2 ^ k)
      have hmn := hp_mn_le 10000 (fun k => !z.testBit k) (fun k => hp_ph (c (hp_pz z) k) + hp_L 10000 N (fun i k => hp_ph (c i k)) m (z ||| 2 ^ k)) k
      have hmn2 := hp_mn_le 10000 (fun k => !z.testBit k) (fun k => if hp_ph (c (hp_pz z) k) < hp_S 10000 N (fun i k => hp_ph (c i k)) m (z ||| 2 ^ k) then hp_S 10000 N (fun i k => hp_ph (c i k)) m (z ||| 2 ^ k) else hp_ph (c (hp_pz z) k)) k
      have n1 : ¬ nI N ≤ nI k := by first | omega | (simp (disch := first | assumption | omega) only [↓hp_neg1, hp_l0, hp_l1, hp_l2, hp_l3, hp_l4, hp_l5, hp_l6, hp_l7, hp_l8, hp_l9, hp_l10, hp_l11, hp_l12, hp_l13, hp_l14, hp_l15, hp_l16, hp_l17, hp_l18, hp_l19, hp_l20, hp_l21, hp_l22, hp_l23, hp_l24, hp_l25, hp_l26, hp_l27, hp_l28, hp_l29, hp_l30, hp_l31, hp_l32, hp_l33, hp_l34, hp_l35, hp_l36, hp_l37, hp_l38, hp_l39, hp_l40, hp_l41, hp_l42, hp_l43, hp_l44, hp_l45, hp_l46, hp_l47, hp_l48, hp_l49, hp_l50, hp_l51, hp_l52, hp_l53, hp_l54, hp_l55, hp_l56, hp_l57, hp_l58, hp_l59, hp_l60, hp_l61, hp_l62, hp_l63, hp_l64, hp_l65, hp_l66, hp_l67, hp_l68, hp_l69, hp_l70, hp_l71, hp_l72, hp_l73, hp_l74, hp_l75, hp_l76, hp_l77, hp_l78, hp_l79, hp_l80, hp_l81, hp_l82, hp_l83, hp_l84, hp_l85, hp_l86, hp_l87, hp_l88, hp_l89, hp_l90, hp_l91, hp_l92, hp_l93, hp_l94, hp_l95, hp_l96, hp_l97, hp_l98, hp_l99, hp_l100, hp_l101, hp_l102, hp_l103, hp_l104, hp_l105, hp_l106, hp_l107, hp_l108, hp_l109, hp_l110, hp_l111, hp_l112, hp_l113, hp_l114, hp_l115, hp_l116, hp_l117, hp_l118, hp_l119, hp_l120, hp_l121, hp_l122, hp_l123, hp_l124, hp_l125, hp_l126, hp_l127, hp_l141, hp_l142, hp_l150, hp_l151, hp_l152, hp_l153, hp_l251, hp_l255, hp_l256, hp_l300, hp_l432, hp_l864, hp_l1000, hp_l1600, hp_l1700, hp_l2304, hp_l2916, hp_l3000, hp_l9999, hp_l10000, nI_add, pk_mul, nI_clamp, hl_lt, hl_le, hl_eq, hl_nIb, hl_nsub, hp_eqm, hp_meq, hp_ltm, hp_mlt, hp_lem, hp_mle, hp_addm, hp_meqm, hp_mlem, hp_withinE, hp_within0, if_pos, if_neg, Option.bind_some, hp_let, Sum.elim_inl, Sum.elim_inr, hp_s01, hp_s11, hp_s2, true_and, and_true, if_true, if_false, not_true_eq_false, not_false_eq_true, reduceCtorEq] <;> omega)
      unfold f_Pt_weigh_L49
      dsimp only
      rw [M1.1, if_neg n1, hp_orI z (by omega) k (by omega), hp_mn_s, hp_mn_s, nI_1]
      by_cases e : z.testBit k = true
      · rw [if_pos ((hp_orE (by omega) (by omega)).mpr e)]
        simp only [e, Bool.not_true, Bool.false_eq_true, false_and, if_false]
      · have ef := ts_nt' e
        have hor := hp_pz_or z (by omega) k (by omega) ef
        obtain ⟨l1, l2⟩ := a3 (z ||| 2 ^ k) hlt (by omega)
        rw [hor.1, show N - (hp_pz z + 1) = m by omega] at l1 l2
        have n2 : hl_b (nI (hp_pz z)) 8 := by first | omega | (simp (disch := first | assumption | omega) only [↓hp_neg1, hp_l0, hp_l1, hp_l2, hp_l3, hp_l4, hp_l5, hp_l6, hp_l7, hp_l8, hp_l9, hp_l10, hp_l11, hp_l12, hp_l13, hp_l14, hp_l15, hp_l16, hp_l17, hp_l18, hp_l19, hp_l20, hp_l21, hp_l22, hp_l23, hp_l24, hp_l25, hp_l26, hp_l27, hp_l28, hp_l29, hp_l30, hp_l31, hp_l32, hp_l33, hp_l34, hp_l35, hp_l36, hp_l37, hp_l38, hp_l39, hp_l40, hp_l41, hp_l42, hp_l43, hp_l44, hp_l45, hp_l46, hp_l47, hp_l48, hp_l49, hp_l50, hp_l51, hp_l52, hp_l53, hp_l54, hp_l55, hp_l56, hp_l57, hp_l58, hp_l59, hp_l60, hp_l61, hp_l62, hp_l63, hp_l64, hp_l65, hp_l66, hp_l67, hp_l68, hp_l69, hp_l70, hp_l71, hp_l72, hp_l73, hp_l74, hp_l75, hp_l76, hp_l77, hp_l78, hp_l79, hp_l80, hp_l81, hp_l82, hp_l83, hp_l84, hp_l85, hp_l86, hp_l87, hp_l88, hp_l89, hp_l90, hp_l91, hp_l92, hp_l93, hp_l94, hp_l95, hp_l96, hp_l97, hp_l98, hp_l99, hp_l100, hp_l101, hp_l102, hp_l103, hp_l104, hp_l105, hp_l106, hp_l107, hp_l108, hp_l109, hp_l110, hp_l111, hp_l112, hp_l113, hp_l114, hp_l115, hp_l116, hp_l117, hp_l118, hp_l119, hp_l120, hp_l121, hp_l122, hp_l123, hp_l124, hp_l125, hp_l126, hp_l127, hp_l141, hp_l142, hp_l150, hp_l151, hp_l152, hp_l153, hp_l251, hp_l255, hp_l256, hp_l300, hp_l432, hp_l864, hp_l1000, hp_l1600, hp_l1700, hp_l2304, hp_l2916, hp_l3000, hp_l9999, hp_l10000, nI_add, pk_mul, nI_clamp, hl_lt, hl_le, hl_eq, hl_nIb, hl_nsub, hp_eqm, hp_meq, hp_ltm, hp_mlt, hp_lem, hp_mle, hp_addm, hp_meqm, hp_mlem, hp_withinE, hp_within0, if_pos, if_neg, Option.bind_some, hp_let, Sum.elim_inl, Sum.elim_inr, hp_s01, hp_s11, hp_s2, true_and, and_true, if_true, if_false, not_true_eq_false, not_false_eq_true, reduceCtorEq] <;> omega)
        have n3 : hl_b (nI (z ||| 2 ^ k)) 256 := by first | omega | (simp (disch := first | assumption | omega) only [↓hp_neg1, hp_l0, hp_l1, hp_l2, hp_l3, hp_l4, hp_l5, hp_l6, hp_l7, hp_l8, hp_l9, hp_l10, hp_l11, hp_l12, hp_l13, hp_l14, hp_l15, hp_l16, hp_l17, hp_l18, hp_l19, hp_l20, hp_l21, hp_l22, hp_l23, hp_l24, hp_l25, hp_l26, hp_l27, hp_l28, hp_l29, hp_l30, hp_l31, hp_l32, hp_l33, hp_l34, hp_l35, hp_l36, hp_l37, hp_l38, hp_l39, hp_l40, hp_l41, hp_l42, hp_l43, hp_l44, hp_l45, hp_l46, hp_l47, hp_l48, hp_l49, hp_l50, hp_l51, hp_l52, hp_l53, hp_l54, hp_l55, hp_l56, hp_l57, hp_l58, hp_l59, hp_l60, hp_l61, hp_l62, hp_l63, hp_l64, hp_l65, hp_l66, hp_l67, hp_l68, hp_l69, hp_l70, hp_l71, hp_l72, hp_l73, hp_l74, hp_l75, hp_l76, hp_l77, hp_l78, hp_l79, hp_l80, hp_l81, hp_l82, hp_l83, hp_l84, hp_l85, hp_l86, hp_l87, hp_l88, hp_l89, hp_l90, hp_l91, hp_l92, hp_l93, hp_l94, hp_l95, hp_l96, hp_l97, hp_l98, hp_l99, hp_l100, hp_l101, hp_l102, hp_l103, hp_l104, hp_l105, hp_l106, hp_l107, hp_l108, hp_l109, hp_l110, hp_l111, hp_l112, hp_l113, hp_l114, hp_l115, hp_l116, hp_l117, hp_l118, hp_l119, hp_l120, hp_l121, hp_l122, hp_l123, hp_l124, hp_l125, hp_l126, hp_l127, hp_l141, hp_l142, hp_l150, hp_l151, hp_l152, hp_l153, hp_l251, hp_l255, hp_l256, hp_l300, hp_l432, hp_l864, hp_l1000, hp_l1600, hp_l1700, hp_l2304, hp_l2916, hp_l3000, hp_l9999, hp_l10000, nI_add, pk_mul, nI_clamp, hl_lt, hl_le, hl_eq, hl_nIb, hl_nsub, hp_eqm, hp_meq, hp_ltm, hp_mlt, hp_lem, hp_mle, hp_addm, hp_meqm, hp_mlem, hp_withinE, hp_within0, if_pos, if_neg, Option.bind_some, hp_let, Sum.elim_inl, Sum.elim_inr, hp_s01, hp_s11, hp_s2, true_and, and_true, if_true, if_false, not_true_eq_false, not_false_eq_true, reduceCtorEq] <;> omega)
        have n4 : hl_b (nI k) 8 := by first | omega | (simp (disch := first | assumption | omega) only [↓hp_neg1, hp_l0, hp_l1, hp_l2, hp_l3, hp_l4, hp_l5, hp_l6, hp_l7, hp_l8, hp_l9, hp_l10, hp_l11, hp_l12, hp_l13, hp_l14, hp_l15, hp_l16, hp_l17, hp_l18, hp_l19, hp_l20, hp_l21, hp_l22, hp_l23, hp_l24, hp_l25, hp_l26, hp_l27, hp_l28, hp_l29, hp_l30, hp_l31, hp_l32, hp_l33, hp_l34, hp_l35, hp_l36, hp_l37, hp_l38, hp_l39, hp_l40, hp_l41, hp_l42, hp_l43, hp_l44, hp_l45, hp_l46, hp_l47, hp_l48, hp_l49, hp_l50, hp_l51, hp_l52, hp_l53, hp_l54, hp_l55, hp_l56, hp_l57, hp_l58, hp_l59, hp_l60, hp_l61, hp_l62, hp_l63, hp_l64, hp_l65, hp_l66, hp_l67, hp_l68, hp_l69, hp_l70, hp_l71, hp_l72, hp_l73, hp_l74, hp_l75, hp_l76, hp_l77, hp_l78, hp_l79, hp_l80, hp_l81, hp_l82, hp_l83, hp_l84, hp_l85, hp_l86, hp_l87, hp_l88, hp_l89, hp_l90, hp_l91, hp_l92, hp_l93, hp_l94, hp_l95, hp_l96, hp_l97, hp_l98, hp_l99, hp_l100, hp_l101, hp_l102, hp_l103, hp_l104, hp_l105, hp_l106, hp_l107, hp_l108, hp_l109, hp_l110, hp_l111, hp_l112, hp_l113, hp_l114, hp_l115, hp_l116, hp_l117, hp_l118, hp_l119, hp_l120, hp_l121, hp_l122, hp_l123, hp_l124, hp_l125, hp_l126, hp_l127, hp_l141, hp_l142, hp_l150, hp_l151, hp_l152, hp_l153, hp_l251, hp_l255, hp_l256, hp_l300, hp_l432, hp_l864, hp_l1000, hp_l1600, hp_l1700, hp_l2304, hp_l2916, hp_l3000, hp_l9999, hp_l10000, nI_add, pk_mul, nI_clamp, hl_lt, hl_le, hl_eq, hl_nIb, hl_nsub, hp_eqm, hp_meq, hp_ltm, hp_mlt, hp_lem, hp_mle, hp_addm, hp_meqm, hp_mlem, hp_withinE, hp_within0, if_pos, if_neg, Option.bind_some, hp_let, Sum.elim_inl, Sum.elim_inr, hp_s01, hp_s11, hp_s2, true_and, and_true, if_true, if_false, not_true_eq_false, not_false_eq_true, reduceCtorEq] <;> omega)
        rw [if_neg (fun y => e ((hp_orE (by omega) (by omega)).mp y))]
        simp only [if_pos n2, if_pos n3, nI_clamp (show hp_pz z < 2 ^ 31 by omega), nI_clamp (show z ||| 2 ^ k < 2 ^ 31 by omega), nI_clamp (show k < 2 ^ 31 by omega), show 43 + 1 + hp_pz z = 44 + hp_pz z by omega, hp_sh44 (show hp_pz z < 8 by omega), n4, and_self, true_and, if_true, M1.2 (hp_pz z) k (by omega) hk, l1, l2, nI_add, ef, Bool.not_false, f_Math_min_III, f_Math_max_III]
        have q1 : ∀ a b : Nat, a ≤ 20000 → b ≤ 20000 → (if nI b < nI a then nI b else nI a) = nI (if b < a then b else a) := by
          intro a b ha hb
          by_cases h : b < a
          · rw [if_pos (nI_lt h (by omega)), if_pos h]
          · rw [if_neg (nI_nlt (by omega) (by omega)), if_neg h]
        have q2 : ∀ a b : Nat, a ≤ 20000 → b ≤ 20000 → (if nI a < nI b then nI b else nI a) = nI (if a < b then b else a) := by
          intro a b ha hb
          by_cases h : a < b
          · rw [if_pos (nI_lt h (by omega)), if_pos h]
          · rw [if_neg (nI_nlt (by omega) (by omega)), if_neg h]
        have hmax : (if hp_ph (c (hp_pz z) k) < hp_S 10000 N (fun i k => hp_ph (c i k)) m (z ||| 2 ^ k) then hp_S 10000 N (fun i k => hp_ph (c i k)) m (z ||| 2 ^ k) else hp_ph (c (hp_pz z) k)) ≤ 10000 := by split <;> omega
        rw [q2 _ _ (by omega) (by omega), q1 _ _ (by omega) (by omega), q1 _ _ (by omega) (by omega), if_pos n4, if_pos n4]
    · unfold f_Pt_weigh_L49
      dsimp only
      rw [M1.1, if_pos (by first | omega | (simp (disch := first | assumption | omega) only [↓hp_neg1, hp_l0, hp_l1, hp_l2, hp_l3, hp_l4, hp_l5, hp_l6, hp_l7, hp_l8, hp_l9, hp_l10, hp_l11, hp_l12, hp_l13, hp_l14, hp_l15, hp_l16, hp_l17, hp_l18, hp_l19, hp_l20, hp_l21, hp_l22, hp_l23, hp_l24, hp_l25, hp_l26, hp_l27, hp_l28, hp_l29, hp_l30, hp_l31, hp_l32, hp_l33, hp_l34, hp_l35, hp_l36, hp_l37, hp_l38, hp_l39, hp_l40, hp_l41, hp_l42, hp_l43, hp_l44, hp_l45, hp_l46, hp_l47, hp_l48, hp_l49, hp_l50, hp_l51, hp_l52, hp_l53, hp_l54, hp_l55, hp_l56, hp_l57, hp_l58, hp_l59, hp_l60, hp_l61, hp_l62, hp_l63, hp_l64, hp_l65, hp_l66, hp_l67, hp_l68, hp_l69, hp_l70, hp_l71, hp_l72, hp_l73, hp_l74, hp_l75, hp_l76, hp_l77, hp_l78, hp_l79, hp_l80, hp_l81, hp_l82, hp_l83, hp_l84, hp_l85, hp_l86, hp_l87, hp_l88, hp_l89, hp_l90, hp_l91, hp_l92, hp_l93, hp_l94, hp_l95, hp_l96, hp_l97, hp_l98, hp_l99, hp_l100, hp_l101, hp_l102, hp_l103, hp_l104, hp_l105, hp_l106, hp_l107, hp_l108, hp_l109, hp_l110, hp_l111, hp_l112, hp_l113, hp_l114, hp_l115, hp_l116, hp_l117, hp_l118, hp_l119, hp_l120, hp_l121, hp_l122, hp_l123, hp_l124, hp_l125, hp_l126, hp_l127, hp_l141, hp_l142, hp_l150, hp_l151, hp_l152, hp_l153, hp_l251, hp_l255, hp_l256, hp_l300, hp_l432, hp_l864, hp_l1000, hp_l1600, hp_l1700, hp_l2304, hp_l2916, hp_l3000, hp_l9999, hp_l10000, nI_add, pk_mul, nI_clamp, hl_lt, hl_le, hl_eq, hl_nIb, hl_nsub, hp_eqm, hp_meq, hp_ltm, hp_mlt, hp_lem, hp_mle, hp_addm, hp_meqm, hp_mlem, hp_withinE, hp_within0, if_pos, if_neg, Option.bind_some, hp_let, Sum.elim_inl, Sum.elim_inr, hp_s01, hp_s11, hp_s2, true_and, and_true, if_true, if_false, not_true_eq_false, not_false_eq_true, reduceCtorEq] <;> omega)), hm, hp_L_s, hp_S_s, show N - (m + 1) = hp_pz z by omega]
    · dsimp only
      rw [if_pos (by first | omega | (simp (disch := first | assumption | omega) only [↓hp_neg1, hp_l0, hp_l1, hp_l2, hp_l3, hp_l4, hp_l5, hp_l6, hp_l7, hp_l8, hp_l9, hp_l10, hp_l11, hp_l12, hp_l13, hp_l14, hp_l15, hp_l16, hp_l17, hp_l18, hp_l19, hp_l20, hp_l21, hp_l22, hp_l23, hp_l24, hp_l25, hp_l26, hp_l27, hp_l28, hp_l29, hp_l30, hp_l31, hp_l32, hp_l33, hp_l34, hp_l35, hp_l36, hp_l37, hp_l38, hp_l39, hp_l40, hp_l41, hp_l42, hp_l43, hp_l44, hp_l45, hp_l46, hp_l47, hp_l48, hp_l49, hp_l50, hp_l51, hp_l52, hp_l53, hp_l54, hp_l55, hp_l56, hp_l57, hp_l58, hp_l59, hp_l60, hp_l61, hp_l62, hp_l63, hp_l64, hp_l65, hp_l66, hp_l67, hp_l68, hp_l69, hp_l70, hp_l71, hp_l72, hp_l73, hp_l74, hp_l75, hp_l76, hp_l77, hp_l78, hp_l79, hp_l80, hp_l81, hp_l82, hp_l83, hp_l84, hp_l85, hp_l86, hp_l87, hp_l88, hp_l89, hp_l90, hp_l91, hp_l92, hp_l93, hp_l94, hp_l95, hp_l96, hp_l97, hp_l98, hp_l99, hp_l100, hp_l101, hp_l102, hp_l103, hp_l104, hp_l105, hp_l106, hp_l107, hp_l108, hp_l109, hp_l110, hp_l111, hp_l112, hp_l113, hp_l114, hp_l115, hp_l116, hp_l117, hp_l118, hp_l119, hp_l120, hp_l121, hp_l122, hp_l123, hp_l124, hp_l125, hp_l126, hp_l127, hp_l141, hp_l142, hp_l150, hp_l151, hp_l152, hp_l153, hp_l251, hp_l255, hp_l256, hp_l300, hp_l432, hp_l864, hp_l1000, hp_l1600, hp_l1700, hp_l2304, hp_l2916, hp_l3000, hp_l9999, hp_l10000, nI_add, pk_mul, nI_clamp, hl_lt, hl_le, hl_eq, hl_nIb, hl_nsub, hp_eqm, hp_meq, hp_ltm, hp_mlt, hp_lem, hp_mle, hp_addm, hp_meqm, hp_mlem, hp_withinE, hp_within0, if_pos, if_neg, Option.bind_some, hp_let, Sum.elim_inl, Sum.elim_inr, hp_s01, hp_s11, hp_s2, true_and, and_true, if_true, if_false, not_true_eq_false, not_false_eq_true, reduceCtorEq] <;> omega)), if_pos (by first | omega | (simp (disch := first | assumption | omega) only [↓hp_neg1, hp_l0, hp_l1, hp_l2, hp_l3, hp_l4, hp_l5, hp_l6, hp_l7, hp_l8, hp_l9, hp_l10, hp_l11, hp_l12, hp_l13, hp_l14, hp_l15, hp_l16, hp_l17, hp_l18, hp_l19, hp_l20, hp_l21, hp_l22, hp_l23, hp_l24, hp_l25, hp_l26, hp_l27, hp_l28, hp_l29, hp_l30, hp_l31, hp_l32, hp_l33, hp_l34, hp_l35, hp_l36, hp_l37, hp_l38, hp_l39, hp_l40, hp_l41, hp_l42, hp_l43, hp_l44, hp_l45, hp_l46, hp_l47, hp_l48, hp_l49, hp_l50, hp_l51, hp_l52, hp_l53, hp_l54, hp_l55, hp_l56, hp_l57, hp_l58, hp_l59, hp_l60, hp_l61, hp_l62, hp_l63, hp_l64, hp_l65, hp_l66, hp_l67, hp_l68, hp_l69, hp_l70, hp_l71, hp_l72, hp_l73, hp_l74, hp_l75, hp_l76, hp_l77, hp_l78, hp_l79, hp_l80, hp_l81, hp_l82, hp_l83, hp_l84, hp_l85, hp_l86, hp_l87, hp_l88, hp_l89, hp_l90, hp_l91, hp_l92, hp_l93, hp_l94, hp_l95, hp_l96, hp_l97, hp_l98, hp_l99, hp_l100, hp_l101, hp_l102, hp_l103, hp_l104, hp_l105, hp_l106, hp_l107, hp_l108, hp_l109, hp_l110, hp_l111, hp_l112, hp_l113, hp_l114, hp_l115, hp_l116, hp_l117, hp_l118, hp_l119, hp_l120, hp_l121, hp_l122, hp_l123, hp_l124, hp_l125, hp_l126, hp_l127, hp_l141, hp_l142, hp_l150, hp_l151, hp_l152, hp_l153, hp_l251, hp_l255, hp_l256, hp_l300, hp_l432, hp_l864, hp_l1000, hp_l1600, hp_l1700, hp_l2304, hp_l2916, hp_l3000, hp_l9999, hp_l10000, nI_add, pk_mul, nI_clamp, hl_lt, hl_le, hl_eq, hl_nIb, hl_nsub, hp_eqm, hp_meq, hp_ltm, hp_mlt, hp_lem, hp_mle, hp_addm, hp_meqm, hp_mlem, hp_withinE, hp_within0, if_pos, if_neg, Option.bind_some, hp_let, Sum.elim_inl, Sum.elim_inr, hp_s01, hp_s11, hp_s2, true_and, and_true, if_true, if_false, not_true_eq_false, not_false_eq_true, reduceCtorEq] <;> omega)), nI_clamp (by omega)]
      refine ⟨_, rfl, ?_, (F.si (.inl rfl)).si (.inr (.inl rfl)), fun y hy h => ?_⟩
      · dsimp only
        by_cases e : j + 1 < A
        · rw [if_pos e, show (-1 : Int32) = hp_m1 from rfl, hp_addm (by omega)]; congr 1; omega
        · rw [if_neg e, show z = 0 by omega]; rfl
      · dsimp only
        by_cases e : y = z
        · rw [e, hp_s01, hp_sn (by omega), hp_s01]
          exact ⟨rfl, rfl⟩
        · rw [hp_sn (by omega), hp_sn (by omega), hp_sn (by omega)]
          have := a3 y hy (by omega)
          exact ⟨this.1, by rw [hp_sn (by omega)]; exact this.2⟩
  · rintro ⟨x, υ⟩ ⟨a1, F, a3⟩
    dsimp only at a1 F a3
    rw [if_neg (by omega)] at a1
    subst a1
    unfold f_Pt_weigh_L27
    dsimp only
    rw [if_pos (by decide)]
    exact ⟨_, rfl, F, fun z hz _ => a3 z hz (by omega)⟩
theorem hp_set_lt {N : Nat} {c : Nat → Nat → Nat} (hN : N ≤ 8) (h : hp_L 1000 N c N 0 < 1000) : ∀ i, i ≤ N → hp_set N c i < 2 ^ N ∧ hp_pz (hp_set N c i) = i
  | 0, _ => ⟨Nat.two_pow_pos N, by show hp_pz 0 = 0; decide⟩
  | i + 1, hi => by
    obtain ⟨a, b⟩ := hp_set_lt hN h i (by omega)
    obtain ⟨_, c1, c2, _, _⟩ := hp_ch_ok (N := N) (c := c) i (by omega) h
    have hp2 : 2 ^ N ≤ 2 ^ 8 := Nat.pow_le_pow_right (by decide) hN
    have := hp_pz_or (hp_set N c i) (by omega) (hp_ch N c i) (by omega) c2
    rw [hp_set_s]
    exact ⟨hp_or_lt a c1, by omega⟩
theorem hx_choose {N : Nat} {c : Nat → Nat → Nat} (hN : N ≤ 8) (hc : hp_cst c) (M : hx_cm N c σ) (L : hx_lm N c (fun _ => True) σ) (h : hp_L 1000 N c N 0 < 1000) (hg : ∀ k, k < N → ∃ v, σ.1 42 k = v) : ∃ σ', f_Pt_choose σ = some σ' ∧ hp_fr (fun q _ => q = 54) σ σ' ∧ ∀ i, i < N → σ'.1 54 i = σ.1 42 (hp_ch N c i) := by
  have hp2 : 2 ^ N ≤ 2 ^ 8 := Nat.pow_le_pow_right (by decide) hN
  unfold f_Pt_choose
  refine hp_invX (b := f_Pt_choose_L4) (s := (0, 0, σ)) N (fun i s => s.1 = nI (hp_set N c i) ∧ s.2.1 = nI i ∧ hp_fr (fun q _ => q = 54) σ s.2.2 ∧ ∀ j, j < i → s.2.2.1 54 j = σ.1 42 (hp_ch N c j)) (fun e => hp_fr (fun q _ => q = 54) σ e ∧ ∀ i, i < N → e.1 54 i = σ.1 42 (hp_ch N c i)) (by omega) ⟨rfl, rfl, .rf, fun j hj => by omega⟩ ?_ ?_ ?_
  · rintro e h1 ⟨h2, h3⟩
    rw [h1]
    exact ⟨e, rfl, h2, h3⟩
  · rintro i ⟨x, y, υ⟩ hi ⟨a1, a2, F, a4⟩
    dsimp only at a1 a2 F a4
    subst a1 a2
    have F3 : hp_fr hx_T3 σ υ := F.mono (fun q f h => .inr (.inr h))
    have M1 := M.T3 hN F3
    obtain ⟨s1, s2⟩ := hp_set_lt hN h i (by omega)
    obtain ⟨c0, c1, c2, c3, c4⟩ := hp_ch_ok (N := N) (c := c) i hi h
    have e42 : υ.1 42 = σ.1 42 := funext fun f => F.i (by omega)
    have hLv : ∀ z, z < 2 ^ N → υ.1 52 z = nI (hp_L 10000 N (fun i k => hp_ph (c i k)) (N - hp_pz z) z) := fun z hz => by
      rw [F.i (by omega)]; exact (L z hz trivial).1
    have hLX := hp_L_sh (N := N) hc
    left
    unfold f_Pt_choose_L4
    dsimp only
    rw [M1.1, if_neg (by first | omega | (simp (disch := first | assumption | omega) only [↓hp_neg1, hp_l0, hp_l1, hp_l2, hp_l3, hp_l4, hp_l5, hp_l6, hp_l7, hp_l8, hp_l9, hp_l10, hp_l11, hp_l12, hp_l13, hp_l14, hp_l15, hp_l16, hp_l17, hp_l18, hp_l19, hp_l20, hp_l21, hp_l22, hp_l23, hp_l24, hp_l25, hp_l26, hp_l27, hp_l28, hp_l29, hp_l30, hp_l31, hp_l32, hp_l33, hp_l34, hp_l35, hp_l36, hp_l37, hp_l38, hp_l39, hp_l40, hp_l41, hp_l42, hp_l43, hp_l44, hp_l45, hp_l46, hp_l47, hp_l48, hp_l49, hp_l50, hp_l51, hp_l52, hp_l53, hp_l54, hp_l55, hp_l56, hp_l57, hp_l58, hp_l59, hp_l60, hp_l61, hp_l62, hp_l63, hp_l64, hp_l65, hp_l66, hp_l67, hp_l68, hp_l69, hp_l70, hp_l71, hp_l72, hp_l73, hp_l74, hp_l75, hp_l76, hp_l77, hp_l78, hp_l79, hp_l80, hp_l81, hp_l82, hp_l83, hp_l84, hp_l85, hp_l86, hp_l87, hp_l88, hp_l89, hp_l90, hp_l91, hp_l92, hp_l93, hp_l94, hp_l95, hp_l96, hp_l97, hp_l98, hp_l99, hp_l100, hp_l101, hp_l102, hp_l103, hp_l104, hp_l105, hp_l106, hp_l107, hp_l108, hp_l109, hp_l110, hp_l111, hp_l112, hp_l113, hp_l114, hp_l115, hp_l116, hp_l117, hp_l118, hp_l119, hp_l120, hp_l121, hp_l122, hp_l123, hp_l124, hp_l125, hp_l126, hp_l127, hp_l141, hp_l142, hp_l150, hp_l151, hp_l152, hp_l153, hp_l251, hp_l255, hp_l256, hp_l300, hp_l432, hp_l864, hp_l1000, hp_l1600, hp_l1700, hp_l2304, hp_l2916, hp_l3000, hp_l9999, hp_l10000, nI_add, pk_mul, nI_clamp, hl_lt, hl_le, hl_eq, hl_nIb, hl_nsub, hp_eqm, hp_meq, hp_ltm, hp_mlt, hp_lem, hp_mle, hp_addm, hp_meqm, hp_mlem, hp_withinE, hp_within0, if_pos, if_neg, Option.bind_some, hp_let, Sum.elim_inl, Sum.elim_inr, hp_s01, hp_s11, hp_s2, true_and, and_true, if_true, if_false, not_true_eq_false, not_false_eq_true, reduceCtorEq] <;> omega))]
    refine hp_bindF (nI (hp_set N c (i + 1)), hl_si υ 54 i (σ.1 42 (hp_ch N c i))) (hp_for' (hp_ch N c i + 1) (fun j => if j ≤ hp_ch N c i then (nI (hp_set N c i), 0, nI j, υ) else (nI (hp_set N c (i + 1)), 1, nI j, hl_si υ 54 i (σ.1 42 (hp_ch N c i)))) ?_ (by omega) ?_ ?_) ?_
    · rw [if_pos (Nat.zero_le _)]; rfl
    · intro j hj
      have hjN : j < N := by omega
      have n1 : ¬ nI N ≤ nI j := by first | omega | (simp (disch := first | assumption | omega) only [↓hp_neg1, hp_l0, hp_l1, hp_l2, hp_l3, hp_l4, hp_l5, hp_l6, hp_l7, hp_l8, hp_l9, hp_l10, hp_l11, hp_l12, hp_l13, hp_l14, hp_l15, hp_l16, hp_l17, hp_l18, hp_l19, hp_l20, hp_l21, hp_l22, hp_l23, hp_l24, hp_l25, hp_l26, hp_l27, hp_l28, hp_l29, hp_l30, hp_l31, hp_l32, hp_l33, hp_l34, hp_l35, hp_l36, hp_l37, hp_l38, hp_l39, hp_l40, hp_l41, hp_l42, hp_l43, hp_l44, hp_l45, hp_l46, hp_l47, hp_l48, hp_l49, hp_l50, hp_l51, hp_l52, hp_l53, hp_l54, hp_l55, hp_l56, hp_l57, hp_l58, hp_l59, hp_l60, hp_l61, hp_l62, hp_l63, hp_l64, hp_l65, hp_l66, hp_l67, hp_l68, hp_l69, hp_l70, hp_l71, hp_l72, hp_l73, hp_l74, hp_l75, hp_l76, hp_l77, hp_l78, hp_l79, hp_l80, hp_l81, hp_l82, hp_l83, hp_l84, hp_l85, hp_l86, hp_l87, hp_l88, hp_l89, hp_l90, hp_l91, hp_l92, hp_l93, hp_l94, hp_l95, hp_l96, hp_l97, hp_l98, hp_l99, hp_l100, hp_l101, hp_l102, hp_l103, hp_l104, hp_l105, hp_l106, hp_l107, hp_l108, hp_l109, hp_l110, hp_l111, hp_l112, hp_l113, hp_l114, hp_l115, hp_l116, hp_l117, hp_l118, hp_l119, hp_l120, hp_l121, hp_l122, hp_l123, hp_l124, hp_l125, hp_l126, hp_l127, hp_l141, hp_l142, hp_l150, hp_l151, hp_l152, hp_l153, hp_l251, hp_l255, hp_l256, hp_l300, hp_l432, hp_l864, hp_l1000, hp_l1600, hp_l1700, hp_l2304, hp_l2916, hp_l3000, hp_l9999, hp_l10000, nI_add, pk_mul, nI_clamp, hl_lt, hl_le, hl_eq, hl_nIb, hl_nsub, hp_eqm, hp_meq, hp_ltm, hp_mlt, hp_lem, hp_mle, hp_addm, hp_meqm, hp_mlem, hp_withinE, hp_within0, if_pos, if_neg, Option.bind_some, hp_let, Sum.elim_inl, Sum.elim_inr, hp_s01, hp_s11, hp_s2, true_and, and_true, if_true, if_false, not_true_eq_false, not_false_eq_true, reduceCtorEq] <;> omega)
      have n3 : hl_b (nI j) 8 := by first | omega | (simp (disch := first | assumption | omega) only [↓hp_neg1, hp_l0, hp_l1, hp_l2, hp_l3, hp_l4, hp_l5, hp_l6, hp_l7, hp_l8, hp_l9, hp_l10, hp_l11, hp_l12, hp_l13, hp_l14, hp_l15, hp_l16, hp_l17, hp_l18, hp_l19, hp_l20, hp_l21, hp_l22, hp_l23, hp_l24, hp_l25, hp_l26, hp_l27, hp_l28, hp_l29, hp_l30, hp_l31, hp_l32, hp_l33, hp_l34, hp_l35, hp_l36, hp_l37, hp_l38, hp_l39, hp_l40, hp_l41, hp_l42, hp_l43, hp_l44, hp_l45, hp_l46, hp_l47, hp_l48, hp_l49, hp_l50, hp_l51, hp_l52, hp_l53, hp_l54, hp_l55, hp_l56, hp_l57, hp_l58, hp_l59, hp_l60, hp_l61, hp_l62, hp_l63, hp_l64, hp_l65, hp_l66, hp_l67, hp_l68, hp_l69, hp_l70, hp_l71, hp_l72, hp_l73, hp_l74, hp_l75, hp_l76, hp_l77, hp_l78, hp_l79, hp_l80, hp_l81, hp_l82, hp_l83, hp_l84, hp_l85, hp_l86, hp_l87, hp_l88, hp_l89, hp_l90, hp_l91, hp_l92, hp_l93, hp_l94, hp_l95, hp_l96, hp_l97, hp_l98, hp_l99, hp_l100, hp_l101, hp_l102, hp_l103, hp_l104, hp_l105, hp_l106, hp_l107, hp_l108, hp_l109, hp_l110, hp_l111, hp_l112, hp_l113, hp_l114, hp_l115, hp_l116, hp_l117, hp_l118, hp_l119, hp_l120, hp_l121, hp_l122, hp_l123, hp_l124, hp_l125, hp_l126, hp_l127, hp_l141, hp_l142, hp_l150, hp_l151, hp_l152, hp_l153, hp_l251, hp_l255, hp_l256, hp_l300, hp_l432, hp_l864, hp_l1000, hp_l1600, hp_l1700, hp_l2304, hp_l2916, hp_l3000, hp_l9999, hp_l10000, nI_add, pk_mul, nI_clamp, hl_lt, hl_le, hl_eq, hl_nIb, hl_nsub, hp_eqm, hp_meq, hp_ltm, hp_mlt, hp_lem, hp_mle, hp_addm, hp_meqm, hp_mlem, hp_withinE, hp_within0, if_pos, if_neg, Option.bind_some, hp_let, Sum.elim_inl, Sum.elim_inr, hp_s01, hp_s11, hp_s2, true_and, and_true, if_true, if_false, not_true_eq_false, not_false_eq_true, reduceCtorEq] <;> omega)
      have n4 : hl_b (nI i) 8 := by first | omega | (simp (disch := first | assumption | omega) only [↓hp_neg1, hp_l0, hp_l1, hp_l2, hp_l3, hp_l4, hp_l5, hp_l6, hp_l7, hp_l8, hp_l9, hp_l10, hp_l11, hp_l12, hp_l13, hp_l14, hp_l15, hp_l16, hp_l17, hp_l18, hp_l19, hp_l20, hp_l21, hp_l22, hp_l23, hp_l24, hp_l25, hp_l26, hp_l27, hp_l28, hp_l29, hp_l30, hp_l31, hp_l32, hp_l33, hp_l34, hp_l35, hp_l36, hp_l37, hp_l38, hp_l39, hp_l40, hp_l41, hp_l42, hp_l43, hp_l44, hp_l45, hp_l46, hp_l47, hp_l48, hp_l49, hp_l50, hp_l51, hp_l52, hp_l53, hp_l54, hp_l55, hp_l56, hp_l57, hp_l58, hp_l59, hp_l60, hp_l61, hp_l62, hp_l63, hp_l64, hp_l65, hp_l66, hp_l67, hp_l68, hp_l69, hp_l70, hp_l71, hp_l72, hp_l73, hp_l74, hp_l75, hp_l76, hp_l77, hp_l78, hp_l79, hp_l80, hp_l81, hp_l82, hp_l83, hp_l84, hp_l85, hp_l86, hp_l87, hp_l88, hp_l89, hp_l90, hp_l91, hp_l92, hp_l93, hp_l94, hp_l95, hp_l96, hp_l97, hp_l98, hp_l99, hp_l100, hp_l101, hp_l102, hp_l103, hp_l104, hp_l105, hp_l106, hp_l107, hp_l108, hp_l109, hp_l110, hp_l111, hp_l112, hp_l113, hp_l114, hp_l115, hp_l116, hp_l117, hp_l118, hp_l119, hp_l120, hp_l121, hp_l122, hp_l123, hp_l124, hp_l125, hp_l126, hp_l127, hp_l141, hp_l142, hp_l150, hp_l151, hp_l152, hp_l153, hp_l251, hp_l255, hp_l256, hp_l300, hp_l432, hp_l864, hp_l1000, hp_l1600, hp_l1700, hp_l2304, hp_l2916, hp_l3000, hp_l9999, hp_l10000, nI_add, pk_mul, nI_clamp, hl_lt, hl_le, hl_eq, hl_nIb, hl_nsub, hp_eqm, hp_meq, hp_ltm, hp_mlt, hp_lem, hp_mle, hp_addm, hp_meqm, hp_mlem, hp_withinE, hp_within0, if_pos, if_neg, Option.bind_some, hp_let, Sum.elim_inl, Sum.elim_inr, hp_s01, hp_s11, hp_s2, true_and, and_true, if_true, if_false, not_true_eq_false, not_false_eq_true, reduceCtorEq] <;> omega)
      have hlt := hp_or_lt (z := hp_set N c i) (k := j) (N := N) s1 hjN
      have n5 : hl_b (nI (hp_set N c i ||| 2 ^ j)) 256 := by first | omega | (simp (disch := first | assumption | omega) only [↓hp_neg1, hp_l0, hp_l1, hp_l2, hp_l3, hp_l4, hp_l5, hp_l6, hp_l7, hp_l8, hp_l9, hp_l10, hp_l11, hp_l12, hp_l13, hp_l14, hp_l15, hp_l16, hp_l17, hp_l18, hp_l19, hp_l20, hp_l21, hp_l22, hp_l23, hp_l24, hp_l25, hp_l26, hp_l27, hp_l28, hp_l29, hp_l30, hp_l31, hp_l32, hp_l33, hp_l34, hp_l35, hp_l36, hp_l37, hp_l38, hp_l39, hp_l40, hp_l41, hp_l42, hp_l43, hp_l44, hp_l45, hp_l46, hp_l47, hp_l48, hp_l49, hp_l50, hp_l51, hp_l52, hp_l53, hp_l54, hp_l55, hp_l56, hp_l57, hp_l58, hp_l59, hp_l60, hp_l61, hp_l62, hp_l63, hp_l64, hp_l65, hp_l66, hp_l67, hp_l68, hp_l69, hp_l70, hp_l71, hp_l72, hp_l73, hp_l74, hp_l75, hp_l76, hp_l77, hp_l78, hp_l79, hp_l80, hp_l81, hp_l82, hp_l83, hp_l84, hp_l85, hp_l86, hp_l87, hp_l88, hp_l89, hp_l90, hp_l91, hp_l92, hp_l93, hp_l94, hp_l95, hp_l96, hp_l97, hp_l98, hp_l99, hp_l100, hp_l101, hp_l102, hp_l103, hp_l104, hp_l105, hp_l106, hp_l107, hp_l108, hp_l109, hp_l110, hp_l111, hp_l112, hp_l113, hp_l114, hp_l115, hp_l116, hp_l117, hp_l118, hp_l119, hp_l120, hp_l121, hp_l122, hp_l123, hp_l124, hp_l125, hp_l126, hp_l127, hp_l141, hp_l142, hp_l150, hp_l151, hp_l152, hp_l153, hp_l251, hp_l255, hp_l256, hp_l300, hp_l432, hp_l864, hp_l1000, hp_l1600, hp_l1700, hp_l2304, hp_l2916, hp_l3000, hp_l9999, hp_l10000, nI_add, pk_mul, nI_clamp, hl_lt, hl_le, hl_eq, hl_nIb, hl_nsub, hp_eqm, hp_meq, hp_ltm, hp_mlt, hp_lem, hp_mle, hp_addm, hp_meqm, hp_mlem, hp_withinE, hp_within0, if_pos, if_neg, Option.bind_some, hp_let, Sum.elim_inl, Sum.elim_inr, hp_s01, hp_s11, hp_s2, true_and, and_true, if_true, if_false, not_true_eq_false, not_false_eq_true, reduceCtorEq] <;> omega)
      have n6 : hl_b (nI (hp_set N c i)) 256 := by first | omega | (simp (disch := first | assumption | omega) only [↓hp_neg1, hp_l0, hp_l1, hp_l2, hp_l3, hp_l4, hp_l5, hp_l6, hp_l7, hp_l8, hp_l9, hp_l10, hp_l11, hp_l12, hp_l13, hp_l14, hp_l15, hp_l16, hp_l17, hp_l18, hp_l19, hp_l20, hp_l21, hp_l22, hp_l23, hp_l24, hp_l25, hp_l26, hp_l27, hp_l28, hp_l29, hp_l30, hp_l31, hp_l32, hp_l33, hp_l34, hp_l35, hp_l36, hp_l37, hp_l38, hp_l39, hp_l40, hp_l41, hp_l42, hp_l43, hp_l44, hp_l45, hp_l46, hp_l47, hp_l48, hp_l49, hp_l50, hp_l51, hp_l52, hp_l53, hp_l54, hp_l55, hp_l56, hp_l57, hp_l58, hp_l59, hp_l60, hp_l61, hp_l62, hp_l63, hp_l64, hp_l65, hp_l66, hp_l67, hp_l68, hp_l69, hp_l70, hp_l71, hp_l72, hp_l73, hp_l74, hp_l75, hp_l76, hp_l77, hp_l78, hp_l79, hp_l80, hp_l81, hp_l82, hp_l83, hp_l84, hp_l85, hp_l86, hp_l87, hp_l88, hp_l89, hp_l90, hp_l91, hp_l92, hp_l93, hp_l94, hp_l95, hp_l96, hp_l97, hp_l98, hp_l99, hp_l100, hp_l101, hp_l102, hp_l103, hp_l104, hp_l105, hp_l106, hp_l107, hp_l108, hp_l109, hp_l110, hp_l111, hp_l112, hp_l113, hp_l114, hp_l115, hp_l116, hp_l117, hp_l118, hp_l119, hp_l120, hp_l121, hp_l122, hp_l123, hp_l124, hp_l125, hp_l126, hp_l127, hp_l141, hp_l142, hp_l150, hp_l151, hp_l152, hp_l153, hp_l251, hp_l255, hp_l256, hp_l300, hp_l432, hp_l864, hp_l1000, hp_l1600, hp_l1700, hp_l2304, hp_l2916, hp_l3000, hp_l9999, hp_l10000, nI_add, pk_mul, nI_clamp, hl_lt, hl_le, hl_eq, hl_nIb, hl_nsub, hp_eqm, hp_meq, hp_ltm, hp_mlt, hp_lem, hp_mle, hp_addm, hp_meqm, hp_mlem, hp_withinE, hp_within0, if_pos, if_neg, Option.bind_some, hp_let, Sum.elim_inl, Sum.elim_inr, hp_s01, hp_s11, hp_s2, true_and, and_true, if_true, if_false, not_true_eq_false, not_false_eq_true, reduceCtorEq] <;> omega)
      rw [if_pos (show j ≤ hp_ch N c i by omega)]
      unfold f_Pt_choose_L17
      dsimp only
      rw [M1.1, if_neg n1, if_pos rfl, hp_orI _ (by omega) j (by omega)]
      by_cases e : (hp_set N c i).testBit j = true
      · have hne : j ≠ hp_ch N c i := fun x => by rw [x, c2] at e; cases e
        rw [if_pos ((hp_orE (by omega) (by omega)).mpr e), nI_1, if_pos (by omega)]
      · have ef := ts_nt' e
        have hor := hp_pz_or _ (show hp_set N c i < 256 by omega) j (by omega) ef
        rw [s2] at hor
        have l1 := hLv _ hlt
        have l2 := hLv _ s1
        rw [hor.1] at l1
        rw [s2] at l2
        rw [if_neg (fun y => e ((hp_orE (by omega) (by omega)).mp y)), if_pos n4, nI_clamp (show i < 2 ^ 31 by omega), show 43 + 1 + i = 44 + i by omega, hp_sh44 (by omega), if_pos ⟨rfl, n3⟩, if_pos n5, if_pos n6, nI_clamp (show j < 2 ^ 31 by omega), M1.2 i j hi hjN, nI_clamp (show hp_set N c i ||| 2 ^ j < 2 ^ 31 by omega), nI_clamp (show hp_set N c i < 2 ^ 31 by omega), l1, l2, nI_add]
        have x1 := hLX (N - (i + 1)) (by omega) (hp_set N c i ||| 2 ^ j)
        have x2 := hLX (N - i) (by omega) (hp_set N c i)
        have hcc := hc i j
        have hph : (c i j = 1000 ∧ hp_ph (c i j) = 10000) ∨ (c i j < 54 ∧ hp_ph (c i j) = c i j) := by
          unfold hp_ph
          rcases hcc with x | x
          · rw [if_pos x]; omega
          · rw [if_neg (by omega)]; omega
        have heq : (nI (hp_ph (c i j) + hp_L 10000 N (fun i k => hp_ph (c i k)) (N - (i + 1)) (hp_set N c i ||| 2 ^ j)) = nI (hp_L 10000 N (fun i k => hp_ph (c i k)) (N - i) (hp_set N c i))) ↔ c i j + hp_L 1000 N c (N - (i + 1)) (hp_set N c i ||| 2 ^ j) = hp_L 1000 N c (N - i) (hp_set N c i) := by
          rw [hl_eq (by omega) (by omega)]
          omega
        by_cases ej : j = hp_ch N c i
        · rw [if_pos (heq.mpr (by rw [ej]; exact c3)), if_pos n3, if_pos n4, nI_1, if_neg (by omega), e42, ej]
          rfl
        · have hlt2 : j < hp_ch N c i := by omega
          rcases c4 j hlt2 with y | y
          · exact absurd y e
          · rw [if_neg (fun z => y (heq.mp z)), nI_1, if_pos (by omega)]
    · rw [if_neg (by omega)]
      have M2 : (hl_si υ 54 i (σ.1 42 (hp_ch N c i))).1 38 4 = nI N := by rw [hp_sn (by omega)]; exact M1.1
      unfold f_Pt_choose_L17
      dsimp only
      rw [M2]
      by_cases e : N ≤ hp_ch N c i + 1
      · rw [if_pos (by first | omega | (simp (disch := first | assumption | omega) only [↓hp_neg1, hp_l0, hp_l1, hp_l2, hp_l3, hp_l4, hp_l5, hp_l6, hp_l7, hp_l8, hp_l9, hp_l10, hp_l11, hp_l12, hp_l13, hp_l14, hp_l15, hp_l16, hp_l17, hp_l18, hp_l19, hp_l20, hp_l21, hp_l22, hp_l23, hp_l24, hp_l25, hp_l26, hp_l27, hp_l28, hp_l29, hp_l30, hp_l31, hp_l32, hp_l33, hp_l34, hp_l35, hp_l36, hp_l37, hp_l38, hp_l39, hp_l40, hp_l41, hp_l42, hp_l43, hp_l44, hp_l45, hp_l46, hp_l47, hp_l48, hp_l49, hp_l50, hp_l51, hp_l52, hp_l53, hp_l54, hp_l55, hp_l56, hp_l57, hp_l58, hp_l59, hp_l60, hp_l61, hp_l62, hp_l63, hp_l64, hp_l65, hp_l66, hp_l67, hp_l68, hp_l69, hp_l70, hp_l71, hp_l72, hp_l73, hp_l74, hp_l75, hp_l76, hp_l77, hp_l78, hp_l79, hp_l80, hp_l81, hp_l82, hp_l83, hp_l84, hp_l85, hp_l86, hp_l87, hp_l88, hp_l89, hp_l90, hp_l91, hp_l92, hp_l93, hp_l94, hp_l95, hp_l96, hp_l97, hp_l98, hp_l99, hp_l100, hp_l101, hp_l102, hp_l103, hp_l104, hp_l105, hp_l106, hp_l107, hp_l108, hp_l109, hp_l110, hp_l111, hp_l112, hp_l113, hp_l114, hp_l115, hp_l116, hp_l117, hp_l118, hp_l119, hp_l120, hp_l121, hp_l122, hp_l123, hp_l124, hp_l125, hp_l126, hp_l127, hp_l141, hp_l142, hp_l150, hp_l151, hp_l152, hp_l153, hp_l251, hp_l255, hp_l256, hp_l300, hp_l432, hp_l864, hp_l1000, hp_l1600, hp_l1700, hp_l2304, hp_l2916, hp_l3000, hp_l9999, hp_l10000, nI_add, pk_mul, nI_clamp, hl_lt, hl_le, hl_eq, hl_nIb, hl_nsub, hp_eqm, hp_meq, hp_ltm, hp_mlt, hp_lem, hp_mle, hp_addm, hp_meqm, hp_mlem, hp_withinE, hp_within0, if_pos, if_neg, Option.bind_some, hp_let, Sum.elim_inl, Sum.elim_inr, hp_s01, hp_s11, hp_s2, true_and, and_true, if_true, if_false, not_true_eq_false, not_false_eq_true, reduceCtorEq] <;> omega))]
      · rw [if_neg (by first | omega | (simp (disch := first | assumption | omega) only [↓hp_neg1, hp_l0, hp_l1, hp_l2, hp_l3, hp_l4, hp_l5, hp_l6, hp_l7, hp_l8, hp_l9, hp_l10, hp_l11, hp_l12, hp_l13, hp_l14, hp_l15, hp_l16, hp_l17, hp_l18, hp_l19, hp_l20, hp_l21, hp_l22, hp_l23, hp_l24, hp_l25, hp_l26, hp_l27, hp_l28, hp_l29, hp_l30, hp_l31, hp_l32, hp_l33, hp_l34, hp_l35, hp_l36, hp_l37, hp_l38, hp_l39, hp_l40, hp_l41, hp_l42, hp_l43, hp_l44, hp_l45, hp_l46, hp_l47, hp_l48, hp_l49, hp_l50, hp_l51, hp_l52, hp_l53, hp_l54, hp_l55, hp_l56, hp_l57, hp_l58, hp_l59, hp_l60, hp_l61, hp_l62, hp_l63, hp_l64, hp_l65, hp_l66, hp_l67, hp_l68, hp_l69, hp_l70, hp_l71, hp_l72, hp_l73, hp_l74, hp_l75, hp_l76, hp_l77, hp_l78, hp_l79, hp_l80, hp_l81, hp_l82, hp_l83, hp_l84, hp_l85, hp_l86, hp_l87, hp_l88, hp_l89, hp_l90, hp_l91, hp_l92, hp_l93, hp_l94, hp_l95, hp_l96, hp_l97, hp_l98, hp_l99, hp_l100, hp_l101, hp_l102, hp_l103, hp_l104, hp_l105, hp_l106, hp_l107, hp_l108, hp_l109, hp_l110, hp_l111, hp_l112, hp_l113, hp_l114, hp_l115, hp_l116, hp_l117, hp_l118, hp_l119, hp_l120, hp_l121, hp_l122, hp_l123, hp_l124, hp_l125, hp_l126, hp_l127, hp_l141, hp_l142, hp_l150, hp_l151, hp_l152, hp_l153, hp_l251, hp_l255, hp_l256, hp_l300, hp_l432, hp_l864, hp_l1000, hp_l1600, hp_l1700, hp_l2304, hp_l2916, hp_l3000, hp_l9999, hp_l10000, nI_add, pk_mul, nI_clamp, hl_lt, hl_le, hl_eq, hl_nIb, hl_nsub, hp_eqm, hp_meq, hp_ltm, hp_mlt, hp_lem, hp_mle, hp_addm, hp_meqm, hp_mlem, hp_withinE, hp_within0, if_pos, if_neg, Option.bind_some, hp_let, Sum.elim_inl, Sum.elim_inr, hp_s01, hp_s11, hp_s2, true_and, and_true, if_true, if_false, not_true_eq_false, not_false_eq_true, reduceCtorEq] <;> omega)), if_neg (by decide)]
    · dsimp only
      refine ⟨_, rfl, rfl, nI_1 i, F.si rfl, fun j hj => ?_⟩
      dsimp only
      rw [hl_rd]
      by_cases e : j = i
      · rw [if_pos ⟨rfl, e⟩, e]
      · rw [if_neg (fun z => e z.2)]; exact a4 j (by omega)
  · rintro ⟨x, y, υ⟩ ⟨a1, a2, F, a4⟩
    dsimp only at a1 a2 F a4
    subst a1 a2
    have F3 : hp_fr hx_T3 σ υ := F.mono (fun q f h => .inr (.inr h))
    unfold f_Pt_choose_L4
    dsimp only
    rw [(M.T3 hN F3).1, if_pos (by first | omega | (simp (disch := first | assumption | omega) only [↓hp_neg1, hp_l0, hp_l1, hp_l2, hp_l3, hp_l4, hp_l5, hp_l6, hp_l7, hp_l8, hp_l9, hp_l10, hp_l11, hp_l12, hp_l13, hp_l14, hp_l15, hp_l16, hp_l17, hp_l18, hp_l19, hp_l20, hp_l21, hp_l22, hp_l23, hp_l24, hp_l25, hp_l26, hp_l27, hp_l28, hp_l29, hp_l30, hp_l31, hp_l32, hp_l33, hp_l34, hp_l35, hp_l36, hp_l37, hp_l38, hp_l39, hp_l40, hp_l41, hp_l42, hp_l43, hp_l44, hp_l45, hp_l46, hp_l47, hp_l48, hp_l49, hp_l50, hp_l51, hp_l52, hp_l53, hp_l54, hp_l55, hp_l56, hp_l57, hp_l58, hp_l59, hp_l60, hp_l61, hp_l62, hp_l63, hp_l64, hp_l65, hp_l66, hp_l67, hp_l68, hp_l69, hp_l70, hp_l71, hp_l72, hp_l73, hp_l74, hp_l75, hp_l76, hp_l77, hp_l78, hp_l79, hp_l80, hp_l81, hp_l82, hp_l83, hp_l84, hp_l85, hp_l86, hp_l87, hp_l88, hp_l89, hp_l90, hp_l91, hp_l92, hp_l93, hp_l94, hp_l95, hp_l96, hp_l97, hp_l98, hp_l99, hp_l100, hp_l101, hp_l102, hp_l103, hp_l104, hp_l105, hp_l106, hp_l107, hp_l108, hp_l109, hp_l110, hp_l111, hp_l112, hp_l113, hp_l114, hp_l115, hp_l116, hp_l117, hp_l118, hp_l119, hp_l120, hp_l121, hp_l122, hp_l123, hp_l124, hp_l125, hp_l126, hp_l127, hp_l141, hp_l142, hp_l150, hp_l151, hp_l152, hp_l153, hp_l251, hp_l255, hp_l256, hp_l300, hp_l432, hp_l864, hp_l1000, hp_l1600, hp_l1700, hp_l2304, hp_l2916, hp_l3000, hp_l9999, hp_l10000, nI_add, pk_mul, nI_clamp, hl_lt, hl_le, hl_eq, hl_nIb, hl_nsub, hp_eqm, hp_meq, hp_ltm, hp_mlt, hp_lem, hp_mle, hp_addm, hp_meqm, hp_mlem, hp_withinE, hp_within0, if_pos, if_neg, Option.bind_some, hp_let, Sum.elim_inl, Sum.elim_inr, hp_s01, hp_s11, hp_s2, true_and, and_true, if_true, if_false, not_true_eq_false, not_false_eq_true, reduceCtorEq] <;> omega))]
    exact ⟨_, rfl, F, a4⟩
/-- the plan -/
def hp_v (G P : hp_G) (ds : Nat → Nat → Nat) (b w : Nat) : Nat := hp_L 1000 (hp_N G w) (hp_c G P ds b w) (hp_N G w) 0
def hp_u (G P : hp_G) (ds : Nat → Nat → Nat) (b w : Nat) : Nat := hp_S 1000 (hp_N G w) (hp_c G P ds b w) (hp_N G w) 0
def hp_cg (G P : hp_G) (ds : Nat → Nat → Nat) (b w i : Nat) : Nat := hp_gl G w (hp_ch (hp_N G w) (hp_c G P ds b w) i)
def hp_go (G P : hp_G) (ds : Nat → Nat → Nat) (b w : Nat) : Prop := hp_N G w = hp_nB G P ∧ hp_v G P ds b w < 1000
def hx_pl (G P : hp_G) (ds : Nat → Nat → Nat) (b w : Nat) (σ : hl_M) : Prop := hx_gm G P w σ ∧ σ.1 52 0 = nI (hp_v G P ds b w) ∧ σ.1 53 0 = nI (hp_u G P ds b w) ∧ ∀ i, i < hp_N G w → σ.1 54 i = nI (hp_cg G P ds b w i)
theorem hp_u_lt {N : Nat} {c : Nat → Nat → Nat} (hc : hp_cst c) : ∀ m z, hp_L 1000 N c m z < 1000 → hp_S 1000 N c m z < 1000
  | 0, _, _ => by show 0 < 1000; omega
  | m + 1, z, h => by
    rw [hp_L_s] at h
    obtain ⟨k, a1, a2, a3⟩ := hp_mn_at _ _ _ _ h
    have ih := hp_u_lt (N := N) hc m (z ||| 2 ^ k)
    have hL : hp_L 1000 N c m (z ||| 2 ^ k) < 1000 := by omega
    have hS := ih hL
    have hcc : c (N - (m + 1)) k < 1000 := by omega
    rw [hp_S_s]
    have low : ∀ (U : Nat) (ok : Nat → Bool) (f : Nat → Nat) n k, k < n → ok k = true → hp_mn U ok f n ≤ f k := by
      intro U ok f n
      induction n with
      | zero => intro k hk; omega
      | succ n ih2 =>
        intro k hk ho
        rw [hp_mn_s]
        by_cases e : k = n
        · subst e
          by_cases e2 : f k < hp_mn U ok f k
          · rw [if_pos ⟨ho, e2⟩]; exact Nat.le_refl _
          · rw [if_neg (fun z => e2 z.2)]; omega
        · have := ih2 k (by omega) ho
          split
          · rename_i h; omega
          · exact this
    have := low 1000 (fun k => !z.testBit k) (fun k => if c (N - (m + 1)) k < hp_S 1000 N c m (z ||| 2 ^ k) then hp_S 1000 N c m (z ||| 2 ^ k) else c (N - (m + 1)) k) N k a1 a2
    split at this <;> omega
theorem hx_plan (H : hx G P σ) (D : hp_DS G ds) (hb : b < 100) (hw : w < G 0 3) : (¬ hp_go G P ds b w → ∃ σ', f_Pt_plan (nI b) (nI w) σ = some (0, σ') ∧ hp_fr hx_T σ σ') ∧ (hp_go G P ds b w → ∃ σ', f_Pt_plan (nI b) (nI w) σ = some (1, σ') ∧ hp_fr hx_T σ σ' ∧ hx_pl G P ds b w σ') := by
  have hnw := H.wg.nw
  obtain ⟨N1, N8⟩ := H.wg.N8 hw
  have hc := hp_c_ok (P := P) (b := b) H.wg D hw
  obtain ⟨g1, g2⟩ := hx_gather H hw
  unfold f_Pt_plan
  rw [hp_i100, hp_withinT hb (by decide), hp_if1, H.nw, hp_withinT hw (by omega), hp_if1]
  by_cases e : hp_N G w = hp_nB G P
  · obtain ⟨σ1, e1, F1, M1⟩ := g2 e
    have H1 := H.T F1
    obtain ⟨σ2, e2, F2, C2⟩ := hx_costs H1 D hw hb e M1
    have M2 := M1.T2 F2
    have H2 := H1.T (hx_T2T F2)
    obtain ⟨σ3, e3, F3, L3⟩ := hx_weigh N8 hc ⟨M2.1, C2⟩
    have F3' : hp_fr hx_T σ2 σ3 := F3.mono (fun q f h => by unfold hx_T3 at h; unfold hx_T; omega)
    have C3 := (show hx_cm _ _ σ2 from ⟨M2.1, C2⟩).T3 N8 F3
    have M3 : hx_gm G P w σ3 := by
      obtain ⟨m1, m2, m3⟩ := M2
      refine ⟨?_, fun i hi => ?_, fun k hk => ?_⟩
      · rw [F3.i (by unfold hx_T3; omega)]; exact m1
      · rw [F3.i (by unfold hx_T3; omega)]; exact m2 i hi
      · rw [F3.i (by unfold hx_T3; omega)]; exact m3 k hk
    obtain ⟨v1, v2⟩ := L3 0 (Nat.two_pow_pos _) trivial
    have p0 : hp_pz 0 = 0 := by decide
    rw [p0, Nat.sub_zero] at v1 v2
    rw [e1, Option.bind_some, hp_if1, e2, Option.bind_some, e3, Option.bind_some, if_pos (by first | omega | (simp (disch := first | assumption | omega) only [↓hp_neg1, hp_l0, hp_l1, hp_l2, hp_l3, hp_l4, hp_l5, hp_l6, hp_l7, hp_l8, hp_l9, hp_l10, hp_l11, hp_l12, hp_l13, hp_l14, hp_l15, hp_l16, hp_l17, hp_l18, hp_l19, hp_l20, hp_l21, hp_l22, hp_l23, hp_l24, hp_l25, hp_l26, hp_l27, hp_l28, hp_l29, hp_l30, hp_l31, hp_l32, hp_l33, hp_l34, hp_l35, hp_l36, hp_l37, hp_l38, hp_l39, hp_l40, hp_l41, hp_l42, hp_l43, hp_l44, hp_l45, hp_l46, hp_l47, hp_l48, hp_l49, hp_l50, hp_l51, hp_l52, hp_l53, hp_l54, hp_l55, hp_l56, hp_l57, hp_l58, hp_l59, hp_l60, hp_l61, hp_l62, hp_l63, hp_l64, hp_l65, hp_l66, hp_l67, hp_l68, hp_l69, hp_l70, hp_l71, hp_l72, hp_l73, hp_l74, hp_l75, hp_l76, hp_l77, hp_l78, hp_l79, hp_l80, hp_l81, hp_l82, hp_l83, hp_l84, hp_l85, hp_l86, hp_l87, hp_l88, hp_l89, hp_l90, hp_l91, hp_l92, hp_l93, hp_l94, hp_l95, hp_l96, hp_l97, hp_l98, hp_l99, hp_l100, hp_l101, hp_l102, hp_l103, hp_l104, hp_l105, hp_l106, hp_l107, hp_l108, hp_l109, hp_l110, hp_l111, hp_l112, hp_l113, hp_l114, hp_l115, hp_l116, hp_l117, hp_l118, hp_l119, hp_l120, hp_l121, hp_l122, hp_l123, hp_l124, hp_l125, hp_l126, hp_l127, hp_l141, hp_l142, hp_l150, hp_l151, hp_l152, hp_l153, hp_l251, hp_l255, hp_l256, hp_l300, hp_l432, hp_l864, hp_l1000, hp_l1600, hp_l1700, hp_l2304, hp_l2916, hp_l3000, hp_l9999, hp_l10000, nI_add, pk_mul, nI_clamp, hl_lt, hl_le, hl_eq, hl_nIb, hl_nsub, hp_eqm, hp_meq, hp_ltm, hp_mlt, hp_lem, hp_mle, hp_addm, hp_meqm, hp_mlem, hp_withinE, hp_within0, if_pos, if_neg, Option.bind_some, hp_let, Sum.elim_inl, Sum.elim_inr, hp_s01, hp_s11, hp_s2, true_and, and_true, if_true, if_false, not_true_eq_false, not_false_eq_true, reduceCtorEq] <;> omega)), show (0 : Int32).toNatClampNeg = 0 from rfl, v1]
    have x1 := hp_L_sh (N := hp_N G w) hc (hp_N G w) N8 0
    have x2 := hp_S_sh (N := hp_N G w) hc (hp_N G w) 0
    have ev : hp_L 1000 (hp_N G w) (hp_c G P ds b w) (hp_N G w) 0 = hp_v G P ds b w := rfl
    have eu : hp_S 1000 (hp_N G w) (hp_c G P ds b w) (hp_N G w) 0 = hp_u G P ds b w := rfl
    have FT := F1.tr ((hx_T2T F2).tr F3')
    constructor
    · intro hno
      have : ¬ hp_v G P ds b w < 1000 := fun z => hno ⟨e, z⟩
      rw [if_neg (by first | omega | (simp (disch := first | assumption | omega) only [↓hp_neg1, hp_l0, hp_l1, hp_l2, hp_l3, hp_l4, hp_l5, hp_l6, hp_l7, hp_l8, hp_l9, hp_l10, hp_l11, hp_l12, hp_l13, hp_l14, hp_l15, hp_l16, hp_l17, hp_l18, hp_l19, hp_l20, hp_l21, hp_l22, hp_l23, hp_l24, hp_l25, hp_l26, hp_l27, hp_l28, hp_l29, hp_l30, hp_l31, hp_l32, hp_l33, hp_l34, hp_l35, hp_l36, hp_l37, hp_l38, hp_l39, hp_l40, hp_l41, hp_l42, hp_l43, hp_l44, hp_l45, hp_l46, hp_l47, hp_l48, hp_l49, hp_l50, hp_l51, hp_l52, hp_l53, hp_l54, hp_l55, hp_l56, hp_l57, hp_l58, hp_l59, hp_l60, hp_l61, hp_l62, hp_l63, hp_l64, hp_l65, hp_l66, hp_l67, hp_l68, hp_l69, hp_l70, hp_l71, hp_l72, hp_l73, hp_l74, hp_l75, hp_l76, hp_l77, hp_l78, hp_l79, hp_l80, hp_l81, hp_l82, hp_l83, hp_l84, hp_l85, hp_l86, hp_l87, hp_l88, hp_l89, hp_l90, hp_l91, hp_l92, hp_l93, hp_l94, hp_l95, hp_l96, hp_l97, hp_l98, hp_l99, hp_l100, hp_l101, hp_l102, hp_l103, hp_l104, hp_l105, hp_l106, hp_l107, hp_l108, hp_l109, hp_l110, hp_l111, hp_l112, hp_l113, hp_l114, hp_l115, hp_l116, hp_l117, hp_l118, hp_l119, hp_l120, hp_l121, hp_l122, hp_l123, hp_l124, hp_l125, hp_l126, hp_l127, hp_l141, hp_l142, hp_l150, hp_l151, hp_l152, hp_l153, hp_l251, hp_l255, hp_l256, hp_l300, hp_l432, hp_l864, hp_l1000, hp_l1600, hp_l1700, hp_l2304, hp_l2916, hp_l3000, hp_l9999, hp_l10000, nI_add, pk_mul, nI_clamp, hl_lt, hl_le, hl_eq, hl_nIb, hl_nsub, hp_eqm, hp_meq, hp_ltm, hp_mlt, hp_lem, hp_mle, hp_addm, hp_meqm, hp_mlem, hp_withinE, hp_within0, if_pos, if_neg, Option.bind_some, hp_let, Sum.elim_inl, Sum.elim_inr, hp_s01, hp_s11, hp_s2, true_and, and_true, if_true, if_false, not_true_eq_false, not_false_eq_true, reduceCtorEq] <;> omega))]
      exact ⟨_, rfl, FT⟩
    · rintro ⟨_, hv⟩
      have hu := hp_u_lt hc _ _ hv
      rw [if_pos (by first | omega | (simp (disch := first | assumption | omega) only [↓hp_neg1, hp_l0, hp_l1, hp_l2, hp_l3, hp_l4, hp_l5, hp_l6, hp_l7, hp_l8, hp_l9, hp_l10, hp_l11, hp_l12, hp_l13, hp_l14, hp_l15, hp_l16, hp_l17, hp_l18, hp_l19, hp_l20, hp_l21, hp_l22, hp_l23, hp_l24, hp_l25, hp_l26, hp_l27, hp_l28, hp_l29, hp_l30, hp_l31, hp_l32, hp_l33, hp_l34, hp_l35, hp_l36, hp_l37, hp_l38, hp_l39, hp_l40, hp_l41, hp_l42, hp_l43, hp_l44, hp_l45, hp_l46, hp_l47, hp_l48, hp_l49, hp_l50, hp_l51, hp_l52, hp_l53, hp_l54, hp_l55, hp_l56, hp_l57, hp_l58, hp_l59, hp_l60, hp_l61, hp_l62, hp_l63, hp_l64, hp_l65, hp_l66, hp_l67, hp_l68, hp_l69, hp_l70, hp_l71, hp_l72, hp_l73, hp_l74, hp_l75, hp_l76, hp_l77, hp_l78, hp_l79, hp_l80, hp_l81, hp_l82, hp_l83, hp_l84, hp_l85, hp_l86, hp_l87, hp_l88, hp_l89, hp_l90, hp_l91, hp_l92, hp_l93, hp_l94, hp_l95, hp_l96, hp_l97, hp_l98, hp_l99, hp_l100, hp_l101, hp_l102, hp_l103, hp_l104, hp_l105, hp_l106, hp_l107, hp_l108, hp_l109, hp_l110, hp_l111, hp_l112, hp_l113, hp_l114, hp_l115, hp_l116, hp_l117, hp_l118, hp_l119, hp_l120, hp_l121, hp_l122, hp_l123, hp_l124, hp_l125, hp_l126, hp_l127, hp_l141, hp_l142, hp_l150, hp_l151, hp_l152, hp_l153, hp_l251, hp_l255, hp_l256, hp_l300, hp_l432, hp_l864, hp_l1000, hp_l1600, hp_l1700, hp_l2304, hp_l2916, hp_l3000, hp_l9999, hp_l10000, nI_add, pk_mul, nI_clamp, hl_lt, hl_le, hl_eq, hl_nIb, hl_nsub, hp_eqm, hp_meq, hp_ltm, hp_mlt, hp_lem, hp_mle, hp_addm, hp_meqm, hp_mlem, hp_withinE, hp_within0, if_pos, if_neg, Option.bind_some, hp_let, Sum.elim_inl, Sum.elim_inr, hp_s01, hp_s11, hp_s2, true_and, and_true, if_true, if_false, not_true_eq_false, not_false_eq_true, reduceCtorEq] <;> omega))]
      obtain ⟨σ4, e4, F4, C4⟩ := hx_choose N8 hc C3 L3 hv (fun k _ => ⟨_, rfl⟩)
      have F4' : hp_fr hx_T σ3 σ4 := F4.mono (fun q f h => by unfold hx_T; omega)
      rw [e4, Option.bind_some]
      refine ⟨_, rfl, FT.tr F4', ⟨?_, fun i hi => ?_, fun k hk => ?_⟩, ?_, ?_, fun i hi => ?_⟩
      · rw [F4.i (by omega)]; exact M3.1
      · rw [F4.i (by omega)]; exact M3.2.1 i hi
      · rw [F4.i (by omega)]; exact M3.2.2 k hk
      · rw [F4.i (by omega), v1]; congr 1; omega
      · rw [F4.i (by omega), v2]; congr 1; omega
      · obtain ⟨_, c1, _⟩ := hp_ch_ok (N := hp_N G w) (c := hp_c G P ds b w) i hi hv
        rw [C4 i hi, M3.2.2 _ c1]
        rfl
  · obtain ⟨σ1, e1, F1⟩ := g1 e
    rw [e1, Option.bind_some, hp_if0]
    exact ⟨fun _ => ⟨_, rfl, F1⟩, fun z => absurd z.1 e⟩
end WE
