/-! statements, both in step: a cell, a wall -/
def hx_TD (q _f : Nat) : Prop := q = 3 ∨ (14 ≤ q ∧ q ≤ 24)
def hm_TD (q f : Nat) : Prop := hm_FD q f ∨ (q = 64 ∧ (f = 20 ∨ f = 21 ∨ f = 22 ∨ f = 29)) ∨ (q = 75 ∧ f < 3) ∨ (q = 76 ∧ f < 54) ∨ (q = 77 ∧ f < 20) ∨ (q = 78 ∧ f < 150) ∨ (q = 79 ∧ f < 432) ∨ (q = 80 ∧ f < 20)
def q_T (n : Nat) (b : Nat → Nat) (σ τ : hl_M) : Prop := (q_ok n b σ τ ∧ ∃ G P w, q_D G P σ τ ∧ w ≤ 20 ∧ σ.1 24 2 = nI w ∧ τ.1 64 22 = nI w) ∨ q_no σ τ
section STMT
variable {G P : hp_G} {σ τ σ' τ' σ1 τ1 υ : hl_M} {n a s t k c j v z m m' w : Nat} {b l l' : Nat → Nat} {W : List Nat}
theorem hx_FD_TD : ∀ q f, hx_FD q f → hx_TD q f := fun q f h => .inl h
theorem hx_RD_TD : ∀ q f, hx_RD q f → hx_TD q f := fun q f h => .inl h.1
theorem hm_FD_TD : ∀ q f, hm_FD q f → hm_TD q f := fun q f h => .inl h
theorem hx_num_no (H : q_no σ τ) (lo hi : Int32) : f_Rd_wantNumber lo hi σ = some (-1, f_Rd_fail 1 (σ.1 3 2) σ) := by
  unfold f_Rd_wantNumber
  rw [H.2.2.1, if_neg (by decide)]
/-- the model at rest behind a failure -/
theorem hm_num_no (h : ¬ τ.1 64 5 = 0) (lo hi : Int32) : f_M_number lo hi τ = some (0, τ) := by
  unfold f_M_number
  rw [if_neg h]
theorem hm_sign_no (h : ¬ τ.1 64 5 = 0) (x : Int32) : f_M_asksSign x τ = some τ := by
  unfold f_M_asksSign
  rw [if_neg h]
theorem hm_asks_no (h : ¬ τ.1 64 5 = 0) (v : Nat) : f_M_asks v τ = some τ := by
  unfold f_M_asks
  rw [if_neg h]
theorem hm_cell_no (h : ¬ τ.1 64 5 = 0) : f_M_cellTold τ = some (0, τ) := by
  unfold f_M_cellTold
  rw [hm_num_no h, Option.bind_some]
  dsimp only
  rw [hm_num_no h, Option.bind_some, if_neg h]
theorem hp_pred1 {x : Nat} (h : 1 ≤ x) : nI x - 1 = nI (x - 1) := by
  rw [show (1 : Int32) = nI 1 from rfl, hl_nsub h]
theorem q_cell (D : q_D G P σ τ) (T : hx_t n b σ) (R : hm_r n b τ) (H : q_st n b σ τ) : ∃ x y σ' τ', f_Tl_wantCell σ = some (x, σ') ∧ f_M_cellTold τ = some (y, τ') ∧ hp_fr hx_FD σ σ' ∧ hp_fr hm_FD τ τ' ∧ q_st n b σ' τ' ∧ (σ'.1 3 4 = 0 → ∃ c, c < hp_C G ∧ x = nI c ∧ y = nI c ∧ σ'.1 3 6 = τ'.1 64 9) := by
  obtain ⟨wg, wp, w3, xg, xp, mg, mp⟩ := D
  have w9 := wg.W
  have h6 := wg.H
  have h3 : 3 ≤ G 0 1 := by
    rcases wg.1 with ⟨z, _⟩ | ⟨_, _, z, _⟩ <;> omega
  have xw : σ.1 14 0 = nI (G 0 0) := xg.1.1
  have xh : σ.1 14 1 = nI (G 0 1) := xg.1.2.1
  have mw : τ.1 64 20 = nI (G 0 0) := mg.1.1
  have mh : τ.1 64 21 = nI (G 0 1) := mg.1.2.1
  unfold f_Tl_wantCell f_M_cellTold
  obtain ⟨x1, y1, σ1, τ1, a1, a2, a3, a4, a5, a6⟩ := q_number T R H 0 (nI (G 0 0) - 1)
  have T1 : hx_t n b σ1 := T.fr a3 (by unfold hx_FD; omega) (fun k => by unfold hx_FD; omega)
  have R1 : hm_r n b τ1 := R.fr a4 (by unfold hm_FD; omega) (fun k => by unfold hm_FD; omega)
  obtain ⟨x2, y2, σ2, τ2, b1, b2, b3, b4, b5, b6⟩ := q_number T1 R1 a5 0 (nI (G 0 1) - 1)
  have F2 := a3.tr b3
  have F3 := a4.tr b4
  rw [xw, mw, a1, a2, Option.bind_some, Option.bind_some]
  dsimp only
  rw [a3.i (by unfold hx_FD; omega), xh, a4.i (by unfold hm_FD; omega), mh, b1, b2, Option.bind_some, Option.bind_some]
  dsimp only
  rw [F2.i (show ¬ hx_FD 14 0 by unfold hx_FD; omega), xw, F3.i (show ¬ hm_FD 64 20 by unfold hm_FD; omega), mw]
  rcases b5 with b5 | b5
  · obtain ⟨z1, z2⟩ := b5.x
    have z0 : σ1.1 3 4 = 0 := by
      rcases a5 with h | h
      · exact h.x.1
      · exfalso
        have e := hx_num_no h 0 (nI (G 0 1) - 1)
        rw [b1] at e
        have e2 : σ2 = f_Rd_fail 1 (σ1.1 3 2) σ1 := congrArg Prod.snd (Option.some.inj e)
        have := (q_failN (f := 1) (p := σ1.1 3 2) h).1.1
        rw [← e2] at this
        exact this z1
    obtain ⟨rfl, c2, c3, ⟨u, c4, rfl⟩, c5⟩ := a6 z0
    obtain ⟨rfl, d2, d3, ⟨v, d4, rfl⟩, d5⟩ := b6 z1
    rw [hp_pred1 (by omega)] at c3 d3
    have c3' : u ≤ G 0 0 - 1 := by
      by_cases e : u ≤ G 0 0 - 1
      · exact e
      · exact absurd (nI_lt (show G 0 0 - 1 < u by omega) (by omega)) c3
    have d3' : v ≤ G 0 1 - 1 := by
      by_cases e : v ≤ G 0 1 - 1
      · exact e
      · exact absurd (nI_lt (show G 0 1 - 1 < v by omega) (by omega)) d3
    rw [hx_failed0 z1, if_pos rfl, if_pos z2]
    refine ⟨_, _, _, _, rfl, rfl, F2, F3, .inl b5, fun _ => ⟨G 0 0 * v + u, ?_, ?_, ?_, d5⟩⟩
    · have e : G 0 0 * (v + 1) ≤ G 0 0 * G 0 1 := Nat.mul_le_mul_left _ (by omega)
      rw [Nat.mul_add, Nat.mul_one] at e
      unfold hp_C
      omega
    · rw [pk_mul, nI_add, Nat.mul_comm v]
    · rw [pk_mul, nI_add]
  · obtain ⟨z1, z2⟩ := b5.x
    rw [hx_failed1 z1, if_neg (show ¬ (1 : Int32) = 0 by decide), if_neg z2]
    exact ⟨_, _, _, _, rfl, rfl, F2, F3, .inr b5, fun z => absurd z z1⟩
/-- somebody stands there -/
theorem q_told (D : q_D G P σ τ) (hc : c < hp_C G) : ∃ u, f_Gr_isTold_d (nI c) σ = some u ∧ f_M_isSomebody (nI c) τ = some u ∧ ((u = 0 ∧ ∀ p, p < G 0 2 → G 2 p ≠ c) ∨ u = 1) := by
  obtain ⟨wg, wp, w3, xg, xp, mg, mp⟩ := D
  have hnp := wg.np
  have hC := wg.C
  have nx : σ.1 14 3 = nI (G 0 2) := xg.1.2.2.1
  have nm : τ.1 75 0 = nI (G 0 2) := mg.1.2.2.1
  unfold f_Gr_isTold_d f_M_isSomebody
  refine hp_simX (b := f_Gr_isTold_d_L2 (nI c) σ) (b' := f_M_isSomebody_L2 (nI c) τ) (s := 0) (s' := 0) (G 0 2) (fun j x y => x = nI j ∧ y = nI j ∧ ∀ p, p < j → G 2 p ≠ c) (fun e e' => (e = .inl () ∧ e' = .inl () ∧ ∀ p, p < G 0 2 → G 2 p ≠ c) ∨ (e = .inr 1 ∧ e' = .inr 1)) (by omega) ⟨rfl, rfl, fun p hp => by omega⟩ ?_ ?_ ?_
  · intro e e' g1 g2 g3
    rw [g1, g2, Option.bind_some, Option.bind_some]
    rcases g3 with ⟨rfl, rfl, g4⟩ | ⟨rfl, rfl⟩
    · exact ⟨_, rfl, rfl, .inl ⟨rfl, g4⟩⟩
    · exact ⟨_, rfl, rfl, .inr rfl⟩
  · rintro j _ _ hj ⟨rfl, rfl, h⟩
    have n1 : ¬ nI (G 0 2) ≤ nI j := by first | omega | (simp (disch := first | assumption | omega) only [↓hp_neg1, hp_l0, hp_l1, hp_l2, hp_l3, hp_l4, hp_l5, hp_l6, hp_l7, hp_l8, hp_l9, hp_l10, hp_l11, hp_l12, hp_l13, hp_l14, hp_l15, hp_l16, hp_l17, hp_l18, hp_l19, hp_l20, hp_l21, hp_l22, hp_l23, hp_l24, hp_l25, hp_l26, hp_l27, hp_l28, hp_l29, hp_l30, hp_l31, hp_l32, hp_l33, hp_l34, hp_l35, hp_l36, hp_l37, hp_l38, hp_l39, hp_l40, hp_l41, hp_l42, hp_l43, hp_l44, hp_l45, hp_l46, hp_l47, hp_l48, hp_l49, hp_l50, hp_l51, hp_l52, hp_l53, hp_l54, hp_l55, hp_l56, hp_l57, hp_l58, hp_l59, hp_l60, hp_l61, hp_l62, hp_l63, hp_l64, hp_l65, hp_l66, hp_l67, hp_l68, hp_l69, hp_l70, hp_l71, hp_l72, hp_l73, hp_l74, hp_l75, hp_l76, hp_l77, hp_l78, hp_l79, hp_l80, hp_l81, hp_l82, hp_l83, hp_l84, hp_l85, hp_l86, hp_l87, hp_l88, hp_l89, hp_l90, hp_l91, hp_l92, hp_l93, hp_l94, hp_l95, hp_l96, hp_l97, hp_l98, hp_l99, hp_l100, hp_l101, hp_l102, hp_l103, hp_l104, hp_l105, hp_l106, hp_l107, hp_l108, hp_l109, hp_l110, hp_l111, hp_l112, hp_l113, hp_l114, hp_l115, hp_l116, hp_l117, hp_l118, hp_l119, hp_l120, hp_l121, hp_l122, hp_l123, hp_l124, hp_l125, hp_l126, hp_l127, hp_l141, hp_l142, hp_l150, hp_l151, hp_l152, hp_l153, hp_l251, hp_l255, hp_l256, hp_l300, hp_l432, hp_l864, hp_l1000, hp_l1600, hp_l1700, hp_l2304, hp_l2916, hp_l3000, hp_l9999, hp_l10000, nI_add, pk_mul, nI_clamp, hl_lt, hl_le, hl_eq, hl_nIb, hl_nsub, hp_eqm, hp_meq, hp_ltm, hp_mlt, hp_lem, hp_mle, hp_addm, hp_meqm, hp_mlem, hp_withinE, hp_within0, if_pos, if_neg, Option.bind_some, hp_let, Sum.elim_inl, Sum.elim_inr, hp_s01, hp_s11, hp_s2, true_and, and_true, if_true, if_false, not_true_eq_false, not_false_eq_true, reduceCtorEq] <;> omega)
    have h6 : hl_b (0 : Int32) 6 := by decide
    have hj8 : hl_b (nI j) 10 := by first | omega | (simp (disch := first | assumption | omega) only [↓hp_neg1, hp_l0, hp_l1, hp_l2, hp_l3, hp_l4, hp_l5, hp_l6, hp_l7, hp_l8, hp_l9, hp_l10, hp_l11, hp_l12, hp_l13, hp_l14, hp_l15, hp_l16, hp_l17, hp_l18, hp_l19, hp_l20, hp_l21, hp_l22, hp_l23, hp_l24, hp_l25, hp_l26, hp_l27, hp_l28, hp_l29, hp_l30, hp_l31, hp_l32, hp_l33, hp_l34, hp_l35, hp_l36, hp_l37, hp_l38, hp_l39, hp_l40, hp_l41, hp_l42, hp_l43, hp_l44, hp_l45, hp_l46, hp_l47, hp_l48, hp_l49, hp_l50, hp_l51, hp_l52, hp_l53, hp_l54, hp_l55, hp_l56, hp_l57, hp_l58, hp_l59, hp_l60, hp_l61, hp_l62, hp_l63, hp_l64, hp_l65, hp_l66, hp_l67, hp_l68, hp_l69, hp_l70, hp_l71, hp_l72, hp_l73, hp_l74, hp_l75, hp_l76, hp_l77, hp_l78, hp_l79, hp_l80, hp_l81, hp_l82, hp_l83, hp_l84, hp_l85, hp_l86, hp_l87, hp_l88, hp_l89, hp_l90, hp_l91, hp_l92, hp_l93, hp_l94, hp_l95, hp_l96, hp_l97, hp_l98, hp_l99, hp_l100, hp_l101, hp_l102, hp_l103, hp_l104, hp_l105, hp_l106, hp_l107, hp_l108, hp_l109, hp_l110, hp_l111, hp_l112, hp_l113, hp_l114, hp_l115, hp_l116, hp_l117, hp_l118, hp_l119, hp_l120, hp_l121, hp_l122, hp_l123, hp_l124, hp_l125, hp_l126, hp_l127, hp_l141, hp_l142, hp_l150, hp_l151, hp_l152, hp_l153, hp_l251, hp_l255, hp_l256, hp_l300, hp_l432, hp_l864, hp_l1000, hp_l1600, hp_l1700, hp_l2304, hp_l2916, hp_l3000, hp_l9999, hp_l10000, nI_add, pk_mul, nI_clamp, hl_lt, hl_le, hl_eq, hl_nIb, hl_nsub, hp_eqm, hp_meq, hp_ltm, hp_mlt, hp_lem, hp_mle, hp_addm, hp_meqm, hp_mlem, hp_withinE, hp_within0, if_pos, if_neg, Option.bind_some, hp_let, Sum.elim_inl, Sum.elim_inr, hp_s01, hp_s11, hp_s2, true_and, and_true, if_true, if_false, not_true_eq_false, not_false_eq_true, reduceCtorEq] <;> omega)
    have e0 : (15 * nI j : Int32) = nI (15 * j) := by rw [show (15 : Int32) = nI 15 from rfl, pk_mul]
    have b1 : hl_b (nI (15 * j)) 300 := by first | omega | (simp (disch := first | assumption | omega) only [↓hp_neg1, hp_l0, hp_l1, hp_l2, hp_l3, hp_l4, hp_l5, hp_l6, hp_l7, hp_l8, hp_l9, hp_l10, hp_l11, hp_l12, hp_l13, hp_l14, hp_l15, hp_l16, hp_l17, hp_l18, hp_l19, hp_l20, hp_l21, hp_l22, hp_l23, hp_l24, hp_l25, hp_l26, hp_l27, hp_l28, hp_l29, hp_l30, hp_l31, hp_l32, hp_l33, hp_l34, hp_l35, hp_l36, hp_l37, hp_l38, hp_l39, hp_l40, hp_l41, hp_l42, hp_l43, hp_l44, hp_l45, hp_l46, hp_l47, hp_l48, hp_l49, hp_l50, hp_l51, hp_l52, hp_l53, hp_l54, hp_l55, hp_l56, hp_l57, hp_l58, hp_l59, hp_l60, hp_l61, hp_l62, hp_l63, hp_l64, hp_l65, hp_l66, hp_l67, hp_l68, hp_l69, hp_l70, hp_l71, hp_l72, hp_l73, hp_l74, hp_l75, hp_l76, hp_l77, hp_l78, hp_l79, hp_l80, hp_l81, hp_l82, hp_l83, hp_l84, hp_l85, hp_l86, hp_l87, hp_l88, hp_l89, hp_l90, hp_l91, hp_l92, hp_l93, hp_l94, hp_l95, hp_l96, hp_l97, hp_l98, hp_l99, hp_l100, hp_l101, hp_l102, hp_l103, hp_l104, hp_l105, hp_l106, hp_l107, hp_l108, hp_l109, hp_l110, hp_l111, hp_l112, hp_l113, hp_l114, hp_l115, hp_l116, hp_l117, hp_l118, hp_l119, hp_l120, hp_l121, hp_l122, hp_l123, hp_l124, hp_l125, hp_l126, hp_l127, hp_l141, hp_l142, hp_l150, hp_l151, hp_l152, hp_l153, hp_l251, hp_l255, hp_l256, hp_l300, hp_l432, hp_l864, hp_l1000, hp_l1600, hp_l1700, hp_l2304, hp_l2916, hp_l3000, hp_l9999, hp_l10000, nI_add, pk_mul, nI_clamp, hl_lt, hl_le, hl_eq, hl_nIb, hl_nsub, hp_eqm, hp_meq, hp_ltm, hp_mlt, hp_lem, hp_mle, hp_addm, hp_meqm, hp_mlem, hp_withinE, hp_within0, if_pos, if_neg, Option.bind_some, hp_let, Sum.elim_inl, Sum.elim_inr, hp_s01, hp_s11, hp_s2, true_and, and_true, if_true, if_false, not_true_eq_false, not_false_eq_true, reduceCtorEq] <;> omega)
    have v1 : σ.1 16 j = nI (G 2 j) := (xg.2.2.1 j hj).2
    have v2 : τ.1 78 (15 * j) = nI (G 2 j) := by
      have := (mp j hj).1
      rw [Nat.zero_add] at this
      exact this
    have v3 := wg.told hj
    have iff : nI (G 2 j) = nI c ↔ G 2 j = c := hl_eq (by omega) (by omega)
    unfold f_Gr_isTold_d_L2 f_M_isSomebody_L2
    rw [nx, if_neg n1, if_pos hj8, if_pos h6, show (0 : Int32).toNatClampNeg = 0 from rfl, nm, if_neg n1, e0, if_pos b1, nI_clamp (by omega), nI_clamp (by omega), v1, v2]
    by_cases e : nI (G 2 j) = nI c
    · simp only [if_pos e]
      exact .inr ⟨_, _, rfl, rfl, .inr ⟨rfl, rfl⟩⟩
    · simp only [if_neg e, nI_1]
      refine .inl ⟨_, _, rfl, rfl, rfl, rfl, fun p hp => ?_⟩
      by_cases ep : p = j
      · rw [ep]; exact fun z => e (iff.mpr z)
      · exact h p (by omega)
  · rintro _ _ ⟨rfl, rfl, h⟩
    unfold f_Gr_isTold_d_L2 f_M_isSomebody_L2
    rw [nx, if_pos (by first | omega | (simp (disch := first | assumption | omega) only [↓hp_neg1, hp_l0, hp_l1, hp_l2, hp_l3, hp_l4, hp_l5, hp_l6, hp_l7, hp_l8, hp_l9, hp_l10, hp_l11, hp_l12, hp_l13, hp_l14, hp_l15, hp_l16, hp_l17, hp_l18, hp_l19, hp_l20, hp_l21, hp_l22, hp_l23, hp_l24, hp_l25, hp_l26, hp_l27, hp_l28, hp_l29, hp_l30, hp_l31, hp_l32, hp_l33, hp_l34, hp_l35, hp_l36, hp_l37, hp_l38, hp_l39, hp_l40, hp_l41, hp_l42, hp_l43, hp_l44, hp_l45, hp_l46, hp_l47, hp_l48, hp_l49, hp_l50, hp_l51, hp_l52, hp_l53, hp_l54, hp_l55, hp_l56, hp_l57, hp_l58, hp_l59, hp_l60, hp_l61, hp_l62, hp_l63, hp_l64, hp_l65, hp_l66, hp_l67, hp_l68, hp_l69, hp_l70, hp_l71, hp_l72, hp_l73, hp_l74, hp_l75, hp_l76, hp_l77, hp_l78, hp_l79, hp_l80, hp_l81, hp_l82, hp_l83, hp_l84, hp_l85, hp_l86, hp_l87, hp_l88, hp_l89, hp_l90, hp_l91, hp_l92, hp_l93, hp_l94, hp_l95, hp_l96, hp_l97, hp_l98, hp_l99, hp_l100, hp_l101, hp_l102, hp_l103, hp_l104, hp_l105, hp_l106, hp_l107, hp_l108, hp_l109, hp_l110, hp_l111, hp_l112, hp_l113, hp_l114, hp_l115, hp_l116, hp_l117, hp_l118, hp_l119, hp_l120, hp_l121, hp_l122, hp_l123, hp_l124, hp_l125, hp_l126, hp_l127, hp_l141, hp_l142, hp_l150, hp_l151, hp_l152, hp_l153, hp_l251, hp_l255, hp_l256, hp_l300, hp_l432, hp_l864, hp_l1000, hp_l1600, hp_l1700, hp_l2304, hp_l2916, hp_l3000, hp_l9999, hp_l10000, nI_add, pk_mul, nI_clamp, hl_lt, hl_le, hl_eq, hl_nIb, hl_nsub, hp_eqm, hp_meq, hp_ltm, hp_mlt, hp_lem, hp_mle, hp_addm, hp_meqm, hp_mlem, hp_withinE, hp_within0, if_pos, if_neg, Option.bind_some, hp_let, Sum.elim_inl, Sum.elim_inr, hp_s01, hp_s11, hp_s2, true_and, and_true, if_true, if_false, not_true_eq_false, not_false_eq_true, reduceCtorEq] <;> omega)), if_pos (by decide), show (0 : Int32).toNatClampNeg = 0 from rfl, nm, if_pos (by first | omega | (simp (disch := first | assumption | omega) only [↓hp_neg1, hp_l0, hp_l1, hp_l2, hp_l3, hp_l4, hp_l5, hp_l6, hp_l7, hp_l8, hp_l9, hp_l10, hp_l11, hp_l12, hp_l13, hp_l14, hp_l15, hp_l16, hp_l17, hp_l18, hp_l19, hp_l20, hp_l21, hp_l22, hp_l23, hp_l24, hp_l25, hp_l26, hp_l27, hp_l28, hp_l29, hp_l30, hp_l31, hp_l32, hp_l33, hp_l34, hp_l35, hp_l36, hp_l37, hp_l38, hp_l39, hp_l40, hp_l41, hp_l42, hp_l43, hp_l44, hp_l45, hp_l46, hp_l47, hp_l48, hp_l49, hp_l50, hp_l51, hp_l52, hp_l53, hp_l54, hp_l55, hp_l56, hp_l57, hp_l58, hp_l59, hp_l60, hp_l61, hp_l62, hp_l63, hp_l64, hp_l65, hp_l66, hp_l67, hp_l68, hp_l69, hp_l70, hp_l71, hp_l72, hp_l73, hp_l74, hp_l75, hp_l76, hp_l77, hp_l78, hp_l79, hp_l80, hp_l81, hp_l82, hp_l83, hp_l84, hp_l85, hp_l86, hp_l87, hp_l88, hp_l89, hp_l90, hp_l91, hp_l92, hp_l93, hp_l94, hp_l95, hp_l96, hp_l97, hp_l98, hp_l99, hp_l100, hp_l101, hp_l102, hp_l103, hp_l104, hp_l105, hp_l106, hp_l107, hp_l108, hp_l109, hp_l110, hp_l111, hp_l112, hp_l113, hp_l114, hp_l115, hp_l116, hp_l117, hp_l118, hp_l119, hp_l120, hp_l121, hp_l122, hp_l123, hp_l124, hp_l125, hp_l126, hp_l127, hp_l141, hp_l142, hp_l150, hp_l151, hp_l152, hp_l153, hp_l251, hp_l255, hp_l256, hp_l300, hp_l432, hp_l864, hp_l1000, hp_l1600, hp_l1700, hp_l2304, hp_l2916, hp_l3000, hp_l9999, hp_l10000, nI_add, pk_mul, nI_clamp, hl_lt, hl_le, hl_eq, hl_nIb, hl_nsub, hp_eqm, hp_meq, hp_ltm, hp_mlt, hp_lem, hp_mle, hp_addm, hp_meqm, hp_mlem, hp_withinE, hp_within0, if_pos, if_neg, Option.bind_some, hp_let, Sum.elim_inl, Sum.elim_inr, hp_s01, hp_s11, hp_s2, true_and, and_true, if_true, if_false, not_true_eq_false, not_false_eq_true, reduceCtorEq] <;> omega))]
    exact ⟨_, _, rfl, rfl, .inl ⟨rfl, rfl, h⟩⟩
/-- one statement's end: the sign -/
theorem q_j98 (T : hx_t n b σ) (R : hm_r n b τ) (H : q_st n b σ τ) : ∃ σ' τ', f_Rd_wantSign 59 σ = some σ' ∧ f_M_statementTold_j98 τ = some τ' ∧ hp_fr hx_FD σ σ' ∧ hp_fr (fun q f => hm_FD q f ∨ (q = 64 ∧ f = 29)) τ τ' ∧ q_st n b σ' τ' ∧ τ'.1 64 29 = τ.1 64 29 + 1 := by
  obtain ⟨σ1, τ1, a1, a2, a3, a4, a5⟩ := q_sign (v := 59) (by decide) (by decide) T R H
  rw [show nI 59 = (59 : Int32) from rfl] at a1 a2
  unfold f_M_statementTold_j98
  rw [a1, a2, Option.bind_some]
  refine ⟨_, _, rfl, rfl, a3, (a4.mono (fun q f h => .inl h)).si (.inr ⟨rfl, rfl⟩), ?_, by rw [hp_s01, a4.i (by unfold hm_FD; omega)]⟩
  rcases a5 with h | h
  · exact .inl (h.fr (fun f hf => rfl) (fun f hf => hp_sn (by omega)))
  · exact .inr (h.fr (fun f hf => rfl) (fun f hf => hp_sn (by omega)))
def hp_setW (G : hp_G) (c : Nat) : hp_G := fun i k => if i = 1 ∧ k = c then 1 else G i k
theorem hp_setW_C : hp_C (hp_setW G c) = hp_C G := by
  unfold hp_C hp_setW
  rw [if_neg (by omega), if_neg (by omega)]
theorem hp_setW_n {i : Nat} (h : i ≠ 1) : hp_setW G c i k = G i k := if_neg (fun z => h z.1)
theorem hp_setW_1 : hp_setW G c 1 k = if k = c then 1 else G 1 k := by
  unfold hp_setW
  by_cases e : k = c
  · rw [if_pos ⟨rfl, e⟩, if_pos e]
  · rw [if_neg (fun z => e z.2), if_neg e]
theorem hp_setW_f {i : Nat} (h : i ≠ 1) : hp_setW G c i = G i := funext fun k => hp_setW_n h
theorem hp_setW_wg (H : hp_wg G) (hc : c < hp_C G) (hp : ∀ p, p < G 0 2 → G 2 p ≠ c) : hp_wg (hp_setW G c) := by
  obtain ⟨a1, a2, a3, a4, a5, a6, a7, a8⟩ := H
  unfold hp_wg
  rw [hp_setW_C]
  simp (disch := omega) only [hp_setW_n, hp_setW_1, hp_setW_f]
  refine ⟨a1, a2, fun k => ?_, fun p h => ⟨(a4 p h).1, ?_⟩, a5, a6, a7, a8⟩
  · have := a3 k
    by_cases e : k = c
    · rw [if_pos e]; exact ⟨by omega, fun z => by omega⟩
    · rw [if_neg e]; exact this
  · rw [if_neg (hp p h)]; exact (a4 p h).2
theorem q_j98N (H : q_no σ τ) : ∃ σ' τ', f_Rd_wantSign 59 σ = some σ' ∧ f_M_statementTold_j98 τ = some τ' ∧ hp_fr hx_FD σ σ' ∧ hp_fr (fun q f => hm_FD q f ∨ (q = 64 ∧ f = 29)) τ τ' ∧ q_no σ' τ' ∧ τ'.1 64 29 = τ.1 64 29 + 1 := by
  obtain ⟨r1, r2⟩ := q_failN (f := 1) (p := σ.1 3 2) H
  have w0 : f_Rd_isSign 59 σ = some 0 := by
    unfold f_Rd_isSign
    rw [H.2.2.1, if_neg (by decide)]
  unfold f_Rd_wantSign f_M_statementTold_j98
  rw [w0, Option.bind_some, if_pos rfl, hm_sign_no H.x.2, Option.bind_some]
  exact ⟨_, _, rfl, rfl, r2, (hp_fr.rf.si (.inr ⟨rfl, rfl⟩)), r1.fr (fun f hf => rfl) (fun f hf => hp_sn (by omega)), hp_s01⟩
theorem hm_D29 : ∀ q f, (hm_FD q f ∨ (q = 64 ∧ f = 29)) → hm_TD q f := fun q f h => by unfold hm_TD; rcases h with h | h; exact .inl h; exact .inr (.inl (by omega))
theorem hm_D29D : ∀ q f, (hm_FD q f ∨ (q = 64 ∧ f = 29)) → hm_DD G q f := fun q f h => by unfold hm_DD; rcases h with h | h; exact .inl h; exact .inr (.inl (by omega))
theorem q_wall (A : f_Rd_advance σ = some σ1) (FA : hp_fr hx_RD σ σ1) (h4 : σ.1 3 4 = 0) (T : hx_t n b σ1) (R : hm_r n b τ1) (H : q_ok n b σ1 τ1) (D : q_D G P σ1 τ1) (hw : w ≤ 20) (w1 : σ.1 24 2 = nI w) (w2 : τ1.1 64 22 = nI w) : ∃ σ' τ', f_Tl_tellWall σ = some σ' ∧ (f_M_wallTold (σ.1 3 2) τ1).bind f_M_statementTold_j98 = some τ' ∧ hp_fr hx_TD σ σ' ∧ hp_fr hm_TD τ1 τ' ∧ τ'.1 64 29 = τ1.1 64 29 + 1 ∧ q_T n b σ' τ' := by
  have h5 := H.x.2
  unfold f_Tl_tellWall f_Tl_startsOneOf f_M_wallTold
  rw [w1, w2, if_pos h5]
  by_cases e : w = 20
  · obtain ⟨r1, r2, r3⟩ := q_fail0 (σ := σ) (τ := τ1) (f := 5) (p := σ.1 3 2) h4 h5 (by decide)
    have n1 : ¬ nI w < 20 := by rw [e]; decide
    have z2 := r1.x.2
    have j : f_M_wallTold_j22 (f_M_fail 5 (σ.1 3 2) τ1) = some (f_M_fail 5 (σ.1 3 2) τ1) := by
      unfold f_M_wallTold_j22
      rw [hm_cell_no z2, Option.bind_some, if_neg z2]
      unfold f_M_wallTold_j51
      rw [if_neg z2]
    rw [if_neg n1, Option.bind_some, if_pos rfl, if_pos (show nI w = 20 by rw [e]; rfl), j, Option.bind_some]
    unfold f_M_statementTold_j98
    rw [hm_sign_no z2, Option.bind_some]
    exact ⟨_, _, rfl, rfl, r2.mono hx_FD_TD, (r3.mono hm_FD_TD).si (.inr (.inl ⟨rfl, by omega⟩)), by rw [hp_s01, r3.i (by unfold hm_FD; omega)], .inr (r1.fr (fun f hf => rfl) (fun f hf => hp_sn (by omega)))⟩
  · have n1 : nI w < 20 := nI_lt (show w < 20 by omega) (by decide)
    have n2 : ¬ nI w = 20 := by first | omega | (simp (disch := first | assumption | omega) only [↓hp_neg1, hp_l0, hp_l1, hp_l2, hp_l3, hp_l4, hp_l5, hp_l6, hp_l7, hp_l8, hp_l9, hp_l10, hp_l11, hp_l12, hp_l13, hp_l14, hp_l15, hp_l16, hp_l17, hp_l18, hp_l19, hp_l20, hp_l21, hp_l22, hp_l23, hp_l24, hp_l25, hp_l26, hp_l27, hp_l28, hp_l29, hp_l30, hp_l31, hp_l32, hp_l33, hp_l34, hp_l35, hp_l36, hp_l37, hp_l38, hp_l39, hp_l40, hp_l41, hp_l42, hp_l43, hp_l44, hp_l45, hp_l46, hp_l47, hp_l48, hp_l49, hp_l50, hp_l51, hp_l52, hp_l53, hp_l54, hp_l55, hp_l56, hp_l57, hp_l58, hp_l59, hp_l60, hp_l61, hp_l62, hp_l63, hp_l64, hp_l65, hp_l66, hp_l67, hp_l68, hp_l69, hp_l70, hp_l71, hp_l72, hp_l73, hp_l74, hp_l75, hp_l76, hp_l77, hp_l78, hp_l79, hp_l80, hp_l81, hp_l82, hp_l83, hp_l84, hp_l85, hp_l86, hp_l87, hp_l88, hp_l89, hp_l90, hp_l91, hp_l92, hp_l93, hp_l94, hp_l95, hp_l96, hp_l97, hp_l98, hp_l99, hp_l100, hp_l101, hp_l102, hp_l103, hp_l104, hp_l105, hp_l106, hp_l107, hp_l108, hp_l109, hp_l110, hp_l111, hp_l112, hp_l113, hp_l114, hp_l115, hp_l116, hp_l117, hp_l118, hp_l119, hp_l120, hp_l121, hp_l122, hp_l123, hp_l124, hp_l125, hp_l126, hp_l127, hp_l141, hp_l142, hp_l150, hp_l151, hp_l152, hp_l153, hp_l251, hp_l255, hp_l256, hp_l300, hp_l432, hp_l864, hp_l1000, hp_l1600, hp_l1700, hp_l2304, hp_l2916, hp_l3000, hp_l9999, hp_l10000, nI_add, pk_mul, nI_clamp, hl_lt, hl_le, hl_eq, hl_nIb, hl_nsub, hp_eqm, hp_meq, hp_ltm, hp_mlt, hp_lem, hp_mle, hp_addm, hp_meqm, hp_mlem, hp_withinE, hp_within0, if_pos, if_neg, Option.bind_some, hp_let, Sum.elim_inl, Sum.elim_inr, hp_s01, hp_s11, hp_s2, true_and, and_true, if_true, if_false, not_true_eq_false, not_false_eq_true, reduceCtorEq] <;> omega)
    rw [if_pos n1, A, Option.bind_some, Option.bind_some, if_neg (show ¬ (1 : Int32) = 0 by decide), if_neg n2, FA.i (show ¬ hx_RD 24 2 by unfold hx_RD; omega), w1, nI_1]
    have F2 : hp_fr hx_DD σ1 (hl_si σ1 24 2 (nI (w + 1))) := hp_fr.rf.si (.inr rfl)
    have D2 : q_D G P (hl_si σ1 24 2 (nI (w + 1))) τ1 := D.fr F2 .rf
    have T2 : hx_t n b (hl_si σ1 24 2 (nI (w + 1))) := T.si (by omega)
    have H2 : q_ok n b (hl_si σ1 24 2 (nI (w + 1))) τ1 := H.fr (fun f hf => hp_sn (by omega)) (fun f hf => rfl)
    obtain ⟨x, y, σ3, τ3, a1, a2, a3, a4, a5, a6⟩ := q_cell D2 T2 R (.inl H2)
    have FX3 : hp_fr hx_TD σ σ3 := ((FA.mono hx_RD_TD).si (.inr ⟨by omega, by omega⟩)).tr (a3.mono hx_FD_TD)
    have T3 : hx_t n b σ3 := T2.fr a3 (by unfold hx_FD; omega) (fun k => by unfold hx_FD; omega)
    have R3 : hm_r n b τ3 := R.fr a4 (by unfold hm_FD; omega) (fun k => by unfold hm_FD; omega)
    have e29 : τ3.1 64 29 = τ1.1 64 29 := a4.i (by unfold hm_FD; omega)
    have e22 : τ3.1 64 22 = nI w := by rw [a4.i (by unfold hm_FD; omega)]; exact w2
    have e24 : σ3.1 24 2 = nI (w + 1) := by rw [a3.i (by unfold hx_FD; omega), hp_s01]
    unfold f_M_wallTold_j22
    rw [a1, Option.bind_some, a2, Option.bind_some]
    have dead : ∀ σa τa, q_no σa τa → hp_fr hx_TD σ σa → hp_fr hm_TD τ1 τa → τa.1 64 29 = τ1.1 64 29 → ∃ σ' τ', f_Tl_tellWall_j80 σa = some σ' ∧ (some τa).bind f_M_statementTold_j98 = some τ' ∧ hp_fr hx_TD σ σ' ∧ hp_fr hm_TD τ1 τ' ∧ τ'.1 64 29 = τ1.1 64 29 + 1 ∧ q_T n b σ' τ' := by
      intro σa τa g1 g2 g3 g4
      obtain ⟨σb, τb, s1, s2, s3, s4, s5, s6⟩ := q_j98N g1
      unfold f_Tl_tellWall_j80
      rw [s1, Option.bind_some, Option.bind_some, s2]
      exact ⟨_, _, rfl, rfl, g2.tr (s3.mono hx_FD_TD), g3.tr (s4.mono hm_D29), by rw [s6, g4], .inr s5⟩
    rcases a5 with a5 | a5
    · obtain ⟨z1, z2⟩ := a5.x
      obtain ⟨c, hc, rfl, rfl, e9⟩ := a6 z1
      have D3 := D2.fr0 a3 a4
      have hC := D3.1.C
      rw [hx_failed0 z1, if_pos rfl, if_pos z2]
      obtain ⟨u, u1, u2, u3⟩ := q_told D3 hc
      rw [u1, Option.bind_some, u2, Option.bind_some]
      rcases u3 with ⟨rfl, u4⟩ | rfl
      · rw [if_pos rfl, if_pos rfl]
        have nb : hl_b (nI c) 108 := by first | omega | (simp (disch := first | assumption | omega) only [↓hp_neg1, hp_l0, hp_l1, hp_l2, hp_l3, hp_l4, hp_l5, hp_l6, hp_l7, hp_l8, hp_l9, hp_l10, hp_l11, hp_l12, hp_l13, hp_l14, hp_l15, hp_l16, hp_l17, hp_l18, hp_l19, hp_l20, hp_l21, hp_l22, hp_l23, hp_l24, hp_l25, hp_l26, hp_l27, hp_l28, hp_l29, hp_l30, hp_l31, hp_l32, hp_l33, hp_l34, hp_l35, hp_l36, hp_l37, hp_l38, hp_l39, hp_l40, hp_l41, hp_l42, hp_l43, hp_l44, hp_l45, hp_l46, hp_l47, hp_l48, hp_l49, hp_l50, hp_l51, hp_l52, hp_l53, hp_l54, hp_l55, hp_l56, hp_l57, hp_l58, hp_l59, hp_l60, hp_l61, hp_l62, hp_l63, hp_l64, hp_l65, hp_l66, hp_l67, hp_l68, hp_l69, hp_l70, hp_l71, hp_l72, hp_l73, hp_l74, hp_l75, hp_l76, hp_l77, hp_l78, hp_l79, hp_l80, hp_l81, hp_l82, hp_l83, hp_l84, hp_l85, hp_l86, hp_l87, hp_l88, hp_l89, hp_l90, hp_l91, hp_l92, hp_l93, hp_l94, hp_l95, hp_l96, hp_l97, hp_l98, hp_l99, hp_l100, hp_l101, hp_l102, hp_l103, hp_l104, hp_l105, hp_l106, hp_l107, hp_l108, hp_l109, hp_l110, hp_l111, hp_l112, hp_l113, hp_l114, hp_l115, hp_l116, hp_l117, hp_l118, hp_l119, hp_l120, hp_l121, hp_l122, hp_l123, hp_l124, hp_l125, hp_l126, hp_l127, hp_l141, hp_l142, hp_l150, hp_l151, hp_l152, hp_l153, hp_l251, hp_l255, hp_l256, hp_l300, hp_l432, hp_l864, hp_l1000, hp_l1600, hp_l1700, hp_l2304, hp_l2916, hp_l3000, hp_l9999, hp_l10000, nI_add, pk_mul, nI_clamp, hl_lt, hl_le, hl_eq, hl_nIb, hl_nsub, hp_eqm, hp_meq, hp_ltm, hp_mlt, hp_lem, hp_mle, hp_addm, hp_meqm, hp_mlem, hp_withinE, hp_within0, if_pos, if_neg, Option.bind_some, hp_let, Sum.elim_inl, Sum.elim_inr, hp_s01, hp_s11, hp_s2, true_and, and_true, if_true, if_false, not_true_eq_false, not_false_eq_true, reduceCtorEq] <;> omega)
        have j51 : f_M_wallTold_j51 (nI c) τ3 = some (hl_si (hl_si τ3 76 c 1) 64 22 (nI (w + 1))) := by
          unfold f_M_wallTold_j51
          rw [if_pos z2, if_pos nb, hp_let, nI_clamp (by omega), hp_boolN (.inr rfl), hp_sn (by omega), e22, nI_1]
        have D4 : q_D (hp_setW G c) P (hl_sl σ3 14 2 (σ3.2 14 2 ||| ((1 : Int64) <<< ((nI c).toInt64 &&& 63)))) (hl_si (hl_si τ3 76 c 1) 64 22 (nI (w + 1))) := by
          obtain ⟨wg, wp, w3, ⟨⟨x1, x2, x3, x4, x5⟩, x6, x7, x8, x9⟩, xp, ⟨⟨m1, m2, m3, m4, m5⟩, m6, m7, m8, m9⟩, mp⟩ := D3
          refine ⟨hp_setW_wg wg hc u4, ?_, ?_, ⟨⟨?_, ?_, ?_, ?_, ?_⟩, ?_, ?_, ?_, ?_⟩, ?_, ⟨⟨?_, ?_, ?_, ?_, ?_⟩, ?_, ?_, ?_, ?_⟩, ?_⟩
          · unfold hp_wp
            simp (disch := omega) only [hp_setW_n]
            exact wp
          · rw [hp_setW_n (by omega)]; exact w3
          · rw [hp_setW_n (by omega)]; exact x1
          · rw [hp_setW_n (by omega)]; exact x2
          · rw [hp_setW_n (by omega)]; exact x3
          · rw [hp_setW_n (by omega)]; exact x4
          · rw [hp_setW_n (by omega)]; exact x5
          · rw [hp_s11]
            refine (x6.or (hp_bs.bit (by omega))).cong (fun k hk => ?_)
            rw [hp_setW_1]
            by_cases ek : k = c
            · simp [ek]
            · simp [ek]
          · simp (disch := omega) only [hp_setW_n, hp_setW_f]
            exact x7
          · simp (disch := omega) only [hp_setW_n, hp_setW_f]
            intro w hw
            rw [hp_sln (by omega), hp_sln (by omega)]
            exact x8 w hw
          · simp (disch := omega) only [hp_setW_n]
            exact x9
          · intro p hp
            rw [hp_setW_n (by omega)] at hp
            rw [hp_sln (by omega)]
            exact xp p hp
          · rw [hp_setW_n (by omega), hp_sn (by omega), hp_sn (by omega)]; exact m1
          · rw [hp_setW_n (by omega), hp_sn (by omega), hp_sn (by omega)]; exact m2
          · rw [hp_setW_n (by omega), hp_sn (by omega), hp_sn (by omega)]; exact m3
          · rw [hp_setW_n (by omega), hp_sn (by omega), hp_sn (by omega)]; exact m4
          · rw [hp_setW_n (by omega), hp_sn (by omega), hp_sn (by omega)]; exact m5
          · intro k hk
            rw [hp_setW_1, hp_sn (by omega), Nat.mul_zero, Nat.zero_add]
            by_cases ek : k = c
            · rw [if_pos ek, ek, hp_s01]; rfl
            · rw [if_neg ek, hp_sn (by omega)]
              have := m6 k hk
              rw [Nat.mul_zero, Nat.zero_add] at this
              exact this
          · simp (disch := omega) only [hp_setW_n, hp_setW_f]
            exact m7
          · simp (disch := omega) only [hp_setW_n, hp_setW_f]
            intro w hw
            refine ⟨(m8 w hw).1, fun k hk => ?_⟩
            rw [hp_sn (by omega), hp_sn (by omega)]
            exact (m8 w hw).2 k hk
          · simp (disch := omega) only [hp_setW_n]
            intro i hi
            rw [hp_sn (by omega), hp_sn (by omega), hp_sn (by omega), hp_sn (by omega)]
            exact m9 i hi
          · intro p hp
            rw [hp_setW_n (by omega)] at hp
            rw [hp_setW_n (by omega)]
            refine ⟨?_, ?_, ?_, fun k hk => ?_⟩
            · rw [hp_sn (by omega), hp_sn (by omega)]; exact (mp p hp).1
            · rw [hp_sn (by omega), hp_sn (by omega)]; exact (mp p hp).2.1
            · rw [hp_sn (by omega), hp_sn (by omega)]; exact (mp p hp).2.2.1
            · rw [hp_sn (by omega), hp_sn (by omega)]; exact (mp p hp).2.2.2 k hk
        have H4 : q_ok n b (hl_sl σ3 14 2 (σ3.2 14 2 ||| ((1 : Int64) <<< ((nI c).toInt64 &&& 63)))) (hl_si (hl_si τ3 76 c 1) 64 22 (nI (w + 1))) := a5.fr (fun f hf => rfl) (fun f hf => by rw [hp_sn (by omega), hp_sn (by omega)])
        have T4 : hx_t n b (hl_sl σ3 14 2 (σ3.2 14 2 ||| ((1 : Int64) <<< ((nI c).toInt64 &&& 63)))) := T3
        have R4 : hm_r n b (hl_si (hl_si τ3 76 c 1) 64 22 (nI (w + 1))) := (R3.si (by omega)).si (by omega)
        unfold f_Tl_tellWall_j65 f_Tl_tellWall_j80
        rw [j51, Option.bind_some]
        obtain ⟨σ5, τ5, s1, s2, s3, s4, s5, s6⟩ := q_j98 T4 R4 (.inl H4)
        rw [s1, Option.bind_some, s2]
        refine ⟨_, _, rfl, rfl, (FX3.sl (.inr ⟨by omega, by omega⟩)).tr (s3.mono hx_FD_TD), (((a4.mono hm_FD_TD).si (.inr (.inr (.inr (.inl ⟨rfl, by omega⟩))))).si (.inr (.inl ⟨rfl, by omega⟩))).tr (s4.mono hm_D29), by rw [s6, hp_sn (by omega), hp_sn (by omega), e29], ?_⟩
        rcases s5 with s5 | s5
        · exact .inl ⟨s5, hp_setW G c, P, w + 1, D4.fr (s3.mono hx_FD_DD) (s4.mono hm_D29D), by omega, by rw [s3.i (by unfold hx_FD; omega)]; exact e24, by rw [s4.i (by unfold hm_FD; omega), hp_s01]⟩
        · exact .inr s5
      · obtain ⟨r1, r2, r3⟩ := q_fail0 (σ := σ3) (τ := τ3) (f := 2) (p := σ3.1 3 6) z1 z2 (by decide)
        have z3 : ¬ (f_M_fail 2 (τ3.1 64 9) τ3).1 64 5 = 0 := by rw [← e9]; exact r1.x.2
        rw [if_neg (show ¬ (1 : Int32) = 0 by decide), if_neg (show ¬ (1 : Int32) = 0 by decide)]
        unfold f_Tl_tellWall_j65 f_M_wallTold_j51
        rw [if_neg z3, ← e9]
        exact dead _ _ (r1.fr (fun f hf => rfl) (fun f hf => rfl)) ((FX3.tr (r2.mono hx_FD_TD)).sl (.inr ⟨by omega, by omega⟩)) ((a4.mono hm_FD_TD).tr (r3.mono hm_FD_TD)) (by rw [r3.i (by unfold hm_FD; omega)]; exact e29)
    · obtain ⟨z1, z2⟩ := a5.x
      rw [hx_failed1 z1, if_neg (show ¬ (1 : Int32) = 0 by decide), if_neg z2]
      unfold f_M_wallTold_j51
      rw [if_neg z2]
      exact dead _ _ a5 FX3 (a4.mono hm_FD_TD) e29
end STMT
