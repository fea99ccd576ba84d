/-! statements, both in step: a hymn -/
def hp_addH (G : hp_G) (w v : Nat) : hp_G := fun i k => if i = 0 ∧ k = 4 then G 0 4 + 1 else if i = 3 ∧ k = G 0 4 then w else if i = 4 ∧ k = G 0 4 then v else G i k
section HYM
variable {G P : hp_G} {σ τ σ' τ' σ1 τ1 υ : hl_M} {n a s t k c j v z m m' w : Nat} {b l l' : Nat → Nat} {W : List Nat}
theorem hp_addH_n {i : Nat} (h : i ≠ 0 ∧ i ≠ 3 ∧ i ≠ 4) : hp_addH G w v i k = G i k := by
  unfold hp_addH
  rw [if_neg (by omega), if_neg (by omega), if_neg (by omega)]
theorem hp_addH_f {i : Nat} (h : i ≠ 0 ∧ i ≠ 3 ∧ i ≠ 4) : hp_addH G w v i = G i := funext fun k => hp_addH_n h
theorem hp_addH_0 (h : k ≠ 4) : hp_addH G w v 0 k = G 0 k := by
  unfold hp_addH
  rw [if_neg (by omega), if_neg (by omega), if_neg (by omega)]
theorem hp_addH_04 : hp_addH G w v 0 4 = G 0 4 + 1 := if_pos ⟨rfl, rfl⟩
theorem hp_addH_3 : hp_addH G w v 3 k = if k = G 0 4 then w else G 3 k := by
  unfold hp_addH
  by_cases e : k = G 0 4
  · rw [if_neg (by omega), if_pos ⟨rfl, e⟩, if_pos e]
  · rw [if_neg (by omega), if_neg (fun z => e z.2), if_neg (by omega), if_neg e]
theorem hp_addH_4 : hp_addH G w v 4 k = if k = G 0 4 then v else G 4 k := by
  unfold hp_addH
  by_cases e : k = G 0 4
  · rw [if_neg (by omega), if_neg (by omega), if_pos ⟨rfl, e⟩, if_pos e]
  · rw [if_neg (by omega), if_neg (by omega), if_neg (fun z => e z.2), if_neg e]
theorem hp_addH_C : hp_C (hp_addH G w v) = hp_C G := by
  unfold hp_C
  rw [hp_addH_0 (by omega), hp_addH_0 (by omega)]
theorem hp_addH_wg (H : hp_wg G) (h3 : 3 ≤ G 0 0) (h : G 0 4 < 10) (hw : w < G 0 3) (hv : v < 100) : hp_wg (hp_addH G w v) := by
  obtain ⟨a1, a2, a3, a4, a5, a6, a7, a8⟩ := H
  unfold hp_wg
  rw [hp_addH_C]
  simp (disch := omega) only [hp_addH_n, hp_addH_0, hp_addH_04, hp_addH_3, hp_addH_4, hp_addH_f]
  refine ⟨?_, ⟨a2.1, a2.2.1, by omega⟩, a3, a4, fun k hk => ?_, a6, a7, a8⟩
  · rcases a1 with ⟨z, _⟩ | z
    · omega
    · exact .inr z
  · by_cases e : k = G 0 4
    · rw [if_pos e, if_pos e]; exact ⟨hw, hv⟩
    · rw [if_neg e, if_neg e]; exact a5 k (by omega)
theorem hx_word_no (H : q_no σ τ) (j : Nat) : f_Rd_wantWord j σ = some (f_Rd_fail 1 (σ.1 3 2) σ) := by
  unfold f_Rd_wantWord f_Rd_isWord
  rw [H.2.2.1, if_neg (by decide), Option.bind_some, if_pos rfl]
theorem hx_sign_no (H : q_no σ τ) : f_Rd_wantSign 59 σ = some (f_Rd_fail 1 (σ.1 3 2) σ) := by
  unfold f_Rd_wantSign f_Rd_isSign
  rw [H.2.2.1, if_neg (by decide), Option.bind_some, if_pos rfl]
theorem hx_j62_no (H : q_no σ τ) (x : Int32) : ∃ σ', f_Tl_tellHymn_j62 x σ = some σ' ∧ hp_fr hx_FD σ σ' ∧ q_no σ' τ := by
  obtain ⟨r1, r2⟩ := q_failN (f := 1) (p := σ.1 3 2) H
  unfold f_Tl_tellHymn_j62
  rw [hx_word_no H, Option.bind_some, hx_num_no r1, Option.bind_some]
  generalize f_Rd_fail 1 (σ.1 3 2) σ = σ1 at r1 r2 ⊢
  obtain ⟨s1, s2⟩ := q_failN (f := 1) (p := σ1.1 3 2) r1
  dsimp only
  rw [hx_sign_no s1, Option.bind_some]
  generalize f_Rd_fail 1 (σ1.1 3 2) σ1 = σ2 at s1 s2 ⊢
  obtain ⟨t1, t2⟩ := q_failN (f := 1) (p := σ2.1 3 2) s1
  rw [hx_failed1 t1.x.1, if_neg (show ¬ (1 : Int32) = 0 by decide)]
  exact ⟨_, rfl, (r2.tr s2).tr t2, t1⟩
theorem hm_j47_no (h : ¬ τ.1 64 5 = 0) (x : Int32) : f_M_hymnTold_j47 x τ = some τ := by
  unfold f_M_hymnTold_j47
  rw [hm_asks_no h, Option.bind_some, hm_num_no h, Option.bind_some, if_neg h]
theorem hx_wnS (D : q_D G P σ τ) (x : Int32) : ∃ r, f_Gr_wordNamed_d x σ = some r := by
  have hnw := D.1.nw
  have nx : σ.1 14 8 = nI (G 0 3) := D.2.2.2.1.1.2.2.2.1
  unfold f_Gr_wordNamed_d
  have : ∃ e, hl_lp (f_Gr_wordNamed_d_L2 x σ) hl_big 0 = some e ∧ True := by
    refine hp_inv (G 0 3) (fun j y => y = nI j) (fun _ => True) (by omega) rfl ?_ ?_
    · rintro j _ hj rfl
      have n1 : ¬ nI (G 0 3) ≤ nI j := by first | omega | (simp (disch := first | assumption | omega) only [↓hp_neg1, hp_l0, hp_l1, hp_l2, hp_l3, hp_l4, hp_l5, hp_l6, hp_l7, hp_l8, hp_l9, hp_l10, hp_l11, hp_l12, hp_l13, hp_l14, hp_l15, hp_l16, hp_l17, hp_l18, hp_l19, hp_l20, hp_l21, hp_l22, hp_l23, hp_l24, hp_l25, hp_l26, hp_l27, hp_l28, hp_l29, hp_l30, hp_l31, hp_l32, hp_l33, hp_l34, hp_l35, hp_l36, hp_l37, hp_l38, hp_l39, hp_l40, hp_l41, hp_l42, hp_l43, hp_l44, hp_l45, hp_l46, hp_l47, hp_l48, hp_l49, hp_l50, hp_l51, hp_l52, hp_l53, hp_l54, hp_l55, hp_l56, hp_l57, hp_l58, hp_l59, hp_l60, hp_l61, hp_l62, hp_l63, hp_l64, hp_l65, hp_l66, hp_l67, hp_l68, hp_l69, hp_l70, hp_l71, hp_l72, hp_l73, hp_l74, hp_l75, hp_l76, hp_l77, hp_l78, hp_l79, hp_l80, hp_l81, hp_l82, hp_l83, hp_l84, hp_l85, hp_l86, hp_l87, hp_l88, hp_l89, hp_l90, hp_l91, hp_l92, hp_l93, hp_l94, hp_l95, hp_l96, hp_l97, hp_l98, hp_l99, hp_l100, hp_l101, hp_l102, hp_l103, hp_l104, hp_l105, hp_l106, hp_l107, hp_l108, hp_l109, hp_l110, hp_l111, hp_l112, hp_l113, hp_l114, hp_l115, hp_l116, hp_l117, hp_l118, hp_l119, hp_l120, hp_l121, hp_l122, hp_l123, hp_l124, hp_l125, hp_l126, hp_l127, hp_l141, hp_l142, hp_l150, hp_l151, hp_l152, hp_l153, hp_l251, hp_l255, hp_l256, hp_l300, hp_l432, hp_l864, hp_l1000, hp_l1600, hp_l1700, hp_l2304, hp_l2916, hp_l3000, hp_l9999, hp_l10000, nI_add, pk_mul, nI_clamp, hl_lt, hl_le, hl_eq, hl_nIb, hl_nsub, hp_eqm, hp_meq, hp_ltm, hp_mlt, hp_lem, hp_mle, hp_addm, hp_meqm, hp_mlem, hp_withinE, hp_within0, if_pos, if_neg, Option.bind_some, hp_let, Sum.elim_inl, Sum.elim_inr, hp_s01, hp_s11, hp_s2, true_and, and_true, if_true, if_false, not_true_eq_false, not_false_eq_true, reduceCtorEq] <;> omega)
      have hj8 : hl_b (nI j) 8 := by first | omega | (simp (disch := first | assumption | omega) only [↓hp_neg1, hp_l0, hp_l1, hp_l2, hp_l3, hp_l4, hp_l5, hp_l6, hp_l7, hp_l8, hp_l9, hp_l10, hp_l11, hp_l12, hp_l13, hp_l14, hp_l15, hp_l16, hp_l17, hp_l18, hp_l19, hp_l20, hp_l21, hp_l22, hp_l23, hp_l24, hp_l25, hp_l26, hp_l27, hp_l28, hp_l29, hp_l30, hp_l31, hp_l32, hp_l33, hp_l34, hp_l35, hp_l36, hp_l37, hp_l38, hp_l39, hp_l40, hp_l41, hp_l42, hp_l43, hp_l44, hp_l45, hp_l46, hp_l47, hp_l48, hp_l49, hp_l50, hp_l51, hp_l52, hp_l53, hp_l54, hp_l55, hp_l56, hp_l57, hp_l58, hp_l59, hp_l60, hp_l61, hp_l62, hp_l63, hp_l64, hp_l65, hp_l66, hp_l67, hp_l68, hp_l69, hp_l70, hp_l71, hp_l72, hp_l73, hp_l74, hp_l75, hp_l76, hp_l77, hp_l78, hp_l79, hp_l80, hp_l81, hp_l82, hp_l83, hp_l84, hp_l85, hp_l86, hp_l87, hp_l88, hp_l89, hp_l90, hp_l91, hp_l92, hp_l93, hp_l94, hp_l95, hp_l96, hp_l97, hp_l98, hp_l99, hp_l100, hp_l101, hp_l102, hp_l103, hp_l104, hp_l105, hp_l106, hp_l107, hp_l108, hp_l109, hp_l110, hp_l111, hp_l112, hp_l113, hp_l114, hp_l115, hp_l116, hp_l117, hp_l118, hp_l119, hp_l120, hp_l121, hp_l122, hp_l123, hp_l124, hp_l125, hp_l126, hp_l127, hp_l141, hp_l142, hp_l150, hp_l151, hp_l152, hp_l153, hp_l251, hp_l255, hp_l256, hp_l300, hp_l432, hp_l864, hp_l1000, hp_l1600, hp_l1700, hp_l2304, hp_l2916, hp_l3000, hp_l9999, hp_l10000, nI_add, pk_mul, nI_clamp, hl_lt, hl_le, hl_eq, hl_nIb, hl_nsub, hp_eqm, hp_meq, hp_ltm, hp_mlt, hp_lem, hp_mle, hp_addm, hp_meqm, hp_mlem, hp_withinE, hp_within0, if_pos, if_neg, Option.bind_some, hp_let, Sum.elim_inl, Sum.elim_inr, hp_s01, hp_s11, hp_s2, true_and, and_true, if_true, if_false, not_true_eq_false, not_false_eq_true, reduceCtorEq] <;> omega)
      unfold f_Gr_wordNamed_d_L2
      rw [nx, if_neg n1, if_pos hj8, nI_1]
      split
      · exact .inr ⟨_, rfl, trivial⟩
      · exact .inl ⟨_, rfl, rfl⟩
    · rintro _ rfl
      unfold f_Gr_wordNamed_d_L2
      rw [nx, if_pos (by first | omega | (simp (disch := first | assumption | omega) only [↓hp_neg1, hp_l0, hp_l1, hp_l2, hp_l3, hp_l4, hp_l5, hp_l6, hp_l7, hp_l8, hp_l9, hp_l10, hp_l11, hp_l12, hp_l13, hp_l14, hp_l15, hp_l16, hp_l17, hp_l18, hp_l19, hp_l20, hp_l21, hp_l22, hp_l23, hp_l24, hp_l25, hp_l26, hp_l27, hp_l28, hp_l29, hp_l30, hp_l31, hp_l32, hp_l33, hp_l34, hp_l35, hp_l36, hp_l37, hp_l38, hp_l39, hp_l40, hp_l41, hp_l42, hp_l43, hp_l44, hp_l45, hp_l46, hp_l47, hp_l48, hp_l49, hp_l50, hp_l51, hp_l52, hp_l53, hp_l54, hp_l55, hp_l56, hp_l57, hp_l58, hp_l59, hp_l60, hp_l61, hp_l62, hp_l63, hp_l64, hp_l65, hp_l66, hp_l67, hp_l68, hp_l69, hp_l70, hp_l71, hp_l72, hp_l73, hp_l74, hp_l75, hp_l76, hp_l77, hp_l78, hp_l79, hp_l80, hp_l81, hp_l82, hp_l83, hp_l84, hp_l85, hp_l86, hp_l87, hp_l88, hp_l89, hp_l90, hp_l91, hp_l92, hp_l93, hp_l94, hp_l95, hp_l96, hp_l97, hp_l98, hp_l99, hp_l100, hp_l101, hp_l102, hp_l103, hp_l104, hp_l105, hp_l106, hp_l107, hp_l108, hp_l109, hp_l110, hp_l111, hp_l112, hp_l113, hp_l114, hp_l115, hp_l116, hp_l117, hp_l118, hp_l119, hp_l120, hp_l121, hp_l122, hp_l123, hp_l124, hp_l125, hp_l126, hp_l127, hp_l141, hp_l142, hp_l150, hp_l151, hp_l152, hp_l153, hp_l251, hp_l255, hp_l256, hp_l300, hp_l432, hp_l864, hp_l1000, hp_l1600, hp_l1700, hp_l2304, hp_l2916, hp_l3000, hp_l9999, hp_l10000, nI_add, pk_mul, nI_clamp, hl_lt, hl_le, hl_eq, hl_nIb, hl_nsub, hp_eqm, hp_meq, hp_ltm, hp_mlt, hp_lem, hp_mle, hp_addm, hp_meqm, hp_mlem, hp_withinE, hp_within0, if_pos, if_neg, Option.bind_some, hp_let, Sum.elim_inl, Sum.elim_inr, hp_s01, hp_s11, hp_s2, true_and, and_true, if_true, if_false, not_true_eq_false, not_false_eq_true, reduceCtorEq] <;> omega))]
      exact ⟨_, rfl, trivial⟩
  obtain ⟨e, h, -⟩ := this
  rw [h, Option.bind_some]
  rcases e with e | e
  · exact ⟨_, rfl⟩
  · exact ⟨_, rfl⟩
theorem hm_noS (D : q_D G P σ τ) (x : Int64) : ∃ r, f_M_nameOf 1 x τ = some r := by
  have hnw := D.1.nw
  have nx : τ.1 75 1 = nI (G 0 3) := D.2.2.2.2.2.1.1.2.2.2.1
  unfold f_M_nameOf
  have : ∃ e, hl_lp (f_M_nameOf_L3 1 x τ) hl_big 0 = some e ∧ True := by
    refine hp_inv (G 0 3) (fun j y => y = nI j) (fun _ => True) (by omega) rfl ?_ ?_
    · rintro j _ hj rfl
      have n1 : ¬ nI (G 0 3) ≤ nI j := by first | omega | (simp (disch := first | assumption | omega) only [↓hp_neg1, hp_l0, hp_l1, hp_l2, hp_l3, hp_l4, hp_l5, hp_l6, hp_l7, hp_l8, hp_l9, hp_l10, hp_l11, hp_l12, hp_l13, hp_l14, hp_l15, hp_l16, hp_l17, hp_l18, hp_l19, hp_l20, hp_l21, hp_l22, hp_l23, hp_l24, hp_l25, hp_l26, hp_l27, hp_l28, hp_l29, hp_l30, hp_l31, hp_l32, hp_l33, hp_l34, hp_l35, hp_l36, hp_l37, hp_l38, hp_l39, hp_l40, hp_l41, hp_l42, hp_l43, hp_l44, hp_l45, hp_l46, hp_l47, hp_l48, hp_l49, hp_l50, hp_l51, hp_l52, hp_l53, hp_l54, hp_l55, hp_l56, hp_l57, hp_l58, hp_l59, hp_l60, hp_l61, hp_l62, hp_l63, hp_l64, hp_l65, hp_l66, hp_l67, hp_l68, hp_l69, hp_l70, hp_l71, hp_l72, hp_l73, hp_l74, hp_l75, hp_l76, hp_l77, hp_l78, hp_l79, hp_l80, hp_l81, hp_l82, hp_l83, hp_l84, hp_l85, hp_l86, hp_l87, hp_l88, hp_l89, hp_l90, hp_l91, hp_l92, hp_l93, hp_l94, hp_l95, hp_l96, hp_l97, hp_l98, hp_l99, hp_l100, hp_l101, hp_l102, hp_l103, hp_l104, hp_l105, hp_l106, hp_l107, hp_l108, hp_l109, hp_l110, hp_l111, hp_l112, hp_l113, hp_l114, hp_l115, hp_l116, hp_l117, hp_l118, hp_l119, hp_l120, hp_l121, hp_l122, hp_l123, hp_l124, hp_l125, hp_l126, hp_l127, hp_l141, hp_l142, hp_l150, hp_l151, hp_l152, hp_l153, hp_l251, hp_l255, hp_l256, hp_l300, hp_l432, hp_l864, hp_l1000, hp_l1600, hp_l1700, hp_l2304, hp_l2916, hp_l3000, hp_l9999, hp_l10000, nI_add, pk_mul, nI_clamp, hl_lt, hl_le, hl_eq, hl_nIb, hl_nsub, hp_eqm, hp_meq, hp_ltm, hp_mlt, hp_lem, hp_mle, hp_addm, hp_meqm, hp_mlem, hp_withinE, hp_within0, if_pos, if_neg, Option.bind_some, hp_let, Sum.elim_inl, Sum.elim_inr, hp_s01, hp_s11, hp_s2, true_and, and_true, if_true, if_false, not_true_eq_false, not_false_eq_true, reduceCtorEq] <;> omega)
      have e0 : ((10 : Int32) * 1 + nI j) = nI (10 + j) := by rw [show (10 : Int32) * 1 = nI 10 from rfl, nI_add]
      have h6 : hl_b (1 : Int32) 6 := by decide
      have b1 : hl_b (nI (10 + j)) 40 := by first | omega | (simp (disch := first | assumption | omega) only [↓hp_neg1, hp_l0, hp_l1, hp_l2, hp_l3, hp_l4, hp_l5, hp_l6, hp_l7, hp_l8, hp_l9, hp_l10, hp_l11, hp_l12, hp_l13, hp_l14, hp_l15, hp_l16, hp_l17, hp_l18, hp_l19, hp_l20, hp_l21, hp_l22, hp_l23, hp_l24, hp_l25, hp_l26, hp_l27, hp_l28, hp_l29, hp_l30, hp_l31, hp_l32, hp_l33, hp_l34, hp_l35, hp_l36, hp_l37, hp_l38, hp_l39, hp_l40, hp_l41, hp_l42, hp_l43, hp_l44, hp_l45, hp_l46, hp_l47, hp_l48, hp_l49, hp_l50, hp_l51, hp_l52, hp_l53, hp_l54, hp_l55, hp_l56, hp_l57, hp_l58, hp_l59, hp_l60, hp_l61, hp_l62, hp_l63, hp_l64, hp_l65, hp_l66, hp_l67, hp_l68, hp_l69, hp_l70, hp_l71, hp_l72, hp_l73, hp_l74, hp_l75, hp_l76, hp_l77, hp_l78, hp_l79, hp_l80, hp_l81, hp_l82, hp_l83, hp_l84, hp_l85, hp_l86, hp_l87, hp_l88, hp_l89, hp_l90, hp_l91, hp_l92, hp_l93, hp_l94, hp_l95, hp_l96, hp_l97, hp_l98, hp_l99, hp_l100, hp_l101, hp_l102, hp_l103, hp_l104, hp_l105, hp_l106, hp_l107, hp_l108, hp_l109, hp_l110, hp_l111, hp_l112, hp_l113, hp_l114, hp_l115, hp_l116, hp_l117, hp_l118, hp_l119, hp_l120, hp_l121, hp_l122, hp_l123, hp_l124, hp_l125, hp_l126, hp_l127, hp_l141, hp_l142, hp_l150, hp_l151, hp_l152, hp_l153, hp_l251, hp_l255, hp_l256, hp_l300, hp_l432, hp_l864, hp_l1000, hp_l1600, hp_l1700, hp_l2304, hp_l2916, hp_l3000, hp_l9999, hp_l10000, nI_add, pk_mul, nI_clamp, hl_lt, hl_le, hl_eq, hl_nIb, hl_nsub, hp_eqm, hp_meq, hp_ltm, hp_mlt, hp_lem, hp_mle, hp_addm, hp_meqm, hp_mlem, hp_withinE, hp_within0, if_pos, if_neg, Option.bind_some, hp_let, Sum.elim_inl, Sum.elim_inr, hp_s01, hp_s11, hp_s2, true_and, and_true, if_true, if_false, not_true_eq_false, not_false_eq_true, reduceCtorEq] <;> omega)
      unfold f_M_nameOf_L3
      rw [if_pos h6, show (1 : Int32).toNatClampNeg = 1 from rfl, nx, if_neg n1, e0, if_pos b1, nI_1]
      split
      · exact .inr ⟨_, rfl, trivial⟩
      · exact .inl ⟨_, rfl, rfl⟩
    · rintro _ rfl
      unfold f_M_nameOf_L3
      rw [if_pos (by decide), show (1 : Int32).toNatClampNeg = 1 from rfl, nx, if_pos (by first | omega | (simp (disch := first | assumption | omega) only [↓hp_neg1, hp_l0, hp_l1, hp_l2, hp_l3, hp_l4, hp_l5, hp_l6, hp_l7, hp_l8, hp_l9, hp_l10, hp_l11, hp_l12, hp_l13, hp_l14, hp_l15, hp_l16, hp_l17, hp_l18, hp_l19, hp_l20, hp_l21, hp_l22, hp_l23, hp_l24, hp_l25, hp_l26, hp_l27, hp_l28, hp_l29, hp_l30, hp_l31, hp_l32, hp_l33, hp_l34, hp_l35, hp_l36, hp_l37, hp_l38, hp_l39, hp_l40, hp_l41, hp_l42, hp_l43, hp_l44, hp_l45, hp_l46, hp_l47, hp_l48, hp_l49, hp_l50, hp_l51, hp_l52, hp_l53, hp_l54, hp_l55, hp_l56, hp_l57, hp_l58, hp_l59, hp_l60, hp_l61, hp_l62, hp_l63, hp_l64, hp_l65, hp_l66, hp_l67, hp_l68, hp_l69, hp_l70, hp_l71, hp_l72, hp_l73, hp_l74, hp_l75, hp_l76, hp_l77, hp_l78, hp_l79, hp_l80, hp_l81, hp_l82, hp_l83, hp_l84, hp_l85, hp_l86, hp_l87, hp_l88, hp_l89, hp_l90, hp_l91, hp_l92, hp_l93, hp_l94, hp_l95, hp_l96, hp_l97, hp_l98, hp_l99, hp_l100, hp_l101, hp_l102, hp_l103, hp_l104, hp_l105, hp_l106, hp_l107, hp_l108, hp_l109, hp_l110, hp_l111, hp_l112, hp_l113, hp_l114, hp_l115, hp_l116, hp_l117, hp_l118, hp_l119, hp_l120, hp_l121, hp_l122, hp_l123, hp_l124, hp_l125, hp_l126, hp_l127, hp_l141, hp_l142, hp_l150, hp_l151, hp_l152, hp_l153, hp_l251, hp_l255, hp_l256, hp_l300, hp_l432, hp_l864, hp_l1000, hp_l1600, hp_l1700, hp_l2304, hp_l2916, hp_l3000, hp_l9999, hp_l10000, nI_add, pk_mul, nI_clamp, hl_lt, hl_le, hl_eq, hl_nIb, hl_nsub, hp_eqm, hp_meq, hp_ltm, hp_mlt, hp_lem, hp_mle, hp_addm, hp_meqm, hp_mlem, hp_withinE, hp_within0, if_pos, if_neg, Option.bind_some, hp_let, Sum.elim_inl, Sum.elim_inr, hp_s01, hp_s11, hp_s2, true_and, and_true, if_true, if_false, not_true_eq_false, not_false_eq_true, reduceCtorEq] <;> omega))]
      exact ⟨_, rfl, trivial⟩
  obtain ⟨e, h, -⟩ := this
  rw [h, Option.bind_some]
  rcases e with e | e
  · exact ⟨_, rfl⟩
  · exact ⟨_, rfl⟩
theorem q_hymnS (A : f_Rd_advance σ = some σ1) (FA : hp_fr hx_RD σ σ1) (h4 : σ.1 3 4 = 0) (KK : hm_k τ1) (T : hx_t n b σ1) (R : hm_r n b τ1) (H : q_ok n b σ1 τ1) (D : q_D G P σ1 τ1) (hw : z ≤ 20) (w1 : σ.1 24 2 = nI z) (w2 : τ1.1 64 22 = nI z) : ∃ σ' τ', f_Tl_tellHymn σ = some σ' ∧ (f_M_hymnTold (σ.1 3 2) τ1).bind f_M_statementTold_j98 = some τ' ∧ hp_fr hx_TD σ σ' ∧ hp_fr hm_TD τ1 τ' ∧ τ'.1 64 29 = τ1.1 64 29 + 1 ∧ q_T n b σ' τ' := by
  have h5 := H.x.2
  have hnh := D.1.nh
  have x12 : σ.1 14 12 = nI (G 0 4) := by
    rw [← FA.i (show ¬ hx_RD 14 12 by unfold hx_RD; omega)]
    exact D.2.2.2.1.1.2.2.2.2
  have m2 : τ1.1 75 2 = nI (G 0 4) := D.2.2.2.2.2.1.1.2.2.2.2
  have dead : ∀ σa τa, q_no σa τa → hp_fr hx_TD σ σa → hp_fr hm_TD τ1 τa → τa.1 64 29 = τ1.1 64 29 → ∃ σ' τ', some σa = some σ' ∧ (some τa).bind f_M_statementTold_j98 = some τ' ∧ hp_fr hx_TD σ σ' ∧ hp_fr hm_TD τ1 τ' ∧ τ'.1 64 29 = τ1.1 64 29 + 1 ∧ q_T n b σ' τ' := by
    intro σa τa g1 g2 g3 g4
    unfold f_M_statementTold_j98
    rw [Option.bind_some, hm_sign_no g1.x.2, Option.bind_some]
    exact ⟨_, _, rfl, rfl, g2, g3.si (.inr (.inl ⟨rfl, by omega⟩)), by rw [hp_s01, g4], .inr (g1.fr (fun f hf => rfl) (fun f hf => hp_sn (by omega)))⟩
  have dead62 : ∀ σa τa x y, q_no σa τa → hp_fr hx_TD σ σa → hp_fr hm_TD τ1 τa → τa.1 64 29 = τ1.1 64 29 → ∃ σ' τ', f_Tl_tellHymn_j62 x σa = some σ' ∧ (f_M_hymnTold_j47 y τa).bind f_M_statementTold_j98 = some τ' ∧ hp_fr hx_TD σ σ' ∧ hp_fr hm_TD τ1 τ' ∧ τ'.1 64 29 = τ1.1 64 29 + 1 ∧ q_T n b σ' τ' := by
    intro σa τa x y g1 g2 g3 g4
    obtain ⟨σb, s1, s2, s3⟩ := hx_j62_no g1 x
    rw [s1, hm_j47_no g1.x.2]
    exact dead _ _ s3 (g2.tr (s2.mono hx_FD_TD)) g3 g4
  unfold f_Tl_tellHymn f_Tl_startsOneOf f_M_hymnTold f_M_isFull f_M_isFull_j23
  have h62 : hl_b (2 : Int32) 6 := by decide
  rw [x12, if_pos h5, if_pos h62, show (2 : Int32).toNatClampNeg = 2 from rfl, m2]
  by_cases e : G 0 4 = 10
  · obtain ⟨r1, r2, r3⟩ := q_fail0 (σ := σ) (τ := τ1) (f := 5) (p := σ.1 3 2) h4 h5 (by decide)
    have n1 : ¬ nI (G 0 4) < 10 := by rw [e]; decide
    rw [if_neg n1, Option.bind_some, if_pos rfl, if_pos (show nI (G 0 4) = 10 by rw [e]; rfl), if_neg r1.x.2, Option.bind_some, if_neg (show ¬ (1 : Int32) = 0 by decide)]
    exact dead _ _ r1 (r2.mono hx_FD_TD) (r3.mono hm_FD_TD) (r3.i (by unfold hm_FD; omega))
  · have n1 : nI (G 0 4) < 10 := nI_lt (show G 0 4 < 10 by omega) (by decide)
    have n2 : ¬ nI (G 0 4) = 10 := by first | omega | (simp (disch := first | assumption | omega) only [↓hp_neg1, hp_l0, hp_l1, hp_l2, hp_l3, hp_l4, hp_l5, hp_l6, hp_l7, hp_l8, hp_l9, hp_l10, hp_l11, hp_l12, hp_l13, hp_l14, hp_l15, hp_l16, hp_l17, hp_l18, hp_l19, hp_l20, hp_l21, hp_l22, hp_l23, hp_l24, hp_l25, hp_l26, hp_l27, hp_l28, hp_l29, hp_l30, hp_l31, hp_l32, hp_l33, hp_l34, hp_l35, hp_l36, hp_l37, hp_l38, hp_l39, hp_l40, hp_l41, hp_l42, hp_l43, hp_l44, hp_l45, hp_l46, hp_l47, hp_l48, hp_l49, hp_l50, hp_l51, hp_l52, hp_l53, hp_l54, hp_l55, hp_l56, hp_l57, hp_l58, hp_l59, hp_l60, hp_l61, hp_l62, hp_l63, hp_l64, hp_l65, hp_l66, hp_l67, hp_l68, hp_l69, hp_l70, hp_l71, hp_l72, hp_l73, hp_l74, hp_l75, hp_l76, hp_l77, hp_l78, hp_l79, hp_l80, hp_l81, hp_l82, hp_l83, hp_l84, hp_l85, hp_l86, hp_l87, hp_l88, hp_l89, hp_l90, hp_l91, hp_l92, hp_l93, hp_l94, hp_l95, hp_l96, hp_l97, hp_l98, hp_l99, hp_l100, hp_l101, hp_l102, hp_l103, hp_l104, hp_l105, hp_l106, hp_l107, hp_l108, hp_l109, hp_l110, hp_l111, hp_l112, hp_l113, hp_l114, hp_l115, hp_l116, hp_l117, hp_l118, hp_l119, hp_l120, hp_l121, hp_l122, hp_l123, hp_l124, hp_l125, hp_l126, hp_l127, hp_l141, hp_l142, hp_l150, hp_l151, hp_l152, hp_l153, hp_l251, hp_l255, hp_l256, hp_l300, hp_l432, hp_l864, hp_l1000, hp_l1600, hp_l1700, hp_l2304, hp_l2916, hp_l3000, hp_l9999, hp_l10000, nI_add, pk_mul, nI_clamp, hl_lt, hl_le, hl_eq, hl_nIb, hl_nsub, hp_eqm, hp_meq, hp_ltm, hp_mlt, hp_lem, hp_mle, hp_addm, hp_meqm, hp_mlem, hp_withinE, hp_within0, if_pos, if_neg, Option.bind_some, hp_let, Sum.elim_inl, Sum.elim_inr, hp_s01, hp_s11, hp_s2, true_and, and_true, if_true, if_false, not_true_eq_false, not_false_eq_true, reduceCtorEq] <;> omega)
    rw [if_pos n1, A, Option.bind_some, Option.bind_some, if_neg (show ¬ (1 : Int32) = 0 by decide), if_neg n2, if_pos h5, Option.bind_some, if_pos rfl]
    obtain ⟨x, y, σ2, τ2, a1, a2, a3, a4, a5, a6⟩ := q_name KK T R (.inl H)
    have D2 := D.fr0 a3 a4
    have FX2 : hp_fr hx_TD σ σ2 := (FA.mono hx_RD_TD).tr (a3.mono hx_FD_TD)
    have FM2 : hp_fr hm_TD τ1 τ2 := a4.mono hm_FD_TD
    have e29 : τ2.1 64 29 = τ1.1 64 29 := a4.i (by unfold hm_FD; omega)
    have T2 : hx_t n b σ2 := T.fr a3 (by unfold hx_FD; omega) (fun k => by unfold hx_FD; omega)
    have R2 : hm_r n b τ2 := R.fr a4 (by unfold hm_FD; omega) (fun k => by unfold hm_FD; omega)
    have K2 : hm_k τ2 := KK.fr a4 (fun q f h => by have := h.1; omega)
    rw [a1, a2, Option.bind_some, Option.bind_some]
    dsimp only
    rcases a5 with a5 | a5
    · obtain ⟨z1, z2⟩ := a5.x
      obtain ⟨⟨m, l, l1, l2, l3, rfl, rfl⟩, e19⟩ := a6 z1
      obtain ⟨r, p1, p2, p3⟩ := q_wordNamed D2 l2 l3
      rw [p1, p2, Option.bind_some, Option.bind_some, hx_failed0 z1, if_pos rfl, if_pos z2]
      rcases p3 with rfl | ⟨w, hw3, rfl⟩
      · rw [if_pos rfl, if_pos rfl]
        obtain ⟨r1, r2, r3⟩ := q_fail0 (σ := σ2) (τ := τ2) (f := 3) (p := σ2.1 3 6) z1 z2 (by decide)
        rw [← e19]
        exact dead62 _ _ _ _ r1 (FX2.tr (r2.mono hx_FD_TD)) (FM2.tr (r3.mono hm_FD_TD)) (by rw [r3.i (by unfold hm_FD; omega)]; exact e29)
      · have hnw := D.1.nw
        have nm1 : ¬ nI w = -1 := hl_nm1 (by omega)
        rw [if_neg nm1, if_neg nm1]
        obtain ⟨σ3, τ3, b1, b2, b3, b4, b5⟩ := q_want (j := 18) (v := 74) (W := hp_W 8) (by decide +kernel) (K2 8 (by omega)) (hp_WL (by omega)) (by omega) T2 R2 (.inl a5)
        have T3 : hx_t n b σ3 := T2.fr b3 (by unfold hx_FD; omega) (fun k => by unfold hx_FD; omega)
        have R3 : hm_r n b τ3 := R2.fr b4 (by unfold hm_FD; omega) (fun k => by unfold hm_FD; omega)
        obtain ⟨xv, yv, σ4, τ4, c1, c2, c3, c4, c5, c6⟩ := q_number T3 R3 b5 0 99
        have T4 : hx_t n b σ4 := T3.fr c3 (by unfold hx_FD; omega) (fun k => by unfold hx_FD; omega)
        have R4 : hm_r n b τ4 := R3.fr c4 (by unfold hm_FD; omega) (fun k => by unfold hm_FD; omega)
        have FX4 : hp_fr hx_TD σ σ4 := (FX2.tr (b3.mono hx_FD_TD)).tr (c3.mono hx_FD_TD)
        have G4 : hp_fr hm_FD τ1 τ4 := (a4.tr b4).tr c4
        have FM4 : hp_fr hm_TD τ1 τ4 := G4.mono hm_FD_TD
        have e29' : τ4.1 64 29 = τ1.1 64 29 := G4.i (by unfold hm_FD; omega)
        have D4 := (D2.fr0 b3 b4).fr0 c3 c4
        unfold f_Tl_tellHymn_j62 f_M_hymnTold_j47
        rw [b1, b2, Option.bind_some, Option.bind_some, c1, c2, Option.bind_some, Option.bind_some]
        dsimp only
        rcases c5 with c5 | c5
        · obtain ⟨z3, z4⟩ := c5.x
          obtain ⟨rfl, c7, c8, ⟨v, c9, rfl⟩, -⟩ := c6 z3
          have hv : v < 100 := by
            by_cases e : v < 100
            · exact e
            · exact absurd (nI_lt (show 99 < v by omega) (by omega)) c8
          have q2 : τ4.1 75 2 = nI (G 0 4) := by rw [G4.i (by unfold hm_FD; omega)]; exact m2
          have e2 : (2 * nI (G 0 4) : Int32) = nI (2 * G 0 4) := by rw [show (2 : Int32) = nI 2 from rfl, pk_mul]
          have bb1 : hl_b (nI (2 * G 0 4)) 40 := by first | omega | (simp (disch := first | assumption | omega) only [↓hp_neg1, hp_l0, hp_l1, hp_l2, hp_l3, hp_l4, hp_l5, hp_l6, hp_l7, hp_l8, hp_l9, hp_l10, hp_l11, hp_l12, hp_l13, hp_l14, hp_l15, hp_l16, hp_l17, hp_l18, hp_l19, hp_l20, hp_l21, hp_l22, hp_l23, hp_l24, hp_l25, hp_l26, hp_l27, hp_l28, hp_l29, hp_l30, hp_l31, hp_l32, hp_l33, hp_l34, hp_l35, hp_l36, hp_l37, hp_l38, hp_l39, hp_l40, hp_l41, hp_l42, hp_l43, hp_l44, hp_l45, hp_l46, hp_l47, hp_l48, hp_l49, hp_l50, hp_l51, hp_l52, hp_l53, hp_l54, hp_l55, hp_l56, hp_l57, hp_l58, hp_l59, hp_l60, hp_l61, hp_l62, hp_l63, hp_l64, hp_l65, hp_l66, hp_l67, hp_l68, hp_l69, hp_l70, hp_l71, hp_l72, hp_l73, hp_l74, hp_l75, hp_l76, hp_l77, hp_l78, hp_l79, hp_l80, hp_l81, hp_l82, hp_l83, hp_l84, hp_l85, hp_l86, hp_l87, hp_l88, hp_l89, hp_l90, hp_l91, hp_l92, hp_l93, hp_l94, hp_l95, hp_l96, hp_l97, hp_l98, hp_l99, hp_l100, hp_l101, hp_l102, hp_l103, hp_l104, hp_l105, hp_l106, hp_l107, hp_l108, hp_l109, hp_l110, hp_l111, hp_l112, hp_l113, hp_l114, hp_l115, hp_l116, hp_l117, hp_l118, hp_l119, hp_l120, hp_l121, hp_l122, hp_l123, hp_l124, hp_l125, hp_l126, hp_l127, hp_l141, hp_l142, hp_l150, hp_l151, hp_l152, hp_l153, hp_l251, hp_l255, hp_l256, hp_l300, hp_l432, hp_l864, hp_l1000, hp_l1600, hp_l1700, hp_l2304, hp_l2916, hp_l3000, hp_l9999, hp_l10000, nI_add, pk_mul, nI_clamp, hl_lt, hl_le, hl_eq, hl_nIb, hl_nsub, hp_eqm, hp_meq, hp_ltm, hp_mlt, hp_lem, hp_mle, hp_addm, hp_meqm, hp_mlem, hp_withinE, hp_within0, if_pos, if_neg, Option.bind_some, hp_let, Sum.elim_inl, Sum.elim_inr, hp_s01, hp_s11, hp_s2, true_and, and_true, if_true, if_false, not_true_eq_false, not_false_eq_true, reduceCtorEq] <;> omega)
          have bb2 : hl_b (nI (2 * G 0 4 + 1)) 40 := by first | omega | (simp (disch := first | assumption | omega) only [↓hp_neg1, hp_l0, hp_l1, hp_l2, hp_l3, hp_l4, hp_l5, hp_l6, hp_l7, hp_l8, hp_l9, hp_l10, hp_l11, hp_l12, hp_l13, hp_l14, hp_l15, hp_l16, hp_l17, hp_l18, hp_l19, hp_l20, hp_l21, hp_l22, hp_l23, hp_l24, hp_l25, hp_l26, hp_l27, hp_l28, hp_l29, hp_l30, hp_l31, hp_l32, hp_l33, hp_l34, hp_l35, hp_l36, hp_l37, hp_l38, hp_l39, hp_l40, hp_l41, hp_l42, hp_l43, hp_l44, hp_l45, hp_l46, hp_l47, hp_l48, hp_l49, hp_l50, hp_l51, hp_l52, hp_l53, hp_l54, hp_l55, hp_l56, hp_l57, hp_l58, hp_l59, hp_l60, hp_l61, hp_l62, hp_l63, hp_l64, hp_l65, hp_l66, hp_l67, hp_l68, hp_l69, hp_l70, hp_l71, hp_l72, hp_l73, hp_l74, hp_l75, hp_l76, hp_l77, hp_l78, hp_l79, hp_l80, hp_l81, hp_l82, hp_l83, hp_l84, hp_l85, hp_l86, hp_l87, hp_l88, hp_l89, hp_l90, hp_l91, hp_l92, hp_l93, hp_l94, hp_l95, hp_l96, hp_l97, hp_l98, hp_l99, hp_l100, hp_l101, hp_l102, hp_l103, hp_l104, hp_l105, hp_l106, hp_l107, hp_l108, hp_l109, hp_l110, hp_l111, hp_l112, hp_l113, hp_l114, hp_l115, hp_l116, hp_l117, hp_l118, hp_l119, hp_l120, hp_l121, hp_l122, hp_l123, hp_l124, hp_l125, hp_l126, hp_l127, hp_l141, hp_l142, hp_l150, hp_l151, hp_l152, hp_l153, hp_l251, hp_l255, hp_l256, hp_l300, hp_l432, hp_l864, hp_l1000, hp_l1600, hp_l1700, hp_l2304, hp_l2916, hp_l3000, hp_l9999, hp_l10000, nI_add, pk_mul, nI_clamp, hl_lt, hl_le, hl_eq, hl_nIb, hl_nsub, hp_eqm, hp_meq, hp_ltm, hp_mlt, hp_lem, hp_mle, hp_addm, hp_meqm, hp_mlem, hp_withinE, hp_within0, if_pos, if_neg, Option.bind_some, hp_let, Sum.elim_inl, Sum.elim_inr, hp_s01, hp_s11, hp_s2, true_and, and_true, if_true, if_false, not_true_eq_false, not_false_eq_true, reduceCtorEq] <;> omega)
          rw [if_pos z4, if_pos h62, show (2 : Int32).toNatClampNeg = 2 from rfl, q2, e2, if_pos bb1, if_pos h62, nI_clamp (by omega), hp_sn (by omega), q2, e2, nI_1, if_pos bb2, if_pos h62, if_pos h62, nI_clamp (by omega), hp_sn (by omega), hp_sn (by omega), q2, nI_1, Option.bind_some]
          have H5 : q_ok n b σ4 (hl_si (hl_si (hl_si τ4 80 (2 * G 0 4) (nI w)) 80 (2 * G 0 4 + 1) (nI v)) 75 2 (nI (G 0 4 + 1))) := c5.fr (fun f hf => rfl) (fun f hf => by rw [hp_sn (by omega), hp_sn (by omega), hp_sn (by omega)])
          have R5 : hm_r n b (hl_si (hl_si (hl_si τ4 80 (2 * G 0 4) (nI w)) 80 (2 * G 0 4 + 1) (nI v)) 75 2 (nI (G 0 4 + 1))) := ((R4.si (by omega)).si (by omega)).si (by omega)
          obtain ⟨σ5, τ6, s1, s2, s3, s4, s5, s6⟩ := q_j98 T4 R5 (.inl H5)
          have FM6 : hp_fr hm_TD τ1 τ6 := (((FM4.si (.inr (.inr (.inr (.inr (.inr (.inr (.inr ⟨rfl, by omega⟩)))))))).si (.inr (.inr (.inr (.inr (.inr (.inr (.inr ⟨rfl, by omega⟩)))))))).si (.inr (.inr (.inl ⟨rfl, by omega⟩)))).tr (s4.mono hm_D29)
          have e6 : τ6.1 64 29 = τ1.1 64 29 + 1 := by rw [s6, hp_sn (by omega), hp_sn (by omega), hp_sn (by omega), e29']
          rw [s1, s2, Option.bind_some]
          rcases s5 with s5 | s5
          · obtain ⟨z5, z6⟩ := s5.x
            have D5 : q_D G P σ5 τ4 := D4.fr (s3.mono hx_FD_DD) .rf
            have q12 : σ5.1 14 12 = nI (G 0 4) := D5.2.2.2.1.1.2.2.2.2
            have bb3 : hl_b (nI (G 0 4)) 10 := by first | omega | (simp (disch := first | assumption | omega) only [↓hp_neg1, hp_l0, hp_l1, hp_l2, hp_l3, hp_l4, hp_l5, hp_l6, hp_l7, hp_l8, hp_l9, hp_l10, hp_l11, hp_l12, hp_l13, hp_l14, hp_l15, hp_l16, hp_l17, hp_l18, hp_l19, hp_l20, hp_l21, hp_l22, hp_l23, hp_l24, hp_l25, hp_l26, hp_l27, hp_l28, hp_l29, hp_l30, hp_l31, hp_l32, hp_l33, hp_l34, hp_l35, hp_l36, hp_l37, hp_l38, hp_l39, hp_l40, hp_l41, hp_l42, hp_l43, hp_l44, hp_l45, hp_l46, hp_l47, hp_l48, hp_l49, hp_l50, hp_l51, hp_l52, hp_l53, hp_l54, hp_l55, hp_l56, hp_l57, hp_l58, hp_l59, hp_l60, hp_l61, hp_l62, hp_l63, hp_l64, hp_l65, hp_l66, hp_l67, hp_l68, hp_l69, hp_l70, hp_l71, hp_l72, hp_l73, hp_l74, hp_l75, hp_l76, hp_l77, hp_l78, hp_l79, hp_l80, hp_l81, hp_l82, hp_l83, hp_l84, hp_l85, hp_l86, hp_l87, hp_l88, hp_l89, hp_l90, hp_l91, hp_l92, hp_l93, hp_l94, hp_l95, hp_l96, hp_l97, hp_l98, hp_l99, hp_l100, hp_l101, hp_l102, hp_l103, hp_l104, hp_l105, hp_l106, hp_l107, hp_l108, hp_l109, hp_l110, hp_l111, hp_l112, hp_l113, hp_l114, hp_l115, hp_l116, hp_l117, hp_l118, hp_l119, hp_l120, hp_l121, hp_l122, hp_l123, hp_l124, hp_l125, hp_l126, hp_l127, hp_l141, hp_l142, hp_l150, hp_l151, hp_l152, hp_l153, hp_l251, hp_l255, hp_l256, hp_l300, hp_l432, hp_l864, hp_l1000, hp_l1600, hp_l1700, hp_l2304, hp_l2916, hp_l3000, hp_l9999, hp_l10000, nI_add, pk_mul, nI_clamp, hl_lt, hl_le, hl_eq, hl_nIb, hl_nsub, hp_eqm, hp_meq, hp_ltm, hp_mlt, hp_lem, hp_mle, hp_addm, hp_meqm, hp_mlem, hp_withinE, hp_within0, if_pos, if_neg, Option.bind_some, hp_let, Sum.elim_inl, Sum.elim_inr, hp_s01, hp_s11, hp_s2, true_and, and_true, if_true, if_false, not_true_eq_false, not_false_eq_true, reduceCtorEq] <;> omega)
            rw [hx_failed0 z5, if_pos rfl, q12, show (10 : Int32) = nI 10 from rfl, hp_withinT (show G 0 4 < 10 by omega) (by decide), if_neg (show ¬ (1 : Int32) = 0 by decide), if_pos bb3, nI_clamp (by omega), hp_sn (by omega), q12, if_pos bb3, nI_clamp (by omega), hp_let, hp_sn (by omega), hp_sn (by omega), q12, nI_1]
            refine ⟨_, _, rfl, rfl, (((FX4.tr (s3.mono hx_FD_TD)).si (.inr ⟨by omega, by omega⟩)).si (.inr ⟨by omega, by omega⟩)).si (.inr ⟨by omega, by omega⟩), FM6, e6, .inl ⟨s5.fr (fun f hf => by rw [hp_sn (by omega), hp_sn (by omega), hp_sn (by omega)]) (fun f hf => rfl), hp_addH G w v, P, z, ?_, hw, ?_, ?_⟩⟩
            · obtain ⟨wg, wp, w3, ⟨⟨x1, x2, x3, x4, x5⟩, x6, x7, x8, x9⟩, xp, ⟨⟨y1, y2, y3, y4, y5⟩, y6, y7, y8, y9⟩, mp⟩ := D5
              have rd : ∀ q f, ¬ (q = 64 ∧ f < 20) → ¬ (q = 64 ∧ f = 29) → ¬ (q = 80 ∧ (f = 2 * G 0 4 ∨ f = 2 * G 0 4 + 1)) → ¬ (q = 75 ∧ f = 2) → τ6.1 q f = τ4.1 q f := fun q f u1 u2 u3 u4 => by
                rw [s4.i (by unfold hm_FD; omega), hp_sn (by omega), hp_sn (by omega), hp_sn (by omega)]
              have rdl : ∀ q f, q = 77 → τ6.2 q f = τ4.2 q f := fun q f u => s4.l (by unfold hm_FD; omega)
              refine ⟨hp_addH_wg wg w3 (by omega) hw3 hv, ?_, ?_, ⟨⟨?_, ?_, ?_, ?_, ?_⟩, ?_, ?_, ?_, ?_⟩, ?_, ⟨⟨?_, ?_, ?_, ?_, ?_⟩, ?_, ?_, ?_, ?_⟩, ?_⟩
              · unfold hp_wp
                rw [hp_addH_0 (by omega)]
                exact wp
              · rw [hp_addH_0 (by omega)]; exact w3
              · rw [hp_addH_0 (by omega), hp_sn (by omega), hp_sn (by omega), hp_sn (by omega)]; exact x1
              · rw [hp_addH_0 (by omega), hp_sn (by omega), hp_sn (by omega), hp_sn (by omega)]; exact x2
              · rw [hp_addH_0 (by omega), hp_sn (by omega), hp_sn (by omega), hp_sn (by omega)]; exact x3
              · rw [hp_addH_0 (by omega), hp_sn (by omega), hp_sn (by omega), hp_sn (by omega)]; exact x4
              · rw [hp_addH_04, hp_s01]
              · rw [hp_addH_f (by omega)]; exact x6
              · rw [hp_addH_0 (by omega)]
                intro p hp
                rw [hp_addH_f (by omega), hp_addH_n (by omega), hp_addH_n (by omega), hp_sn (by omega), hp_sn (by omega), hp_sn (by omega), hp_sn (by omega), hp_sn (by omega), hp_sn (by omega)]
                exact x7 p hp
              · rw [hp_addH_0 (by omega)]
                intro p hp
                rw [hp_addH_f (by omega), hp_addH_n (by omega), hp_addH_f (by omega), hp_sn (by omega), hp_sn (by omega), hp_sn (by omega)]
                exact x8 p hp
              · rw [hp_addH_04]
                intro h hh
                rw [hp_addH_3, hp_addH_4]
                by_cases e : h = G 0 4
                · rw [if_pos e, if_pos e, e, hp_sn (by omega), hp_sn (by omega), hp_s01, hp_sn (by omega), hp_s01]
                  exact ⟨rfl, rfl⟩
                · rw [if_neg e, if_neg e, hp_sn (by omega), hp_sn (by omega), hp_sn (by omega), hp_sn (by omega), hp_sn (by omega), hp_sn (by omega)]
                  exact x9 h (by omega)
              · intro p hp
                rw [hp_addH_0 (by omega)] at hp
                rw [hp_sn (by omega), hp_sn (by omega), hp_sn (by omega)]
                exact xp p hp
              · rw [hp_addH_0 (by omega), rd _ _ (by omega) (by omega) (by omega) (by omega)]; exact y1
              · rw [hp_addH_0 (by omega), rd _ _ (by omega) (by omega) (by omega) (by omega)]; exact y2
              · rw [hp_addH_0 (by omega), rd _ _ (by omega) (by omega) (by omega) (by omega)]; exact y3
              · rw [hp_addH_0 (by omega), rd _ _ (by omega) (by omega) (by omega) (by omega)]; exact y4
              · rw [hp_addH_04, s4.i (by unfold hm_FD; omega), hp_s01]
              · rw [hp_addH_f (by omega)]
                intro k hk
                rw [rd _ _ (by omega) (by omega) (by omega) (by omega)]
                exact y6 k hk
              · rw [hp_addH_0 (by omega)]
                intro p hp
                rw [hp_addH_f (by omega), hp_addH_n (by omega), rdl _ _ rfl]
                exact y7 p hp
              · rw [hp_addH_0 (by omega)]
                intro p hp
                rw [hp_addH_f (by omega), hp_addH_n (by omega), hp_addH_f (by omega), rdl _ _ rfl]
                refine ⟨(y8 p hp).1, fun k hk => ?_⟩
                rw [rd _ _ (by omega) (by omega) (by omega) (by omega)]
                exact (y8 p hp).2 k hk
              · rw [hp_addH_04]
                intro h hh
                rw [hp_addH_3, hp_addH_4]
                by_cases e : h = G 0 4
                · rw [if_pos e, if_pos e, e, Nat.mul_zero, Nat.zero_add, s4.i (by unfold hm_FD; omega), s4.i (by unfold hm_FD; omega), hp_sn (by omega), hp_sn (by omega), hp_s01, hp_sn (by omega), hp_s01]
                  exact ⟨rfl, rfl⟩
                · rw [if_neg e, if_neg e, rd _ _ (by omega) (by omega) (by omega) (by omega), rd _ _ (by omega) (by omega) (by omega) (by omega)]
                  exact y9 h (by omega)
              · intro p hp
                rw [hp_addH_0 (by omega)] at hp
                rw [hp_addH_f (by omega)]
                refine ⟨?_, ?_, ?_, fun k hk => ?_⟩
                · rw [rd _ _ (by omega) (by omega) (by omega) (by omega)]; exact (mp p hp).1
                · rw [rd _ _ (by omega) (by omega) (by omega) (by omega)]; exact (mp p hp).2.1
                · rw [rd _ _ (by omega) (by omega) (by omega) (by omega)]; exact (mp p hp).2.2.1
                · rw [rd _ _ (by omega) (by omega) (by omega) (by omega)]; exact (mp p hp).2.2.2 k hk
            · rw [hp_sn (by omega), hp_sn (by omega), hp_sn (by omega), ((((FA.mono (D' := fun q f => q = 3) (fun q f h => h.1)).tr a3).tr b3).tr c3).tr s3 |>.i (show ¬ (24 = 3) by omega)]
              exact w1
            · rw [s4.i (by unfold hm_FD; omega), hp_sn (by omega), hp_sn (by omega), hp_sn (by omega), G4.i (by unfold hm_FD; omega)]
              exact w2
          · rw [hx_failed1 s5.x.1, if_neg (show ¬ (1 : Int32) = 0 by decide)]
            exact ⟨_, _, rfl, rfl, FX4.tr (s3.mono hx_FD_TD), FM6, e6, .inr s5⟩
        · obtain ⟨z3, z4⟩ := c5.x
          rw [if_neg z4]
          obtain ⟨r1, r2⟩ := q_failN (f := 1) (p := σ4.1 3 2) c5
          rw [hx_sign_no c5, Option.bind_some, hx_failed1 r1.x.1, if_neg (show ¬ (1 : Int32) = 0 by decide)]
          exact dead _ _ r1 (FX4.tr (r2.mono hx_FD_TD)) FM4 e29'
    · obtain ⟨z1, z2⟩ := a5.x
      obtain ⟨u1, u2⟩ := hx_wnS D2 x
      obtain ⟨v1, v2⟩ := hm_noS D2 y
      rw [u2, v2, Option.bind_some, Option.bind_some, hx_failed1 z1, if_neg (show ¬ (1 : Int32) = 0 by decide), if_neg z2]
      exact dead62 _ _ _ _ a5 FX2 FM2 e29
end HYM
