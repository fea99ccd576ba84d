/-! the model's memory: h 0 told, 1 standing -/
def hm_g (h : Nat) (G : hp_G) (τ : hl_M) : Prop :=
  (τ.1 64 (20 + 10 * h) = nI (G 0 0) ∧ τ.1 64 (21 + 10 * h) = nI (G 0 1) ∧ τ.1 75 (3 * h) = nI (G 0 2) ∧ τ.1 75 (3 * h + 1) = nI (G 0 3) ∧ τ.1 75 (3 * h + 2) = nI (G 0 4)) ∧
  (∀ c, c < 54 → τ.1 76 (54 * h + c) = nI (G 1 c)) ∧
  (∀ p, p < G 0 2 → τ.2 77 (20 * h + p) = lN (hp_n27 (G (10 + p)) (G 5 p))) ∧
  (∀ w, w < G 0 3 → τ.2 77 (20 * h + 10 + w) = lN (hp_n27 (G (20 + w)) (G 6 w)) ∧ ∀ c, c < 54 → τ.1 79 (432 * h + 54 * w + c) = nI (G (30 + w) c)) ∧
  (∀ i, i < G 0 4 → τ.1 80 (20 * h + 2 * i) = nI (G 3 i) ∧ τ.1 80 (20 * h + 2 * i + 1) = nI (G 4 i))
/-- persons, from q on in array a -/
def hm_p (a q : Nat) (G P : hp_G) (τ : hl_M) : Prop := ∀ p, p < G 0 2 → τ.1 a (q + 15 * p) = nI (G 2 p) ∧ τ.1 a (q + 1 + 15 * p) = nI (P 0 p) ∧ τ.1 a (q + 2 + 15 * p) = nI (P 1 p) ∧ ∀ k, k < P 1 p → τ.1 a (q + 3 + 15 * p + k) = nI (P (2 + p) k)
def hm_w (G P : hp_G) (τ : hl_M) : Prop := ∀ p, p < G 0 2 → ∀ b, b < 100 → τ.1 83 (100 * p + b) = nI (hp_wh G P p b)
def hm (G P : hp_G) (τ : hl_M) : Prop := hp_wg G ∧ hp_wp G P ∧ hm_g 1 G τ ∧ hm_p 78 150 G P τ ∧ hm_w G P τ
def hm0 (G P : hp_G) (τ : hl_M) : Prop := hp_wg G ∧ hp_wp G P ∧ hm_g 1 G τ ∧ hm_p 78 150 G P τ
section HM
variable {G P : hp_G} {τ : hl_M} {p w c b s i k : Nat}
theorem hm.z (H : hm G P τ) : hm0 G P τ := ⟨H.1, H.2.1, H.2.2.1, H.2.2.2.1⟩
theorem hm0.wg (H : hm0 G P τ) : hp_wg G := H.1
theorem hm0.wp (H : hm0 G P τ) : hp_wp G P := H.2.1
theorem hm0.W (H : hm0 G P τ) : τ.1 64 30 = nI (G 0 0) := H.2.2.1.1.1
theorem hm0.H (H : hm0 G P τ) : τ.1 64 31 = nI (G 0 1) := H.2.2.1.1.2.1
theorem hm0.np (H : hm0 G P τ) : τ.1 75 3 = nI (G 0 2) := H.2.2.1.1.2.2.1
theorem hm0.wall (H : hm0 G P τ) (hc : c < 54) : τ.1 76 (54 + c) = nI (G 1 c) := H.2.2.1.2.1 c hc
theorem hm0.told (H : hm0 G P τ) (hp : p < G 0 2) : τ.1 78 (150 + 15 * p) = nI (G 2 p) := (H.2.2.2 p hp).1
theorem hm0.cnt (H : hm0 G P τ) (hp : p < G 0 2) : τ.1 78 (152 + 15 * p) = nI (P 1 p) := (H.2.2.2 p hp).2.2.1
theorem hm0.step (H : hm0 G P τ) (hp : p < G 0 2) (hk : k < P 1 p) : τ.1 78 (153 + 15 * p + k) = nI (P (2 + p) k) := (H.2.2.2 p hp).2.2.2 k hk
theorem hm.wg (H : hm G P τ) : hp_wg G := H.1
theorem hm.wp (H : hm G P τ) : hp_wp G P := H.2.1
theorem hm.W (H : hm G P τ) : τ.1 64 30 = nI (G 0 0) := H.2.2.1.1.1
theorem hm.H (H : hm G P τ) : τ.1 64 31 = nI (G 0 1) := H.2.2.1.1.2.1
theorem hm.np (H : hm G P τ) : τ.1 75 3 = nI (G 0 2) := H.2.2.1.1.2.2.1
theorem hm.nw (H : hm G P τ) : τ.1 75 4 = nI (G 0 3) := H.2.2.1.1.2.2.2.1
theorem hm.nh (H : hm G P τ) : τ.1 75 5 = nI (G 0 4) := H.2.2.1.1.2.2.2.2
theorem hm.wall (H : hm G P τ) (hc : c < 54) : τ.1 76 (54 + c) = nI (G 1 c) := H.2.2.1.2.1 c hc
theorem hm.pname (H : hm G P τ) (hp : p < G 0 2) : τ.2 77 (20 + p) = lN (hp_n27 (G (10 + p)) (G 5 p)) := H.2.2.1.2.2.1 p hp
theorem hm.wname (H : hm G P τ) (hw : w < G 0 3) : τ.2 77 (30 + w) = lN (hp_n27 (G (20 + w)) (G 6 w)) := (H.2.2.1.2.2.2.1 w hw).1
theorem hm.wl (H : hm G P τ) (hw : w < G 0 3) (hc : c < 54) : τ.1 79 (432 + 54 * w + c) = nI (G (30 + w) c) := (H.2.2.1.2.2.2.1 w hw).2 c hc
theorem hm.hw (H : hm G P τ) (hi : i < G 0 4) : τ.1 80 (20 + 2 * i) = nI (G 3 i) := (H.2.2.1.2.2.2.2 i hi).1
theorem hm.hb (H : hm G P τ) (hi : i < G 0 4) : τ.1 80 (20 + 2 * i + 1) = nI (G 4 i) := (H.2.2.1.2.2.2.2 i hi).2
theorem hm.told (H : hm G P τ) (hp : p < G 0 2) : τ.1 78 (150 + 15 * p) = nI (G 2 p) := (H.2.2.2.1 p hp).1
theorem hm.lamp (H : hm G P τ) (hp : p < G 0 2) : τ.1 78 (151 + 15 * p) = nI (P 0 p) := (H.2.2.2.1 p hp).2.1
theorem hm.cnt (H : hm G P τ) (hp : p < G 0 2) : τ.1 78 (152 + 15 * p) = nI (P 1 p) := (H.2.2.2.1 p hp).2.2.1
theorem hm.step (H : hm G P τ) (hp : p < G 0 2) (hk : k < P 1 p) : τ.1 78 (153 + 15 * p + k) = nI (P (2 + p) k) := (H.2.2.2.1 p hp).2.2.2 k hk
theorem hm.wh (H : hm G P τ) (hp : p < G 0 2) (hb : b < 100) : τ.1 83 (100 * p + b) = nI (hp_wh G P p b) := H.2.2.2.2 p hp b hb
theorem hm_personMany0 (H : hm0 G P τ) : f_M_personMany τ = some (nI (G 0 2)) := by
  unfold f_M_personMany
  simp (disch := first | assumption | omega) only [↓hp_neg1, hp_l0, hp_l1, hp_l2, hp_l3, hp_l4, hp_l5, hp_l6, hp_l7, hp_l8, hp_l9, hp_l10, hp_l11, hp_l12, hp_l13, hp_l14, hp_l15, hp_l16, hp_l17, hp_l18, hp_l19, hp_l20, hp_l21, hp_l22, hp_l23, hp_l24, hp_l25, hp_l26, hp_l27, hp_l28, hp_l29, hp_l30, hp_l31, hp_l32, hp_l33, hp_l34, hp_l35, hp_l36, hp_l37, hp_l38, hp_l39, hp_l40, hp_l41, hp_l42, hp_l43, hp_l44, hp_l45, hp_l46, hp_l47, hp_l48, hp_l49, hp_l50, hp_l51, hp_l52, hp_l53, hp_l54, hp_l55, hp_l56, hp_l57, hp_l58, hp_l59, hp_l60, hp_l61, hp_l62, hp_l63, hp_l64, hp_l65, hp_l66, hp_l67, hp_l68, hp_l69, hp_l70, hp_l71, hp_l72, hp_l73, hp_l74, hp_l75, hp_l76, hp_l77, hp_l78, hp_l79, hp_l80, hp_l81, hp_l82, hp_l83, hp_l84, hp_l85, hp_l86, hp_l87, hp_l88, hp_l89, hp_l90, hp_l91, hp_l92, hp_l93, hp_l94, hp_l95, hp_l96, hp_l97, hp_l98, hp_l99, hp_l100, hp_l101, hp_l102, hp_l103, hp_l104, hp_l105, hp_l106, hp_l107, hp_l108, hp_l109, hp_l110, hp_l111, hp_l112, hp_l113, hp_l114, hp_l115, hp_l116, hp_l117, hp_l118, hp_l119, hp_l120, hp_l121, hp_l122, hp_l123, hp_l124, hp_l125, hp_l126, hp_l127, hp_l141, hp_l142, hp_l150, hp_l151, hp_l152, hp_l153, hp_l251, hp_l255, hp_l256, hp_l300, hp_l432, hp_l864, hp_l1000, hp_l1600, hp_l1700, hp_l2304, hp_l2916, hp_l3000, hp_l9999, hp_l10000, nI_add, pk_mul, nI_clamp, hl_lt, hl_le, hl_eq, hl_nIb, hl_nsub, hp_eqm, hp_meq, hp_ltm, hp_mlt, hp_lem, hp_mle, hp_addm, hp_meqm, hp_mlem, hp_withinE, hp_within0, if_pos, if_neg, Option.bind_some, hp_let, Sum.elim_inl, Sum.elim_inr, hp_s01, hp_s11, hp_s2, true_and, and_true, if_true, if_false, not_true_eq_false, not_false_eq_true, reduceCtorEq, H.np]
theorem hm_personMany (H : hm G P τ) : f_M_personMany τ = some (nI (G 0 2)) := hm_personMany0 H.z 
theorem hm_wordMany (H : hm G P τ) : f_M_wordMany τ = some (nI (G 0 3)) := by
  unfold f_M_wordMany
  simp (disch := first | assumption | omega) only [↓hp_neg1, hp_l0, hp_l1, hp_l2, hp_l3, hp_l4, hp_l5, hp_l6, hp_l7, hp_l8, hp_l9, hp_l10, hp_l11, hp_l12, hp_l13, hp_l14, hp_l15, hp_l16, hp_l17, hp_l18, hp_l19, hp_l20, hp_l21, hp_l22, hp_l23, hp_l24, hp_l25, hp_l26, hp_l27, hp_l28, hp_l29, hp_l30, hp_l31, hp_l32, hp_l33, hp_l34, hp_l35, hp_l36, hp_l37, hp_l38, hp_l39, hp_l40, hp_l41, hp_l42, hp_l43, hp_l44, hp_l45, hp_l46, hp_l47, hp_l48, hp_l49, hp_l50, hp_l51, hp_l52, hp_l53, hp_l54, hp_l55, hp_l56, hp_l57, hp_l58, hp_l59, hp_l60, hp_l61, hp_l62, hp_l63, hp_l64, hp_l65, hp_l66, hp_l67, hp_l68, hp_l69, hp_l70, hp_l71, hp_l72, hp_l73, hp_l74, hp_l75, hp_l76, hp_l77, hp_l78, hp_l79, hp_l80, hp_l81, hp_l82, hp_l83, hp_l84, hp_l85, hp_l86, hp_l87, hp_l88, hp_l89, hp_l90, hp_l91, hp_l92, hp_l93, hp_l94, hp_l95, hp_l96, hp_l97, hp_l98, hp_l99, hp_l100, hp_l101, hp_l102, hp_l103, hp_l104, hp_l105, hp_l106, hp_l107, hp_l108, hp_l109, hp_l110, hp_l111, hp_l112, hp_l113, hp_l114, hp_l115, hp_l116, hp_l117, hp_l118, hp_l119, hp_l120, hp_l121, hp_l122, hp_l123, hp_l124, hp_l125, hp_l126, hp_l127, hp_l141, hp_l142, hp_l150, hp_l151, hp_l152, hp_l153, hp_l251, hp_l255, hp_l256, hp_l300, hp_l432, hp_l864, hp_l1000, hp_l1600, hp_l1700, hp_l2304, hp_l2916, hp_l3000, hp_l9999, hp_l10000, nI_add, pk_mul, nI_clamp, hl_lt, hl_le, hl_eq, hl_nIb, hl_nsub, hp_eqm, hp_meq, hp_ltm, hp_mlt, hp_lem, hp_mle, hp_addm, hp_meqm, hp_mlem, hp_withinE, hp_within0, if_pos, if_neg, Option.bind_some, hp_let, Sum.elim_inl, Sum.elim_inr, hp_s01, hp_s11, hp_s2, true_and, and_true, if_true, if_false, not_true_eq_false, not_false_eq_true, reduceCtorEq, H.nw]
theorem hm_hymnMany (H : hm G P τ) : f_M_hymnMany τ = some (nI (G 0 4)) := by
  unfold f_M_hymnMany
  simp (disch := first | assumption | omega) only [↓hp_neg1, hp_l0, hp_l1, hp_l2, hp_l3, hp_l4, hp_l5, hp_l6, hp_l7, hp_l8, hp_l9, hp_l10, hp_l11, hp_l12, hp_l13, hp_l14, hp_l15, hp_l16, hp_l17, hp_l18, hp_l19, hp_l20, hp_l21, hp_l22, hp_l23, hp_l24, hp_l25, hp_l26, hp_l27, hp_l28, hp_l29, hp_l30, hp_l31, hp_l32, hp_l33, hp_l34, hp_l35, hp_l36, hp_l37, hp_l38, hp_l39, hp_l40, hp_l41, hp_l42, hp_l43, hp_l44, hp_l45, hp_l46, hp_l47, hp_l48, hp_l49, hp_l50, hp_l51, hp_l52, hp_l53, hp_l54, hp_l55, hp_l56, hp_l57, hp_l58, hp_l59, hp_l60, hp_l61, hp_l62, hp_l63, hp_l64, hp_l65, hp_l66, hp_l67, hp_l68, hp_l69, hp_l70, hp_l71, hp_l72, hp_l73, hp_l74, hp_l75, hp_l76, hp_l77, hp_l78, hp_l79, hp_l80, hp_l81, hp_l82, hp_l83, hp_l84, hp_l85, hp_l86, hp_l87, hp_l88, hp_l89, hp_l90, hp_l91, hp_l92, hp_l93, hp_l94, hp_l95, hp_l96, hp_l97, hp_l98, hp_l99, hp_l100, hp_l101, hp_l102, hp_l103, hp_l104, hp_l105, hp_l106, hp_l107, hp_l108, hp_l109, hp_l110, hp_l111, hp_l112, hp_l113, hp_l114, hp_l115, hp_l116, hp_l117, hp_l118, hp_l119, hp_l120, hp_l121, hp_l122, hp_l123, hp_l124, hp_l125, hp_l126, hp_l127, hp_l141, hp_l142, hp_l150, hp_l151, hp_l152, hp_l153, hp_l251, hp_l255, hp_l256, hp_l300, hp_l432, hp_l864, hp_l1000, hp_l1600, hp_l1700, hp_l2304, hp_l2916, hp_l3000, hp_l9999, hp_l10000, nI_add, pk_mul, nI_clamp, hl_lt, hl_le, hl_eq, hl_nIb, hl_nsub, hp_eqm, hp_meq, hp_ltm, hp_mlt, hp_lem, hp_mle, hp_addm, hp_meqm, hp_mlem, hp_withinE, hp_within0, if_pos, if_neg, Option.bind_some, hp_let, Sum.elim_inl, Sum.elim_inr, hp_s01, hp_s11, hp_s2, true_and, and_true, if_true, if_false, not_true_eq_false, not_false_eq_true, reduceCtorEq, H.nh]
theorem hm_cells0 (H : hm0 G P τ) : f_M_cells τ = nI (hp_C G) := by
  unfold f_M_cells hp_C
  rw [H.W, H.H, pk_mul]
theorem hm_cells (H : hm G P τ) : f_M_cells τ = nI (hp_C G) := hm_cells0 H.z 
theorem hm_lampOf (H : hm G P τ) (hp : p < G 0 2) : f_M_lampOf (nI p) τ = some (nI (P 0 p)) := by
  have := H.wg.np
  unfold f_M_lampOf
  simp (disch := first | assumption | omega) only [↓hp_neg1, hp_l0, hp_l1, hp_l2, hp_l3, hp_l4, hp_l5, hp_l6, hp_l7, hp_l8, hp_l9, hp_l10, hp_l11, hp_l12, hp_l13, hp_l14, hp_l15, hp_l16, hp_l17, hp_l18, hp_l19, hp_l20, hp_l21, hp_l22, hp_l23, hp_l24, hp_l25, hp_l26, hp_l27, hp_l28, hp_l29, hp_l30, hp_l31, hp_l32, hp_l33, hp_l34, hp_l35, hp_l36, hp_l37, hp_l38, hp_l39, hp_l40, hp_l41, hp_l42, hp_l43, hp_l44, hp_l45, hp_l46, hp_l47, hp_l48, hp_l49, hp_l50, hp_l51, hp_l52, hp_l53, hp_l54, hp_l55, hp_l56, hp_l57, hp_l58, hp_l59, hp_l60, hp_l61, hp_l62, hp_l63, hp_l64, hp_l65, hp_l66, hp_l67, hp_l68, hp_l69, hp_l70, hp_l71, hp_l72, hp_l73, hp_l74, hp_l75, hp_l76, hp_l77, hp_l78, hp_l79, hp_l80, hp_l81, hp_l82, hp_l83, hp_l84, hp_l85, hp_l86, hp_l87, hp_l88, hp_l89, hp_l90, hp_l91, hp_l92, hp_l93, hp_l94, hp_l95, hp_l96, hp_l97, hp_l98, hp_l99, hp_l100, hp_l101, hp_l102, hp_l103, hp_l104, hp_l105, hp_l106, hp_l107, hp_l108, hp_l109, hp_l110, hp_l111, hp_l112, hp_l113, hp_l114, hp_l115, hp_l116, hp_l117, hp_l118, hp_l119, hp_l120, hp_l121, hp_l122, hp_l123, hp_l124, hp_l125, hp_l126, hp_l127, hp_l141, hp_l142, hp_l150, hp_l151, hp_l152, hp_l153, hp_l251, hp_l255, hp_l256, hp_l300, hp_l432, hp_l864, hp_l1000, hp_l1600, hp_l1700, hp_l2304, hp_l2916, hp_l3000, hp_l9999, hp_l10000, nI_add, pk_mul, nI_clamp, hl_lt, hl_le, hl_eq, hl_nIb, hl_nsub, hp_eqm, hp_meq, hp_ltm, hp_mlt, hp_lem, hp_mle, hp_addm, hp_meqm, hp_mlem, hp_withinE, hp_within0, if_pos, if_neg, Option.bind_some, hp_let, Sum.elim_inl, Sum.elim_inr, hp_s01, hp_s11, hp_s2, true_and, and_true, if_true, if_false, not_true_eq_false, not_false_eq_true, reduceCtorEq, H.lamp]
theorem hm_stepMany0 (H : hm0 G P τ) (hp : p < G 0 2) : f_M_stepMany (nI p) τ = some (nI (P 1 p)) := by
  have := H.wg.np
  unfold f_M_stepMany
  simp (disch := first | assumption | omega) only [↓hp_neg1, hp_l0, hp_l1, hp_l2, hp_l3, hp_l4, hp_l5, hp_l6, hp_l7, hp_l8, hp_l9, hp_l10, hp_l11, hp_l12, hp_l13, hp_l14, hp_l15, hp_l16, hp_l17, hp_l18, hp_l19, hp_l20, hp_l21, hp_l22, hp_l23, hp_l24, hp_l25, hp_l26, hp_l27, hp_l28, hp_l29, hp_l30, hp_l31, hp_l32, hp_l33, hp_l34, hp_l35, hp_l36, hp_l37, hp_l38, hp_l39, hp_l40, hp_l41, hp_l42, hp_l43, hp_l44, hp_l45, hp_l46, hp_l47, hp_l48, hp_l49, hp_l50, hp_l51, hp_l52, hp_l53, hp_l54, hp_l55, hp_l56, hp_l57, hp_l58, hp_l59, hp_l60, hp_l61, hp_l62, hp_l63, hp_l64, hp_l65, hp_l66, hp_l67, hp_l68, hp_l69, hp_l70, hp_l71, hp_l72, hp_l73, hp_l74, hp_l75, hp_l76, hp_l77, hp_l78, hp_l79, hp_l80, hp_l81, hp_l82, hp_l83, hp_l84, hp_l85, hp_l86, hp_l87, hp_l88, hp_l89, hp_l90, hp_l91, hp_l92, hp_l93, hp_l94, hp_l95, hp_l96, hp_l97, hp_l98, hp_l99, hp_l100, hp_l101, hp_l102, hp_l103, hp_l104, hp_l105, hp_l106, hp_l107, hp_l108, hp_l109, hp_l110, hp_l111, hp_l112, hp_l113, hp_l114, hp_l115, hp_l116, hp_l117, hp_l118, hp_l119, hp_l120, hp_l121, hp_l122, hp_l123, hp_l124, hp_l125, hp_l126, hp_l127, hp_l141, hp_l142, hp_l150, hp_l151, hp_l152, hp_l153, hp_l251, hp_l255, hp_l256, hp_l300, hp_l432, hp_l864, hp_l1000, hp_l1600, hp_l1700, hp_l2304, hp_l2916, hp_l3000, hp_l9999, hp_l10000, nI_add, pk_mul, nI_clamp, hl_lt, hl_le, hl_eq, hl_nIb, hl_nsub, hp_eqm, hp_meq, hp_ltm, hp_mlt, hp_lem, hp_mle, hp_addm, hp_meqm, hp_mlem, hp_withinE, hp_within0, if_pos, if_neg, Option.bind_some, hp_let, Sum.elim_inl, Sum.elim_inr, hp_s01, hp_s11, hp_s2, true_and, and_true, if_true, if_false, not_true_eq_false, not_false_eq_true, reduceCtorEq, H.cnt]
theorem hm_stepMany (H : hm G P τ) (hp : p < G 0 2) : f_M_stepMany (nI p) τ = some (nI (P 1 p)) := hm_stepMany0 H.z hp
theorem hm_stepIn0 (H : hm0 G P τ) (hp : p < G 0 2) (hb : b < 1000) : f_M_stepIn (nI p) (nI (b + 1)) τ = some (nI (P (2 + p) (b % P 1 p))) := by
  have := H.wg.np
  obtain ⟨_, h1, h2, h3⟩ := H.wp p hp
  have hm : b % P 1 p < P 1 p := Nat.mod_lt _ (by omega)
  unfold f_M_stepIn
  rw [hm_stepMany0 H hp, Option.bind_some, if_neg (by first | omega | (simp (disch := first | assumption | omega) only [↓hp_neg1, hp_l0, hp_l1, hp_l2, hp_l3, hp_l4, hp_l5, hp_l6, hp_l7, hp_l8, hp_l9, hp_l10, hp_l11, hp_l12, hp_l13, hp_l14, hp_l15, hp_l16, hp_l17, hp_l18, hp_l19, hp_l20, hp_l21, hp_l22, hp_l23, hp_l24, hp_l25, hp_l26, hp_l27, hp_l28, hp_l29, hp_l30, hp_l31, hp_l32, hp_l33, hp_l34, hp_l35, hp_l36, hp_l37, hp_l38, hp_l39, hp_l40, hp_l41, hp_l42, hp_l43, hp_l44, hp_l45, hp_l46, hp_l47, hp_l48, hp_l49, hp_l50, hp_l51, hp_l52, hp_l53, hp_l54, hp_l55, hp_l56, hp_l57, hp_l58, hp_l59, hp_l60, hp_l61, hp_l62, hp_l63, hp_l64, hp_l65, hp_l66, hp_l67, hp_l68, hp_l69, hp_l70, hp_l71, hp_l72, hp_l73, hp_l74, hp_l75, hp_l76, hp_l77, hp_l78, hp_l79, hp_l80, hp_l81, hp_l82, hp_l83, hp_l84, hp_l85, hp_l86, hp_l87, hp_l88, hp_l89, hp_l90, hp_l91, hp_l92, hp_l93, hp_l94, hp_l95, hp_l96, hp_l97, hp_l98, hp_l99, hp_l100, hp_l101, hp_l102, hp_l103, hp_l104, hp_l105, hp_l106, hp_l107, hp_l108, hp_l109, hp_l110, hp_l111, hp_l112, hp_l113, hp_l114, hp_l115, hp_l116, hp_l117, hp_l118, hp_l119, hp_l120, hp_l121, hp_l122, hp_l123, hp_l124, hp_l125, hp_l126, hp_l127, hp_l141, hp_l142, hp_l150, hp_l151, hp_l152, hp_l153, hp_l251, hp_l255, hp_l256, hp_l300, hp_l432, hp_l864, hp_l1000, hp_l1600, hp_l1700, hp_l2304, hp_l2916, hp_l3000, hp_l9999, hp_l10000, nI_add, pk_mul, nI_clamp, hl_lt, hl_le, hl_eq, hl_nIb, hl_nsub, hp_eqm, hp_meq, hp_ltm, hp_mlt, hp_lem, hp_mle, hp_addm, hp_meqm, hp_mlem, hp_withinE, hp_within0, if_pos, if_neg, Option.bind_some, hp_let, Sum.elim_inl, Sum.elim_inr, hp_s01, hp_s11, hp_s2, true_and, and_true, if_true, if_false, not_true_eq_false, not_false_eq_true, reduceCtorEq] <;> omega)), nI_pred, pk_rem (by omega) (by omega) (by omega)]
  simp (disch := first | assumption | omega) only [↓hp_neg1, hp_l0, hp_l1, hp_l2, hp_l3, hp_l4, hp_l5, hp_l6, hp_l7, hp_l8, hp_l9, hp_l10, hp_l11, hp_l12, hp_l13, hp_l14, hp_l15, hp_l16, hp_l17, hp_l18, hp_l19, hp_l20, hp_l21, hp_l22, hp_l23, hp_l24, hp_l25, hp_l26, hp_l27, hp_l28, hp_l29, hp_l30, hp_l31, hp_l32, hp_l33, hp_l34, hp_l35, hp_l36, hp_l37, hp_l38, hp_l39, hp_l40, hp_l41, hp_l42, hp_l43, hp_l44, hp_l45, hp_l46, hp_l47, hp_l48, hp_l49, hp_l50, hp_l51, hp_l52, hp_l53, hp_l54, hp_l55, hp_l56, hp_l57, hp_l58, hp_l59, hp_l60, hp_l61, hp_l62, hp_l63, hp_l64, hp_l65, hp_l66, hp_l67, hp_l68, hp_l69, hp_l70, hp_l71, hp_l72, hp_l73, hp_l74, hp_l75, hp_l76, hp_l77, hp_l78, hp_l79, hp_l80, hp_l81, hp_l82, hp_l83, hp_l84, hp_l85, hp_l86, hp_l87, hp_l88, hp_l89, hp_l90, hp_l91, hp_l92, hp_l93, hp_l94, hp_l95, hp_l96, hp_l97, hp_l98, hp_l99, hp_l100, hp_l101, hp_l102, hp_l103, hp_l104, hp_l105, hp_l106, hp_l107, hp_l108, hp_l109, hp_l110, hp_l111, hp_l112, hp_l113, hp_l114, hp_l115, hp_l116, hp_l117, hp_l118, hp_l119, hp_l120, hp_l121, hp_l122, hp_l123, hp_l124, hp_l125, hp_l126, hp_l127, hp_l141, hp_l142, hp_l150, hp_l151, hp_l152, hp_l153, hp_l251, hp_l255, hp_l256, hp_l300, hp_l432, hp_l864, hp_l1000, hp_l1600, hp_l1700, hp_l2304, hp_l2916, hp_l3000, hp_l9999, hp_l10000, nI_add, pk_mul, nI_clamp, hl_lt, hl_le, hl_eq, hl_nIb, hl_nsub, hp_eqm, hp_meq, hp_ltm, hp_mlt, hp_lem, hp_mle, hp_addm, hp_meqm, hp_mlem, hp_withinE, hp_within0, if_pos, if_neg, Option.bind_some, hp_let, Sum.elim_inl, Sum.elim_inr, hp_s01, hp_s11, hp_s2, true_and, and_true, if_true, if_false, not_true_eq_false, not_false_eq_true, reduceCtorEq, H.step]
theorem hm_stepIn (H : hm G P τ) (hp : p < G 0 2) (hb : b < 1000) : f_M_stepIn (nI p) (nI (b + 1)) τ = some (nI (P (2 + p) (b % P 1 p))) := hm_stepIn0 H.z hp hb
theorem hm_whereIn (H : hm G P τ) (hp : p < G 0 2) (hb : b < 100) : f_M_whereIn (nI p) (nI b) τ = some (nI (hp_wh G P p b)) := by
  have := H.wg.np
  unfold f_M_whereIn
  simp (disch := first | assumption | omega) only [↓hp_neg1, hp_l0, hp_l1, hp_l2, hp_l3, hp_l4, hp_l5, hp_l6, hp_l7, hp_l8, hp_l9, hp_l10, hp_l11, hp_l12, hp_l13, hp_l14, hp_l15, hp_l16, hp_l17, hp_l18, hp_l19, hp_l20, hp_l21, hp_l22, hp_l23, hp_l24, hp_l25, hp_l26, hp_l27, hp_l28, hp_l29, hp_l30, hp_l31, hp_l32, hp_l33, hp_l34, hp_l35, hp_l36, hp_l37, hp_l38, hp_l39, hp_l40, hp_l41, hp_l42, hp_l43, hp_l44, hp_l45, hp_l46, hp_l47, hp_l48, hp_l49, hp_l50, hp_l51, hp_l52, hp_l53, hp_l54, hp_l55, hp_l56, hp_l57, hp_l58, hp_l59, hp_l60, hp_l61, hp_l62, hp_l63, hp_l64, hp_l65, hp_l66, hp_l67, hp_l68, hp_l69, hp_l70, hp_l71, hp_l72, hp_l73, hp_l74, hp_l75, hp_l76, hp_l77, hp_l78, hp_l79, hp_l80, hp_l81, hp_l82, hp_l83, hp_l84, hp_l85, hp_l86, hp_l87, hp_l88, hp_l89, hp_l90, hp_l91, hp_l92, hp_l93, hp_l94, hp_l95, hp_l96, hp_l97, hp_l98, hp_l99, hp_l100, hp_l101, hp_l102, hp_l103, hp_l104, hp_l105, hp_l106, hp_l107, hp_l108, hp_l109, hp_l110, hp_l111, hp_l112, hp_l113, hp_l114, hp_l115, hp_l116, hp_l117, hp_l118, hp_l119, hp_l120, hp_l121, hp_l122, hp_l123, hp_l124, hp_l125, hp_l126, hp_l127, hp_l141, hp_l142, hp_l150, hp_l151, hp_l152, hp_l153, hp_l251, hp_l255, hp_l256, hp_l300, hp_l432, hp_l864, hp_l1000, hp_l1600, hp_l1700, hp_l2304, hp_l2916, hp_l3000, hp_l9999, hp_l10000, nI_add, pk_mul, nI_clamp, hl_lt, hl_le, hl_eq, hl_nIb, hl_nsub, hp_eqm, hp_meq, hp_ltm, hp_mlt, hp_lem, hp_mle, hp_addm, hp_meqm, hp_mlem, hp_withinE, hp_within0, if_pos, if_neg, Option.bind_some, hp_let, Sum.elim_inl, Sum.elim_inr, hp_s01, hp_s11, hp_s2, true_and, and_true, if_true, if_false, not_true_eq_false, not_false_eq_true, reduceCtorEq, H.wh]
theorem hm_isPerson (H : hm G P τ) (x : Int32) : f_M_isPerson x τ = some (f_M_isIn x.toInt64 0 ((nI (G 0 2) - 1).toInt64)) := by
  unfold f_M_isPerson
  rw [hm_personMany H, Option.bind_some]
  have := H.wg.np
  rcases hp_guard x (n := G 0 2) (by omega) with ⟨j, _, _, _, h⟩ | ⟨_, h, _⟩
  · rw [h, hp_boolN (.inr rfl)]
  · rw [h, hp_boolN (.inl rfl)]
theorem hm_isWord (H : hm G P τ) (x : Int32) : f_M_isWord x τ = some (f_M_isIn x.toInt64 0 ((nI (G 0 3) - 1).toInt64)) := by
  unfold f_M_isWord
  rw [hm_wordMany H, Option.bind_some]
  have := H.wg.nw
  rcases hp_guard x (n := G 0 3) (by omega) with ⟨j, _, _, _, h⟩ | ⟨_, h, _⟩
  · rw [h, hp_boolN (.inr rfl)]
  · rw [h, hp_boolN (.inl rfl)]
theorem hm_isCell (H : hm G P τ) (x : Int32) : f_M_isCell x τ = f_M_isIn x.toInt64 0 ((nI (hp_C G) - 1).toInt64) := by
  unfold f_M_isCell
  rw [hm_cells H]
  have := H.wg.C
  rcases hp_guard x (n := hp_C G) (by omega) with ⟨j, _, _, _, h⟩ | ⟨_, h, _⟩
  · rw [h, hp_boolN (.inr rfl)]
  · rw [h, hp_boolN (.inl rfl)]
theorem hm_isBeat (x : Int32) : f_M_isBeat x = f_M_isIn x.toInt64 0 ((nI 100 - 1).toInt64) := by
  unfold f_M_isBeat
  rw [show (99 : Int64) = (nI 100 - 1).toInt64 by decide]
  rcases hp_guard x (n := 100) (by omega) with ⟨j, _, _, _, h⟩ | ⟨_, h, _⟩
  · rw [h, hp_boolN (.inr rfl)]
  · rw [h, hp_boolN (.inl rfl)]
/-! a step -/
theorem hm_stepped0 (H : hm0 G P τ) (hc : c < hp_C G) (hs : s < 5) : f_M_stepped (nI c) (nI s) τ = some (nI (hp_nx G c s)) := by
  obtain ⟨w3, h3⟩ := H.wg.W0 hc
  have w9 := H.wg.W
  have h6 := H.wg.H
  have hC := H.wg.C
  have hto := hp_to_lt (s := s) hc
  have eC : hp_C G = G 0 0 * G 0 1 := rfl
  have ed := Nat.div_add_mod c (G 0 0)
  have hm : c % G 0 0 < G 0 0 := Nat.mod_lt _ (by omega)
  have hd : c / G 0 0 < G 0 1 := Nat.div_lt_of_lt_mul hc
  have out1 : ∀ (x s0 s1 : Int32), (x < 0 ∨ nI (G 0 0) ≤ x) → f_M_stepped_j51 (nI c) x s0 s1 τ = some (nI c) := by
    intro x s0 s1 h
    unfold f_M_stepped_j51
    rw [H.W, hp_isIn0 (by omega) h, if_pos rfl]
  have out2 : ∀ (x : Nat) (s0 s1 : Int32), x < G 0 0 → (s1 + s0 < 0 ∨ nI (G 0 1) ≤ s1 + s0) → f_M_stepped_j51 (nI c) (nI x) s0 s1 τ = some (nI c) := by
    intro x s0 s1 hx h
    unfold f_M_stepped_j51
    rw [H.W, hp_isIn1 hx (by omega), if_neg (by decide), H.H, hp_isIn0 (by omega) h, if_pos rfl]
  have go : ∀ (x y : Nat) (s0 s1 : Int32), x < G 0 0 → y < G 0 1 → s1 + s0 = nI y → G 0 0 * y + x = hp_to G c s → f_M_stepped_j51 (nI c) (nI x) s0 s1 τ = some (nI (hp_nx G c s)) := by
    intro x y s0 s1 hx hy e1 e2
    unfold f_M_stepped_j51
    have hw := H.wall (c := hp_to G c s) (by omega)
    have hwl := H.wg.wall (hp_to G c s)
    rw [H.W, hp_isIn1 hx (by omega), if_neg (by decide), H.H, e1, hp_isIn1 hy (by omega), if_neg (by decide), pk_mul, nI_add, e2]
    rw [if_pos (by first | omega | (simp (disch := first | assumption | omega) only [↓hp_neg1, hp_l0, hp_l1, hp_l2, hp_l3, hp_l4, hp_l5, hp_l6, hp_l7, hp_l8, hp_l9, hp_l10, hp_l11, hp_l12, hp_l13, hp_l14, hp_l15, hp_l16, hp_l17, hp_l18, hp_l19, hp_l20, hp_l21, hp_l22, hp_l23, hp_l24, hp_l25, hp_l26, hp_l27, hp_l28, hp_l29, hp_l30, hp_l31, hp_l32, hp_l33, hp_l34, hp_l35, hp_l36, hp_l37, hp_l38, hp_l39, hp_l40, hp_l41, hp_l42, hp_l43, hp_l44, hp_l45, hp_l46, hp_l47, hp_l48, hp_l49, hp_l50, hp_l51, hp_l52, hp_l53, hp_l54, hp_l55, hp_l56, hp_l57, hp_l58, hp_l59, hp_l60, hp_l61, hp_l62, hp_l63, hp_l64, hp_l65, hp_l66, hp_l67, hp_l68, hp_l69, hp_l70, hp_l71, hp_l72, hp_l73, hp_l74, hp_l75, hp_l76, hp_l77, hp_l78, hp_l79, hp_l80, hp_l81, hp_l82, hp_l83, hp_l84, hp_l85, hp_l86, hp_l87, hp_l88, hp_l89, hp_l90, hp_l91, hp_l92, hp_l93, hp_l94, hp_l95, hp_l96, hp_l97, hp_l98, hp_l99, hp_l100, hp_l101, hp_l102, hp_l103, hp_l104, hp_l105, hp_l106, hp_l107, hp_l108, hp_l109, hp_l110, hp_l111, hp_l112, hp_l113, hp_l114, hp_l115, hp_l116, hp_l117, hp_l118, hp_l119, hp_l120, hp_l121, hp_l122, hp_l123, hp_l124, hp_l125, hp_l126, hp_l127, hp_l141, hp_l142, hp_l150, hp_l151, hp_l152, hp_l153, hp_l251, hp_l255, hp_l256, hp_l300, hp_l432, hp_l864, hp_l1000, hp_l1600, hp_l1700, hp_l2304, hp_l2916, hp_l3000, hp_l9999, hp_l10000, nI_add, pk_mul, nI_clamp, hl_lt, hl_le, hl_eq, hl_nIb, hl_nsub, hp_eqm, hp_meq, hp_ltm, hp_mlt, hp_lem, hp_mle, hp_addm, hp_meqm, hp_mlem, hp_withinE, hp_within0, if_pos, if_neg, Option.bind_some, hp_let, Sum.elim_inl, Sum.elim_inr, hp_s01, hp_s11, hp_s2, true_and, and_true, if_true, if_false, not_true_eq_false, not_false_eq_true, reduceCtorEq] <;> omega)), show (54 : Int32) = nI 54 from rfl, nI_add, nI_clamp (by omega), hw]
    unfold hp_nx
    by_cases e : G 1 (hp_to G c s) = 0
    · rw [if_pos e, if_pos (by rw [e]; rfl)]
    · rw [if_neg e, if_neg (by first | omega | (simp (disch := first | assumption | omega) only [↓hp_neg1, hp_l0, hp_l1, hp_l2, hp_l3, hp_l4, hp_l5, hp_l6, hp_l7, hp_l8, hp_l9, hp_l10, hp_l11, hp_l12, hp_l13, hp_l14, hp_l15, hp_l16, hp_l17, hp_l18, hp_l19, hp_l20, hp_l21, hp_l22, hp_l23, hp_l24, hp_l25, hp_l26, hp_l27, hp_l28, hp_l29, hp_l30, hp_l31, hp_l32, hp_l33, hp_l34, hp_l35, hp_l36, hp_l37, hp_l38, hp_l39, hp_l40, hp_l41, hp_l42, hp_l43, hp_l44, hp_l45, hp_l46, hp_l47, hp_l48, hp_l49, hp_l50, hp_l51, hp_l52, hp_l53, hp_l54, hp_l55, hp_l56, hp_l57, hp_l58, hp_l59, hp_l60, hp_l61, hp_l62, hp_l63, hp_l64, hp_l65, hp_l66, hp_l67, hp_l68, hp_l69, hp_l70, hp_l71, hp_l72, hp_l73, hp_l74, hp_l75, hp_l76, hp_l77, hp_l78, hp_l79, hp_l80, hp_l81, hp_l82, hp_l83, hp_l84, hp_l85, hp_l86, hp_l87, hp_l88, hp_l89, hp_l90, hp_l91, hp_l92, hp_l93, hp_l94, hp_l95, hp_l96, hp_l97, hp_l98, hp_l99, hp_l100, hp_l101, hp_l102, hp_l103, hp_l104, hp_l105, hp_l106, hp_l107, hp_l108, hp_l109, hp_l110, hp_l111, hp_l112, hp_l113, hp_l114, hp_l115, hp_l116, hp_l117, hp_l118, hp_l119, hp_l120, hp_l121, hp_l122, hp_l123, hp_l124, hp_l125, hp_l126, hp_l127, hp_l141, hp_l142, hp_l150, hp_l151, hp_l152, hp_l153, hp_l251, hp_l255, hp_l256, hp_l300, hp_l432, hp_l864, hp_l1000, hp_l1600, hp_l1700, hp_l2304, hp_l2916, hp_l3000, hp_l9999, hp_l10000, nI_add, pk_mul, nI_clamp, hl_lt, hl_le, hl_eq, hl_nIb, hl_nsub, hp_eqm, hp_meq, hp_ltm, hp_mlt, hp_lem, hp_mle, hp_addm, hp_meqm, hp_mlem, hp_withinE, hp_within0, if_pos, if_neg, Option.bind_some, hp_let, Sum.elim_inl, Sum.elim_inr, hp_s01, hp_s11, hp_s2, true_and, and_true, if_true, if_false, not_true_eq_false, not_false_eq_true, reduceCtorEq] <;> omega))]
  have stay : hp_to G c s = c → nI c = nI (hp_nx G c s) := by
    intro e
    unfold hp_nx
    rw [e]
    split <;> rfl
  have hup : G 0 0 ≤ c ↔ 0 < c / G 0 0 := by rw [Nat.div_pos_iff]; omega
  have hdn : c + G 0 0 < hp_C G ↔ c / G 0 0 + 1 < G 0 1 := by
    rw [eC]
    constructor
    · intro h
      have h2 : G 0 0 * (c / G 0 0 + 1) < G 0 0 * G 0 1 := by rw [Nat.mul_add]; omega
      exact Nat.lt_of_mul_lt_mul_left h2
    · intro h
      have h2 : G 0 0 * (c / G 0 0 + 1 + 1) ≤ G 0 0 * G 0 1 := Nat.mul_le_mul_left _ h
      rw [Nat.mul_add, Nat.mul_add] at h2
      omega
  have z0 : ∀ a : Nat, nI a + 0 = nI a := fun a => by rw [show (0 : Int32) = nI 0 from rfl, nI_add, Nat.add_zero]
  have hW0 : ¬ τ.1 64 30 = 0 := by rw [H.W]; first | omega | (simp (disch := first | assumption | omega) only [↓hp_neg1, hp_l0, hp_l1, hp_l2, hp_l3, hp_l4, hp_l5, hp_l6, hp_l7, hp_l8, hp_l9, hp_l10, hp_l11, hp_l12, hp_l13, hp_l14, hp_l15, hp_l16, hp_l17, hp_l18, hp_l19, hp_l20, hp_l21, hp_l22, hp_l23, hp_l24, hp_l25, hp_l26, hp_l27, hp_l28, hp_l29, hp_l30, hp_l31, hp_l32, hp_l33, hp_l34, hp_l35, hp_l36, hp_l37, hp_l38, hp_l39, hp_l40, hp_l41, hp_l42, hp_l43, hp_l44, hp_l45, hp_l46, hp_l47, hp_l48, hp_l49, hp_l50, hp_l51, hp_l52, hp_l53, hp_l54, hp_l55, hp_l56, hp_l57, hp_l58, hp_l59, hp_l60, hp_l61, hp_l62, hp_l63, hp_l64, hp_l65, hp_l66, hp_l67, hp_l68, hp_l69, hp_l70, hp_l71, hp_l72, hp_l73, hp_l74, hp_l75, hp_l76, hp_l77, hp_l78, hp_l79, hp_l80, hp_l81, hp_l82, hp_l83, hp_l84, hp_l85, hp_l86, hp_l87, hp_l88, hp_l89, hp_l90, hp_l91, hp_l92, hp_l93, hp_l94, hp_l95, hp_l96, hp_l97, hp_l98, hp_l99, hp_l100, hp_l101, hp_l102, hp_l103, hp_l104, hp_l105, hp_l106, hp_l107, hp_l108, hp_l109, hp_l110, hp_l111, hp_l112, hp_l113, hp_l114, hp_l115, hp_l116, hp_l117, hp_l118, hp_l119, hp_l120, hp_l121, hp_l122, hp_l123, hp_l124, hp_l125, hp_l126, hp_l127, hp_l141, hp_l142, hp_l150, hp_l151, hp_l152, hp_l153, hp_l251, hp_l255, hp_l256, hp_l300, hp_l432, hp_l864, hp_l1000, hp_l1600, hp_l1700, hp_l2304, hp_l2916, hp_l3000, hp_l9999, hp_l10000, nI_add, pk_mul, nI_clamp, hl_lt, hl_le, hl_eq, hl_nIb, hl_nsub, hp_eqm, hp_meq, hp_ltm, hp_mlt, hp_lem, hp_mle, hp_addm, hp_meqm, hp_mlem, hp_withinE, hp_within0, if_pos, if_neg, Option.bind_some, hp_let, Sum.elim_inl, Sum.elim_inr, hp_s01, hp_s11, hp_s2, true_and, and_true, if_true, if_false, not_true_eq_false, not_false_eq_true, reduceCtorEq] <;> omega)
  unfold f_M_stepped
  rw [if_neg hW0, H.W, pk_rem (by omega) (by omega) (by omega)]
  match s, hs with
  | 0, _ =>
    rw [if_neg (by decide), if_neg (by decide)]
    unfold f_M_stepped_j25
    rw [if_neg hW0, if_neg (by decide), if_pos (by decide), H.W, pk_div (by omega) (by omega) (by omega), z0]
    by_cases e : 0 < c / G 0 0
    · apply go _ (c / G 0 0 - 1) _ _ hm (by omega) (hp_addm e)
      unfold hp_to
      rw [if_pos rfl, if_pos (hup.mpr e), Nat.mul_sub, Nat.mul_one]
      have := hup.mpr e
      have h2 : G 0 0 * 1 ≤ G 0 0 * (c / G 0 0) := Nat.mul_le_mul_left _ e
      omega
    · rw [out2 _ _ _ hm (by rw [Nat.eq_zero_of_not_pos e]; exact .inl (by decide)), ← stay]
      unfold hp_to
      rw [if_pos rfl, if_neg (fun z => e (hup.mp z))]
  | 1, _ =>
    rw [if_pos (by decide)]
    unfold f_M_stepped_j25
    rw [if_neg hW0, if_neg (by decide), if_neg (by decide), H.W, pk_div (by omega) (by omega) (by omega), show (1 : Int32) = nI 1 from rfl, nI_add]
    by_cases e : c % G 0 0 + 1 < G 0 0
    · apply go _ _ _ _ e hd (z0 _)
      unfold hp_to
      rw [if_neg (by decide), if_pos rfl, if_pos e]
      omega
    · rw [out1 _ _ _ (.inr (nI_le (by omega) (by omega))), ← stay]
      unfold hp_to
      rw [if_neg (by decide), if_pos rfl, if_neg e]
  | 2, _ =>
    rw [if_neg (by decide), if_neg (by decide)]
    unfold f_M_stepped_j25
    rw [if_neg hW0, if_pos (by decide), H.W, pk_div (by omega) (by omega) (by omega), z0]
    by_cases e : c / G 0 0 + 1 < G 0 1
    · apply go _ _ _ _ hm e (show nI (c / G 0 0) + 1 = _ from nI_1 _)
      unfold hp_to
      rw [if_neg (by decide), if_neg (by decide), if_pos rfl, if_pos (hdn.mpr e), Nat.mul_add, Nat.mul_one]
      omega
    · rw [out2 _ _ _ hm (by rw [nI_1]; exact .inr (nI_le (by omega) (by omega))), ← stay]
      unfold hp_to
      rw [if_neg (by decide), if_neg (by decide), if_pos rfl, if_neg (fun z => e (hdn.mp z))]
  | 3, _ =>
    rw [if_neg (by decide), if_pos (by decide)]
    unfold f_M_stepped_j25
    rw [if_neg hW0, if_neg (by decide), if_neg (by decide), H.W, pk_div (by omega) (by omega) (by omega)]
    by_cases e : 0 < c % G 0 0
    · rw [show (-1 : Int32) = hp_m1 from rfl, hp_addm e]
      apply go _ _ _ _ (by omega) hd (z0 _)
      unfold hp_to
      rw [if_neg (by decide), if_neg (by decide), if_neg (by decide), if_pos rfl, if_pos e]
      omega
    · rw [out1 _ _ _ (by rw [Nat.eq_zero_of_not_pos e]; exact .inl (by decide)), ← stay]
      unfold hp_to
      rw [if_neg (by decide), if_neg (by decide), if_neg (by decide), if_pos rfl, if_neg e]
  | 4, _ =>
    rw [if_neg (by decide), if_neg (by decide)]
    unfold f_M_stepped_j25
    rw [if_neg hW0, if_neg (by decide), if_neg (by decide), H.W, pk_div (by omega) (by omega) (by omega), z0]
    apply go _ _ _ _ hm hd (z0 _)
    unfold hp_to
    rw [if_neg (by decide), if_neg (by decide), if_neg (by decide), if_neg (by decide)]
    omega
theorem hm_stepped (H : hm G P τ) (hc : c < hp_C G) (hs : s < 5) : f_M_stepped (nI c) (nI s) τ = some (nI (hp_nx G c s)) := hm_stepped0 H.z hc hs
end HM
