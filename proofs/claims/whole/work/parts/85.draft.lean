/-! the ground that a text tells: class at 14, model told half -/
def q_D (G P : hp_G) (σ τ : hl_M) : Prop := hp_wg G ∧ hp_wp G P ∧ 3 ≤ G 0 0 ∧ hx_g 14 G σ ∧ hx_p 14 G P σ ∧ hm_g 0 G τ ∧ hm_p 78 0 G P τ
def hx_DD (q _f : Nat) : Prop := q = 3 ∨ q = 24
def hm_DD (G : hp_G) (q f : Nat) : Prop := hm_FD q f ∨ (q = 64 ∧ (f = 22 ∨ f = 29)) ∨ (q = 79 ∧ 54 * G 0 3 ≤ f) ∨ (q = 78 ∧ 15 * G 0 2 ≤ f)
section DRAFT
variable {G P : hp_G} {σ τ σ' τ' υ : hl_M} {n a s t k c j v z m m' : Nat} {b l l' : Nat → Nat} {W : List Nat}
theorem hx_g14 {o : Nat} (ho : o = 14) (H : hx_g o G σ) (F : hp_fr hx_DD σ σ') : hx_g o G σ' := by
  subst ho
  obtain ⟨⟨a1, a2, a3, a4, a5⟩, a6, a7, a8, a9⟩ := H
  have e : ∀ q f, 14 ≤ q → q ≤ 23 → σ'.1 q f = σ.1 q f ∧ σ'.2 q f = σ.2 q f := fun q f h1 h2 => F q f (by unfold hx_DD; omega)
  refine ⟨⟨by rw [(e _ _ (by omega) (by omega)).1]; exact a1, by rw [(e _ _ (by omega) (by omega)).1]; exact a2, by rw [(e _ _ (by omega) (by omega)).1]; exact a3, by rw [(e _ _ (by omega) (by omega)).1]; exact a4, by rw [(e _ _ (by omega) (by omega)).1]; exact a5⟩, by rw [(e _ _ (by omega) (by omega)).2]; exact a6, fun p hp => ?_, fun w hw => ?_, fun h hh => ?_⟩
  · rw [(e _ _ (by omega) (by omega)).1, (e _ _ (by omega) (by omega)).1]; exact a7 p hp
  · rw [(e _ _ (by omega) (by omega)).1, (e _ _ (by omega) (by omega)).2, (e _ _ (by omega) (by omega)).2]; exact a8 w hw
  · rw [(e _ _ (by omega) (by omega)).1, (e _ _ (by omega) (by omega)).1]; exact a9 h hh
theorem q_D.fr (D : q_D G P σ τ) (FX : hp_fr hx_DD σ σ') (FM : hp_fr (hm_DD G) τ τ') : q_D G P σ' τ' := by
  obtain ⟨wg, wp, w3, xg, xp, ⟨⟨a1, a2, a3, a4, a5⟩, a6, a7, a8, a9⟩, mp⟩ := D
  refine ⟨wg, wp, w3, hx_g14 rfl xg FX, fun p hp => ?_, ⟨⟨?_, ?_, ?_, ?_, ?_⟩, fun c hc => ?_, fun p hp => ?_, fun w hw => ⟨?_, fun c hc => ?_⟩, fun i hi => ⟨?_, ?_⟩⟩, fun p hp => ⟨?_, ?_, ?_, fun k hk => ?_⟩⟩
  · rw [FX.i (by unfold hx_DD; omega), FX.l (by unfold hx_DD; omega)]; exact xp p hp
  · rw [FM.i (by unfold hm_DD hm_FD; omega)]; exact a1
  · rw [FM.i (by unfold hm_DD hm_FD; omega)]; exact a2
  · rw [FM.i (by unfold hm_DD hm_FD; omega)]; exact a3
  · rw [FM.i (by unfold hm_DD hm_FD; omega)]; exact a4
  · rw [FM.i (by unfold hm_DD hm_FD; omega)]; exact a5
  · rw [FM.i (by unfold hm_DD hm_FD; omega)]; exact a6 c hc
  · rw [FM.l (by unfold hm_DD hm_FD; omega)]; exact a7 p hp
  · rw [FM.l (by unfold hm_DD hm_FD; omega)]; exact (a8 w hw).1
  · rw [FM.i (by unfold hm_DD hm_FD; omega)]; exact (a8 w hw).2 c hc
  · rw [FM.i (by unfold hm_DD hm_FD; omega)]; exact (a9 i hi).1
  · rw [FM.i (by unfold hm_DD hm_FD; omega)]; exact (a9 i hi).2
  · rw [FM.i (by unfold hm_DD hm_FD; omega)]; exact (mp p hp).1
  · rw [FM.i (by unfold hm_DD hm_FD; omega)]; exact (mp p hp).2.1
  · rw [FM.i (by unfold hm_DD hm_FD; omega)]; exact (mp p hp).2.2.1
  · have := (wp p hp).2.2.1
    rw [FM.i (by unfold hm_DD hm_FD; omega)]; exact (mp p hp).2.2.2 k hk
theorem hx_FD_DD : ∀ q f, hx_FD q f → hx_DD q f := fun q f h => .inl h
theorem hm_FD_DD : ∀ q f, hm_FD q f → hm_DD G q f := fun q f h => .inl h
theorem q_D.fr0 (D : q_D G P σ τ) (FX : hp_fr hx_FD σ σ') (FM : hp_fr hm_FD τ τ') : q_D G P σ' τ' := D.fr (FX.mono hx_FD_DD) (FM.mono hm_FD_DD)
theorem q_ok.fr (H : q_ok n b σ τ) (h1 : ∀ f, f = 1 ∨ f = 2 ∨ f = 3 ∨ f = 4 ∨ f = 5 → σ'.1 3 f = σ.1 3 f) (h2 : ∀ f, f = 2 ∨ f = 4 ∨ f = 5 ∨ f = 6 → τ'.1 64 f = τ.1 64 f) : q_ok n b σ' τ' := by
  obtain ⟨a, s, t, S, E, h5, h3, he, h4, x2, x3, x1, x6⟩ := H
  refine ⟨a, s, t, S, E, by rw [h2 5 (by omega)]; exact h5, by rw [h2 2 (by omega)]; exact h3, by rw [h2 4 (by omega)]; exact he, by rw [h1 4 (by omega)]; exact h4, by rw [h1 2 (by omega)]; exact x2, by rw [h1 3 (by omega)]; exact x3, by rw [h1 1 (by omega), h2 4 (by omega)]; exact x1, by rw [h1 5 (by omega)]; exact x6.1, by rw [h2 6 (by omega)]; exact x6.2⟩
theorem q_no.fr (H : q_no σ τ) (h1 : ∀ f, f = 1 ∨ f = 4 ∨ f = 5 → σ'.1 3 f = σ.1 3 f) (h2 : ∀ f, f = 5 ∨ f = 6 → τ'.1 64 f = τ.1 64 f) : q_no σ' τ' := by
  obtain ⟨a1, a2, a3, a4⟩ := H
  refine ⟨by rw [h1 4 (by omega)]; exact a1, by rw [h1 4 (by omega), h2 5 (by omega)]; exact a2, by rw [h1 1 (by omega)]; exact a3, by rw [h1 5 (by omega), h2 6 (by omega)]; exact a4⟩
theorem q_ok.x (H : q_ok n b σ τ) : σ.1 3 4 = 0 ∧ τ.1 64 5 = 0 := by
  obtain ⟨a, s, t, S, E, h5, h3, he, h4, x2, x3, x1, x6⟩ := H
  exact ⟨h4, h5⟩
theorem q_no.x (H : q_no σ τ) : ¬ σ.1 3 4 = 0 ∧ ¬ τ.1 64 5 = 0 := ⟨H.1, by rw [H.2.1]; exact H.1⟩
theorem hx_failed0 (h : σ.1 3 4 = 0) : f_Rd_failed σ = 0 := by unfold f_Rd_failed; rw [if_pos h]
theorem hx_failed1 (h : ¬ σ.1 3 4 = 0) : f_Rd_failed σ = 1 := by unfold f_Rd_failed; rw [if_neg h]
theorem hp_nm (h1 : m ≤ 6) (h2 : m' ≤ 6) (hl : ∀ k, k < m → 1 ≤ l k ∧ l k ≤ 26) (hl' : ∀ k, k < m' → 1 ≤ l' k ∧ l' k ≤ 26) : nI (hp_nw l m) = nI (hp_nw l' m') ↔ lN (hp_n27 l m) = lN (hp_n27 l' m') := by
  have b1 := hp_nw_big h1 (fun j hj => by have := hl j hj; show l j < 32; omega)
  have b2 := hp_nw_big h2 (fun j hj => by have := hl' j hj; show l' j < 32; omega)
  have b3 := hp_n27_big h1 (fun j hj => by have := hl j hj; show l j < 27; omega)
  have b4 := hp_n27_big h2 (fun j hj => by have := hl' j hj; show l' j < 27; omega)
  rw [hl_eq (by omega) (by omega), fb_lN_inj (by omega) (by omega), hp_nw_inj hl hl', hp_n27_inj hl hl']
/-- a word of that name -/
theorem q_wordNamed (D : q_D G P σ τ) (h1 : m ≤ 6) (hl : ∀ k, k < m → 1 ≤ l k ∧ l k ≤ 26) : ∃ r, f_Gr_wordNamed_d (nI (hp_nw l m)) σ = some r ∧ f_M_nameOf 1 (lN (hp_n27 l m)) τ = some r ∧ (r = -1 ∨ ∃ w, w < G 0 3 ∧ r = nI w) := by
  obtain ⟨wg, wp, w3, xg, xp, mg, mp⟩ := D
  have hnw := wg.nw
  have nx : σ.1 14 8 = nI (G 0 3) := xg.1.2.2.2.1
  have nm : τ.1 75 1 = nI (G 0 3) := mg.1.2.2.2.1
  unfold f_Gr_wordNamed_d f_M_nameOf
  refine hp_simX (b := f_Gr_wordNamed_d_L2 (nI (hp_nw l m)) σ) (b' := f_M_nameOf_L3 1 (lN (hp_n27 l m)) τ) (s := 0) (s' := 0) (G 0 3) (fun j x y => x = nI j ∧ y = nI j) (fun e e' => (e = .inl () ∧ e' = .inl ()) ∨ ∃ w, w < G 0 3 ∧ e = .inr (nI w) ∧ e' = .inr (nI w)) (by omega) ⟨rfl, rfl⟩ ?_ ?_ ?_
  · intro e e' g1 g2 g3
    rw [g1, g2, Option.bind_some, Option.bind_some]
    rcases g3 with ⟨rfl, rfl⟩ | ⟨w, hw, rfl, rfl⟩
    · exact ⟨_, rfl, rfl, .inl rfl⟩
    · exact ⟨_, rfl, rfl, .inr ⟨w, hw, rfl⟩⟩
  · rintro j _ _ hj ⟨rfl, rfl⟩
    have n1 : ¬ nI (G 0 3) ≤ nI j := by first | omega | (simp (disch := first | assumption | omega) only [↓hp_neg1, hp_l0, hp_l1, hp_l2, hp_l3, hp_l4, hp_l5, hp_l6, hp_l7, hp_l8, hp_l9, hp_l10, hp_l11, hp_l12, hp_l13, hp_l14, hp_l15, hp_l16, hp_l17, hp_l18, hp_l19, hp_l20, hp_l21, hp_l22, hp_l23, hp_l24, hp_l25, hp_l26, hp_l27, hp_l28, hp_l29, hp_l30, hp_l31, hp_l32, hp_l33, hp_l34, hp_l35, hp_l36, hp_l37, hp_l38, hp_l39, hp_l40, hp_l41, hp_l42, hp_l43, hp_l44, hp_l45, hp_l46, hp_l47, hp_l48, hp_l49, hp_l50, hp_l51, hp_l52, hp_l53, hp_l54, hp_l55, hp_l56, hp_l57, hp_l58, hp_l59, hp_l60, hp_l61, hp_l62, hp_l63, hp_l64, hp_l65, hp_l66, hp_l67, hp_l68, hp_l69, hp_l70, hp_l71, hp_l72, hp_l73, hp_l74, hp_l75, hp_l76, hp_l77, hp_l78, hp_l79, hp_l80, hp_l81, hp_l82, hp_l83, hp_l84, hp_l85, hp_l86, hp_l87, hp_l88, hp_l89, hp_l90, hp_l91, hp_l92, hp_l93, hp_l94, hp_l95, hp_l96, hp_l97, hp_l98, hp_l99, hp_l100, hp_l101, hp_l102, hp_l103, hp_l104, hp_l105, hp_l106, hp_l107, hp_l108, hp_l109, hp_l110, hp_l111, hp_l112, hp_l113, hp_l114, hp_l115, hp_l116, hp_l117, hp_l118, hp_l119, hp_l120, hp_l121, hp_l122, hp_l123, hp_l124, hp_l125, hp_l126, hp_l127, hp_l141, hp_l142, hp_l150, hp_l151, hp_l152, hp_l153, hp_l251, hp_l255, hp_l256, hp_l300, hp_l432, hp_l864, hp_l1000, hp_l1600, hp_l1700, hp_l2304, hp_l2916, hp_l3000, hp_l9999, hp_l10000, nI_add, pk_mul, nI_clamp, hl_lt, hl_le, hl_eq, hl_nIb, hl_nsub, hp_eqm, hp_meq, hp_ltm, hp_mlt, hp_lem, hp_mle, hp_addm, hp_meqm, hp_mlem, hp_withinE, hp_within0, if_pos, if_neg, Option.bind_some, hp_let, Sum.elim_inl, Sum.elim_inr, hp_s01, hp_s11, hp_s2, true_and, and_true, if_true, if_false, not_true_eq_false, not_false_eq_true, reduceCtorEq] <;> omega)
    obtain ⟨w1, w2, w4⟩ := wg.2.2.2.2.2.2.1 j hj
    have e0 : ((10 : Int32) * 1 + nI j) = nI (10 + j) := by rw [show (10 : Int32) * 1 = nI 10 from rfl, nI_add]
    have h6 : hl_b (1 : Int32) 6 := by decide
    have hj8 : hl_b (nI j) 8 := by first | omega | (simp (disch := first | assumption | omega) only [↓hp_neg1, hp_l0, hp_l1, hp_l2, hp_l3, hp_l4, hp_l5, hp_l6, hp_l7, hp_l8, hp_l9, hp_l10, hp_l11, hp_l12, hp_l13, hp_l14, hp_l15, hp_l16, hp_l17, hp_l18, hp_l19, hp_l20, hp_l21, hp_l22, hp_l23, hp_l24, hp_l25, hp_l26, hp_l27, hp_l28, hp_l29, hp_l30, hp_l31, hp_l32, hp_l33, hp_l34, hp_l35, hp_l36, hp_l37, hp_l38, hp_l39, hp_l40, hp_l41, hp_l42, hp_l43, hp_l44, hp_l45, hp_l46, hp_l47, hp_l48, hp_l49, hp_l50, hp_l51, hp_l52, hp_l53, hp_l54, hp_l55, hp_l56, hp_l57, hp_l58, hp_l59, hp_l60, hp_l61, hp_l62, hp_l63, hp_l64, hp_l65, hp_l66, hp_l67, hp_l68, hp_l69, hp_l70, hp_l71, hp_l72, hp_l73, hp_l74, hp_l75, hp_l76, hp_l77, hp_l78, hp_l79, hp_l80, hp_l81, hp_l82, hp_l83, hp_l84, hp_l85, hp_l86, hp_l87, hp_l88, hp_l89, hp_l90, hp_l91, hp_l92, hp_l93, hp_l94, hp_l95, hp_l96, hp_l97, hp_l98, hp_l99, hp_l100, hp_l101, hp_l102, hp_l103, hp_l104, hp_l105, hp_l106, hp_l107, hp_l108, hp_l109, hp_l110, hp_l111, hp_l112, hp_l113, hp_l114, hp_l115, hp_l116, hp_l117, hp_l118, hp_l119, hp_l120, hp_l121, hp_l122, hp_l123, hp_l124, hp_l125, hp_l126, hp_l127, hp_l141, hp_l142, hp_l150, hp_l151, hp_l152, hp_l153, hp_l251, hp_l255, hp_l256, hp_l300, hp_l432, hp_l864, hp_l1000, hp_l1600, hp_l1700, hp_l2304, hp_l2916, hp_l3000, hp_l9999, hp_l10000, nI_add, pk_mul, nI_clamp, hl_lt, hl_le, hl_eq, hl_nIb, hl_nsub, hp_eqm, hp_meq, hp_ltm, hp_mlt, hp_lem, hp_mle, hp_addm, hp_meqm, hp_mlem, hp_withinE, hp_within0, if_pos, if_neg, Option.bind_some, hp_let, Sum.elim_inl, Sum.elim_inr, hp_s01, hp_s11, hp_s2, true_and, and_true, if_true, if_false, not_true_eq_false, not_false_eq_true, reduceCtorEq] <;> omega)
    have b1 : hl_b (nI (10 + j)) 40 := by first | omega | (simp (disch := first | assumption | omega) only [↓hp_neg1, hp_l0, hp_l1, hp_l2, hp_l3, hp_l4, hp_l5, hp_l6, hp_l7, hp_l8, hp_l9, hp_l10, hp_l11, hp_l12, hp_l13, hp_l14, hp_l15, hp_l16, hp_l17, hp_l18, hp_l19, hp_l20, hp_l21, hp_l22, hp_l23, hp_l24, hp_l25, hp_l26, hp_l27, hp_l28, hp_l29, hp_l30, hp_l31, hp_l32, hp_l33, hp_l34, hp_l35, hp_l36, hp_l37, hp_l38, hp_l39, hp_l40, hp_l41, hp_l42, hp_l43, hp_l44, hp_l45, hp_l46, hp_l47, hp_l48, hp_l49, hp_l50, hp_l51, hp_l52, hp_l53, hp_l54, hp_l55, hp_l56, hp_l57, hp_l58, hp_l59, hp_l60, hp_l61, hp_l62, hp_l63, hp_l64, hp_l65, hp_l66, hp_l67, hp_l68, hp_l69, hp_l70, hp_l71, hp_l72, hp_l73, hp_l74, hp_l75, hp_l76, hp_l77, hp_l78, hp_l79, hp_l80, hp_l81, hp_l82, hp_l83, hp_l84, hp_l85, hp_l86, hp_l87, hp_l88, hp_l89, hp_l90, hp_l91, hp_l92, hp_l93, hp_l94, hp_l95, hp_l96, hp_l97, hp_l98, hp_l99, hp_l100, hp_l101, hp_l102, hp_l103, hp_l104, hp_l105, hp_l106, hp_l107, hp_l108, hp_l109, hp_l110, hp_l111, hp_l112, hp_l113, hp_l114, hp_l115, hp_l116, hp_l117, hp_l118, hp_l119, hp_l120, hp_l121, hp_l122, hp_l123, hp_l124, hp_l125, hp_l126, hp_l127, hp_l141, hp_l142, hp_l150, hp_l151, hp_l152, hp_l153, hp_l251, hp_l255, hp_l256, hp_l300, hp_l432, hp_l864, hp_l1000, hp_l1600, hp_l1700, hp_l2304, hp_l2916, hp_l3000, hp_l9999, hp_l10000, nI_add, pk_mul, nI_clamp, hl_lt, hl_le, hl_eq, hl_nIb, hl_nsub, hp_eqm, hp_meq, hp_ltm, hp_mlt, hp_lem, hp_mle, hp_addm, hp_meqm, hp_mlem, hp_withinE, hp_within0, if_pos, if_neg, Option.bind_some, hp_let, Sum.elim_inl, Sum.elim_inr, hp_s01, hp_s11, hp_s2, true_and, and_true, if_true, if_false, not_true_eq_false, not_false_eq_true, reduceCtorEq] <;> omega)
    have v1 : σ.1 19 j = nI (hp_nw (G (20 + j)) (G 6 j)) := (xg.2.2.2.1 j hj).1
    have v2 : τ.2 77 (10 + j) = lN (hp_n27 (G (20 + j)) (G 6 j)) := by
      have := (mg.2.2.2.1 j hj).1
      rw [Nat.mul_zero, Nat.zero_add] at this
      exact this
    have iff := hp_nm w2 h1 w4 hl
    unfold f_Gr_wordNamed_d_L2 f_M_nameOf_L3
    rw [nx, if_neg n1, if_pos hj8, if_pos h6, show (1 : Int32).toNatClampNeg = 1 from rfl, nm, if_neg n1, e0, if_pos b1, nI_clamp (by omega), nI_clamp (by omega), v1, v2]
    by_cases e : nI (hp_nw (G (20 + j)) (G 6 j)) = nI (hp_nw l m)
    · rw [if_pos e, if_pos (iff.mp e)]
      exact .inr ⟨_, _, rfl, rfl, .inr ⟨j, hj, rfl, rfl⟩⟩
    · rw [if_neg e, if_neg (fun z => e (iff.mpr z)), nI_1]
      exact .inl ⟨_, _, rfl, rfl, rfl, rfl⟩
  · rintro _ _ ⟨rfl, rfl⟩
    unfold f_Gr_wordNamed_d_L2 f_M_nameOf_L3
    rw [nx, if_pos (by first | omega | (simp (disch := first | assumption | omega) only [↓hp_neg1, hp_l0, hp_l1, hp_l2, hp_l3, hp_l4, hp_l5, hp_l6, hp_l7, hp_l8, hp_l9, hp_l10, hp_l11, hp_l12, hp_l13, hp_l14, hp_l15, hp_l16, hp_l17, hp_l18, hp_l19, hp_l20, hp_l21, hp_l22, hp_l23, hp_l24, hp_l25, hp_l26, hp_l27, hp_l28, hp_l29, hp_l30, hp_l31, hp_l32, hp_l33, hp_l34, hp_l35, hp_l36, hp_l37, hp_l38, hp_l39, hp_l40, hp_l41, hp_l42, hp_l43, hp_l44, hp_l45, hp_l46, hp_l47, hp_l48, hp_l49, hp_l50, hp_l51, hp_l52, hp_l53, hp_l54, hp_l55, hp_l56, hp_l57, hp_l58, hp_l59, hp_l60, hp_l61, hp_l62, hp_l63, hp_l64, hp_l65, hp_l66, hp_l67, hp_l68, hp_l69, hp_l70, hp_l71, hp_l72, hp_l73, hp_l74, hp_l75, hp_l76, hp_l77, hp_l78, hp_l79, hp_l80, hp_l81, hp_l82, hp_l83, hp_l84, hp_l85, hp_l86, hp_l87, hp_l88, hp_l89, hp_l90, hp_l91, hp_l92, hp_l93, hp_l94, hp_l95, hp_l96, hp_l97, hp_l98, hp_l99, hp_l100, hp_l101, hp_l102, hp_l103, hp_l104, hp_l105, hp_l106, hp_l107, hp_l108, hp_l109, hp_l110, hp_l111, hp_l112, hp_l113, hp_l114, hp_l115, hp_l116, hp_l117, hp_l118, hp_l119, hp_l120, hp_l121, hp_l122, hp_l123, hp_l124, hp_l125, hp_l126, hp_l127, hp_l141, hp_l142, hp_l150, hp_l151, hp_l152, hp_l153, hp_l251, hp_l255, hp_l256, hp_l300, hp_l432, hp_l864, hp_l1000, hp_l1600, hp_l1700, hp_l2304, hp_l2916, hp_l3000, hp_l9999, hp_l10000, nI_add, pk_mul, nI_clamp, hl_lt, hl_le, hl_eq, hl_nIb, hl_nsub, hp_eqm, hp_meq, hp_ltm, hp_mlt, hp_lem, hp_mle, hp_addm, hp_meqm, hp_mlem, hp_withinE, hp_within0, if_pos, if_neg, Option.bind_some, hp_let, Sum.elim_inl, Sum.elim_inr, hp_s01, hp_s11, hp_s2, true_and, and_true, if_true, if_false, not_true_eq_false, not_false_eq_true, reduceCtorEq] <;> omega)), if_pos (by decide), show (1 : Int32).toNatClampNeg = 1 from rfl, nm, if_pos (by first | omega | (simp (disch := first | assumption | omega) only [↓hp_neg1, hp_l0, hp_l1, hp_l2, hp_l3, hp_l4, hp_l5, hp_l6, hp_l7, hp_l8, hp_l9, hp_l10, hp_l11, hp_l12, hp_l13, hp_l14, hp_l15, hp_l16, hp_l17, hp_l18, hp_l19, hp_l20, hp_l21, hp_l22, hp_l23, hp_l24, hp_l25, hp_l26, hp_l27, hp_l28, hp_l29, hp_l30, hp_l31, hp_l32, hp_l33, hp_l34, hp_l35, hp_l36, hp_l37, hp_l38, hp_l39, hp_l40, hp_l41, hp_l42, hp_l43, hp_l44, hp_l45, hp_l46, hp_l47, hp_l48, hp_l49, hp_l50, hp_l51, hp_l52, hp_l53, hp_l54, hp_l55, hp_l56, hp_l57, hp_l58, hp_l59, hp_l60, hp_l61, hp_l62, hp_l63, hp_l64, hp_l65, hp_l66, hp_l67, hp_l68, hp_l69, hp_l70, hp_l71, hp_l72, hp_l73, hp_l74, hp_l75, hp_l76, hp_l77, hp_l78, hp_l79, hp_l80, hp_l81, hp_l82, hp_l83, hp_l84, hp_l85, hp_l86, hp_l87, hp_l88, hp_l89, hp_l90, hp_l91, hp_l92, hp_l93, hp_l94, hp_l95, hp_l96, hp_l97, hp_l98, hp_l99, hp_l100, hp_l101, hp_l102, hp_l103, hp_l104, hp_l105, hp_l106, hp_l107, hp_l108, hp_l109, hp_l110, hp_l111, hp_l112, hp_l113, hp_l114, hp_l115, hp_l116, hp_l117, hp_l118, hp_l119, hp_l120, hp_l121, hp_l122, hp_l123, hp_l124, hp_l125, hp_l126, hp_l127, hp_l141, hp_l142, hp_l150, hp_l151, hp_l152, hp_l153, hp_l251, hp_l255, hp_l256, hp_l300, hp_l432, hp_l864, hp_l1000, hp_l1600, hp_l1700, hp_l2304, hp_l2916, hp_l3000, hp_l9999, hp_l10000, nI_add, pk_mul, nI_clamp, hl_lt, hl_le, hl_eq, hl_nIb, hl_nsub, hp_eqm, hp_meq, hp_ltm, hp_mlt, hp_lem, hp_mle, hp_addm, hp_meqm, hp_mlem, hp_withinE, hp_within0, if_pos, if_neg, Option.bind_some, hp_let, Sum.elim_inl, Sum.elim_inr, hp_s01, hp_s11, hp_s2, true_and, and_true, if_true, if_false, not_true_eq_false, not_false_eq_true, reduceCtorEq] <;> omega))]
    exact ⟨_, _, rfl, rfl, .inl ⟨rfl, rfl⟩⟩
/-- somebody of that name -/
theorem q_isNamed (D : q_D G P σ τ) (h1 : m ≤ 6) (hl : ∀ k, k < m → 1 ≤ l k ∧ l k ≤ 26) : ∃ r, f_M_nameOf 0 (lN (hp_n27 l m)) τ = some r ∧ ((r = -1 ∧ hl_lp (f_Gr_isNamed_d_L2 (nI (hp_nw l m)) σ) hl_big 0 = some (.inl ())) ∨ (¬ r = -1 ∧ hl_lp (f_Gr_isNamed_d_L2 (nI (hp_nw l m)) σ) hl_big 0 = some (.inr 1))) := by
  obtain ⟨wg, wp, w3, xg, xp, mg, mp⟩ := D
  have hnp := wg.np
  have nx : σ.1 14 3 = nI (G 0 2) := xg.1.2.2.1
  have nm : τ.1 75 0 = nI (G 0 2) := mg.1.2.2.1
  unfold f_M_nameOf
  refine hp_simX (b := f_Gr_isNamed_d_L2 (nI (hp_nw l m)) σ) (b' := f_M_nameOf_L3 0 (lN (hp_n27 l m)) τ) (s := 0) (s' := 0) (G 0 2) (fun j x y => x = nI j ∧ y = nI j) (fun e e' => (e = .inl () ∧ e' = .inl ()) ∨ ∃ w, w < G 0 2 ∧ e = .inr 1 ∧ e' = .inr (nI w)) (by omega) ⟨rfl, rfl⟩ ?_ ?_ ?_
  · intro e e' g1 g2 g3
    rw [g1, g2, Option.bind_some]
    rcases g3 with ⟨rfl, rfl⟩ | ⟨w, hw, rfl, rfl⟩
    · exact ⟨_, rfl, .inl ⟨rfl, rfl⟩⟩
    · exact ⟨_, rfl, .inr ⟨hl_nm1 (by omega), rfl⟩⟩
  · rintro j _ _ hj ⟨rfl, rfl⟩
    have n1 : ¬ nI (G 0 2) ≤ nI j := by first | omega | (simp (disch := first | assumption | omega) only [↓hp_neg1, hp_l0, hp_l1, hp_l2, hp_l3, hp_l4, hp_l5, hp_l6, hp_l7, hp_l8, hp_l9, hp_l10, hp_l11, hp_l12, hp_l13, hp_l14, hp_l15, hp_l16, hp_l17, hp_l18, hp_l19, hp_l20, hp_l21, hp_l22, hp_l23, hp_l24, hp_l25, hp_l26, hp_l27, hp_l28, hp_l29, hp_l30, hp_l31, hp_l32, hp_l33, hp_l34, hp_l35, hp_l36, hp_l37, hp_l38, hp_l39, hp_l40, hp_l41, hp_l42, hp_l43, hp_l44, hp_l45, hp_l46, hp_l47, hp_l48, hp_l49, hp_l50, hp_l51, hp_l52, hp_l53, hp_l54, hp_l55, hp_l56, hp_l57, hp_l58, hp_l59, hp_l60, hp_l61, hp_l62, hp_l63, hp_l64, hp_l65, hp_l66, hp_l67, hp_l68, hp_l69, hp_l70, hp_l71, hp_l72, hp_l73, hp_l74, hp_l75, hp_l76, hp_l77, hp_l78, hp_l79, hp_l80, hp_l81, hp_l82, hp_l83, hp_l84, hp_l85, hp_l86, hp_l87, hp_l88, hp_l89, hp_l90, hp_l91, hp_l92, hp_l93, hp_l94, hp_l95, hp_l96, hp_l97, hp_l98, hp_l99, hp_l100, hp_l101, hp_l102, hp_l103, hp_l104, hp_l105, hp_l106, hp_l107, hp_l108, hp_l109, hp_l110, hp_l111, hp_l112, hp_l113, hp_l114, hp_l115, hp_l116, hp_l117, hp_l118, hp_l119, hp_l120, hp_l121, hp_l122, hp_l123, hp_l124, hp_l125, hp_l126, hp_l127, hp_l141, hp_l142, hp_l150, hp_l151, hp_l152, hp_l153, hp_l251, hp_l255, hp_l256, hp_l300, hp_l432, hp_l864, hp_l1000, hp_l1600, hp_l1700, hp_l2304, hp_l2916, hp_l3000, hp_l9999, hp_l10000, nI_add, pk_mul, nI_clamp, hl_lt, hl_le, hl_eq, hl_nIb, hl_nsub, hp_eqm, hp_meq, hp_ltm, hp_mlt, hp_lem, hp_mle, hp_addm, hp_meqm, hp_mlem, hp_withinE, hp_within0, if_pos, if_neg, Option.bind_some, hp_let, Sum.elim_inl, Sum.elim_inr, hp_s01, hp_s11, hp_s2, true_and, and_true, if_true, if_false, not_true_eq_false, not_false_eq_true, reduceCtorEq] <;> omega)
    obtain ⟨w1, w2, w4⟩ := wg.2.2.2.2.2.1 j hj
    have e0 : ((10 : Int32) * 0 + nI j) = nI j := by rw [show (10 : Int32) * 0 = nI 0 from rfl, nI_add, Nat.zero_add]
    have h6 : hl_b (0 : Int32) 6 := by decide
    have hj8 : hl_b (nI j) 10 := by first | omega | (simp (disch := first | assumption | omega) only [↓hp_neg1, hp_l0, hp_l1, hp_l2, hp_l3, hp_l4, hp_l5, hp_l6, hp_l7, hp_l8, hp_l9, hp_l10, hp_l11, hp_l12, hp_l13, hp_l14, hp_l15, hp_l16, hp_l17, hp_l18, hp_l19, hp_l20, hp_l21, hp_l22, hp_l23, hp_l24, hp_l25, hp_l26, hp_l27, hp_l28, hp_l29, hp_l30, hp_l31, hp_l32, hp_l33, hp_l34, hp_l35, hp_l36, hp_l37, hp_l38, hp_l39, hp_l40, hp_l41, hp_l42, hp_l43, hp_l44, hp_l45, hp_l46, hp_l47, hp_l48, hp_l49, hp_l50, hp_l51, hp_l52, hp_l53, hp_l54, hp_l55, hp_l56, hp_l57, hp_l58, hp_l59, hp_l60, hp_l61, hp_l62, hp_l63, hp_l64, hp_l65, hp_l66, hp_l67, hp_l68, hp_l69, hp_l70, hp_l71, hp_l72, hp_l73, hp_l74, hp_l75, hp_l76, hp_l77, hp_l78, hp_l79, hp_l80, hp_l81, hp_l82, hp_l83, hp_l84, hp_l85, hp_l86, hp_l87, hp_l88, hp_l89, hp_l90, hp_l91, hp_l92, hp_l93, hp_l94, hp_l95, hp_l96, hp_l97, hp_l98, hp_l99, hp_l100, hp_l101, hp_l102, hp_l103, hp_l104, hp_l105, hp_l106, hp_l107, hp_l108, hp_l109, hp_l110, hp_l111, hp_l112, hp_l113, hp_l114, hp_l115, hp_l116, hp_l117, hp_l118, hp_l119, hp_l120, hp_l121, hp_l122, hp_l123, hp_l124, hp_l125, hp_l126, hp_l127, hp_l141, hp_l142, hp_l150, hp_l151, hp_l152, hp_l153, hp_l251, hp_l255, hp_l256, hp_l300, hp_l432, hp_l864, hp_l1000, hp_l1600, hp_l1700, hp_l2304, hp_l2916, hp_l3000, hp_l9999, hp_l10000, nI_add, pk_mul, nI_clamp, hl_lt, hl_le, hl_eq, hl_nIb, hl_nsub, hp_eqm, hp_meq, hp_ltm, hp_mlt, hp_lem, hp_mle, hp_addm, hp_meqm, hp_mlem, hp_withinE, hp_within0, if_pos, if_neg, Option.bind_some, hp_let, Sum.elim_inl, Sum.elim_inr, hp_s01, hp_s11, hp_s2, true_and, and_true, if_true, if_false, not_true_eq_false, not_false_eq_true, reduceCtorEq] <;> omega)
    have b1 : hl_b (nI j) 40 := by first | omega | (simp (disch := first | assumption | omega) only [↓hp_neg1, hp_l0, hp_l1, hp_l2, hp_l3, hp_l4, hp_l5, hp_l6, hp_l7, hp_l8, hp_l9, hp_l10, hp_l11, hp_l12, hp_l13, hp_l14, hp_l15, hp_l16, hp_l17, hp_l18, hp_l19, hp_l20, hp_l21, hp_l22, hp_l23, hp_l24, hp_l25, hp_l26, hp_l27, hp_l28, hp_l29, hp_l30, hp_l31, hp_l32, hp_l33, hp_l34, hp_l35, hp_l36, hp_l37, hp_l38, hp_l39, hp_l40, hp_l41, hp_l42, hp_l43, hp_l44, hp_l45, hp_l46, hp_l47, hp_l48, hp_l49, hp_l50, hp_l51, hp_l52, hp_l53, hp_l54, hp_l55, hp_l56, hp_l57, hp_l58, hp_l59, hp_l60, hp_l61, hp_l62, hp_l63, hp_l64, hp_l65, hp_l66, hp_l67, hp_l68, hp_l69, hp_l70, hp_l71, hp_l72, hp_l73, hp_l74, hp_l75, hp_l76, hp_l77, hp_l78, hp_l79, hp_l80, hp_l81, hp_l82, hp_l83, hp_l84, hp_l85, hp_l86, hp_l87, hp_l88, hp_l89, hp_l90, hp_l91, hp_l92, hp_l93, hp_l94, hp_l95, hp_l96, hp_l97, hp_l98, hp_l99, hp_l100, hp_l101, hp_l102, hp_l103, hp_l104, hp_l105, hp_l106, hp_l107, hp_l108, hp_l109, hp_l110, hp_l111, hp_l112, hp_l113, hp_l114, hp_l115, hp_l116, hp_l117, hp_l118, hp_l119, hp_l120, hp_l121, hp_l122, hp_l123, hp_l124, hp_l125, hp_l126, hp_l127, hp_l141, hp_l142, hp_l150, hp_l151, hp_l152, hp_l153, hp_l251, hp_l255, hp_l256, hp_l300, hp_l432, hp_l864, hp_l1000, hp_l1600, hp_l1700, hp_l2304, hp_l2916, hp_l3000, hp_l9999, hp_l10000, nI_add, pk_mul, nI_clamp, hl_lt, hl_le, hl_eq, hl_nIb, hl_nsub, hp_eqm, hp_meq, hp_ltm, hp_mlt, hp_lem, hp_mle, hp_addm, hp_meqm, hp_mlem, hp_withinE, hp_within0, if_pos, if_neg, Option.bind_some, hp_let, Sum.elim_inl, Sum.elim_inr, hp_s01, hp_s11, hp_s2, true_and, and_true, if_true, if_false, not_true_eq_false, not_false_eq_true, reduceCtorEq] <;> omega)
    have v1 : σ.1 15 j = nI (hp_nw (G (10 + j)) (G 5 j)) := (xg.2.2.1 j hj).1
    have v2 : τ.2 77 j = lN (hp_n27 (G (10 + j)) (G 5 j)) := by
      have := (mg.2.2.1 j hj)
      rw [Nat.mul_zero, Nat.zero_add] at this
      exact this
    have iff := hp_nm w2 h1 w4 hl
    unfold f_Gr_isNamed_d_L2 f_M_nameOf_L3
    rw [nx, if_neg n1, if_pos hj8, if_pos h6, show (0 : Int32).toNatClampNeg = 0 from rfl, nm, if_neg n1, e0, if_pos b1, nI_clamp (by omega), v1, v2]
    by_cases e : nI (hp_nw (G (10 + j)) (G 5 j)) = nI (hp_nw l m)
    · rw [if_pos e, if_pos (iff.mp e)]
      exact .inr ⟨_, _, rfl, rfl, .inr ⟨j, hj, rfl, rfl⟩⟩
    · rw [if_neg e, if_neg (fun z => e (iff.mpr z)), nI_1]
      exact .inl ⟨_, _, rfl, rfl, rfl, rfl⟩
  · rintro _ _ ⟨rfl, rfl⟩
    unfold f_Gr_isNamed_d_L2 f_M_nameOf_L3
    rw [nx, if_pos (by first | omega | (simp (disch := first | assumption | omega) only [↓hp_neg1, hp_l0, hp_l1, hp_l2, hp_l3, hp_l4, hp_l5, hp_l6, hp_l7, hp_l8, hp_l9, hp_l10, hp_l11, hp_l12, hp_l13, hp_l14, hp_l15, hp_l16, hp_l17, hp_l18, hp_l19, hp_l20, hp_l21, hp_l22, hp_l23, hp_l24, hp_l25, hp_l26, hp_l27, hp_l28, hp_l29, hp_l30, hp_l31, hp_l32, hp_l33, hp_l34, hp_l35, hp_l36, hp_l37, hp_l38, hp_l39, hp_l40, hp_l41, hp_l42, hp_l43, hp_l44, hp_l45, hp_l46, hp_l47, hp_l48, hp_l49, hp_l50, hp_l51, hp_l52, hp_l53, hp_l54, hp_l55, hp_l56, hp_l57, hp_l58, hp_l59, hp_l60, hp_l61, hp_l62, hp_l63, hp_l64, hp_l65, hp_l66, hp_l67, hp_l68, hp_l69, hp_l70, hp_l71, hp_l72, hp_l73, hp_l74, hp_l75, hp_l76, hp_l77, hp_l78, hp_l79, hp_l80, hp_l81, hp_l82, hp_l83, hp_l84, hp_l85, hp_l86, hp_l87, hp_l88, hp_l89, hp_l90, hp_l91, hp_l92, hp_l93, hp_l94, hp_l95, hp_l96, hp_l97, hp_l98, hp_l99, hp_l100, hp_l101, hp_l102, hp_l103, hp_l104, hp_l105, hp_l106, hp_l107, hp_l108, hp_l109, hp_l110, hp_l111, hp_l112, hp_l113, hp_l114, hp_l115, hp_l116, hp_l117, hp_l118, hp_l119, hp_l120, hp_l121, hp_l122, hp_l123, hp_l124, hp_l125, hp_l126, hp_l127, hp_l141, hp_l142, hp_l150, hp_l151, hp_l152, hp_l153, hp_l251, hp_l255, hp_l256, hp_l300, hp_l432, hp_l864, hp_l1000, hp_l1600, hp_l1700, hp_l2304, hp_l2916, hp_l3000, hp_l9999, hp_l10000, nI_add, pk_mul, nI_clamp, hl_lt, hl_le, hl_eq, hl_nIb, hl_nsub, hp_eqm, hp_meq, hp_ltm, hp_mlt, hp_lem, hp_mle, hp_addm, hp_meqm, hp_mlem, hp_withinE, hp_within0, if_pos, if_neg, Option.bind_some, hp_let, Sum.elim_inl, Sum.elim_inr, hp_s01, hp_s11, hp_s2, true_and, and_true, if_true, if_false, not_true_eq_false, not_false_eq_true, reduceCtorEq] <;> omega)), if_pos (by decide), show (0 : Int32).toNatClampNeg = 0 from rfl, nm, if_pos (by first | omega | (simp (disch := first | assumption | omega) only [↓hp_neg1, hp_l0, hp_l1, hp_l2, hp_l3, hp_l4, hp_l5, hp_l6, hp_l7, hp_l8, hp_l9, hp_l10, hp_l11, hp_l12, hp_l13, hp_l14, hp_l15, hp_l16, hp_l17, hp_l18, hp_l19, hp_l20, hp_l21, hp_l22, hp_l23, hp_l24, hp_l25, hp_l26, hp_l27, hp_l28, hp_l29, hp_l30, hp_l31, hp_l32, hp_l33, hp_l34, hp_l35, hp_l36, hp_l37, hp_l38, hp_l39, hp_l40, hp_l41, hp_l42, hp_l43, hp_l44, hp_l45, hp_l46, hp_l47, hp_l48, hp_l49, hp_l50, hp_l51, hp_l52, hp_l53, hp_l54, hp_l55, hp_l56, hp_l57, hp_l58, hp_l59, hp_l60, hp_l61, hp_l62, hp_l63, hp_l64, hp_l65, hp_l66, hp_l67, hp_l68, hp_l69, hp_l70, hp_l71, hp_l72, hp_l73, hp_l74, hp_l75, hp_l76, hp_l77, hp_l78, hp_l79, hp_l80, hp_l81, hp_l82, hp_l83, hp_l84, hp_l85, hp_l86, hp_l87, hp_l88, hp_l89, hp_l90, hp_l91, hp_l92, hp_l93, hp_l94, hp_l95, hp_l96, hp_l97, hp_l98, hp_l99, hp_l100, hp_l101, hp_l102, hp_l103, hp_l104, hp_l105, hp_l106, hp_l107, hp_l108, hp_l109, hp_l110, hp_l111, hp_l112, hp_l113, hp_l114, hp_l115, hp_l116, hp_l117, hp_l118, hp_l119, hp_l120, hp_l121, hp_l122, hp_l123, hp_l124, hp_l125, hp_l126, hp_l127, hp_l141, hp_l142, hp_l150, hp_l151, hp_l152, hp_l153, hp_l251, hp_l255, hp_l256, hp_l300, hp_l432, hp_l864, hp_l1000, hp_l1600, hp_l1700, hp_l2304, hp_l2916, hp_l3000, hp_l9999, hp_l10000, nI_add, pk_mul, nI_clamp, hl_lt, hl_le, hl_eq, hl_nIb, hl_nsub, hp_eqm, hp_meq, hp_ltm, hp_mlt, hp_lem, hp_mle, hp_addm, hp_meqm, hp_mlem, hp_withinE, hp_within0, if_pos, if_neg, Option.bind_some, hp_let, Sum.elim_inl, Sum.elim_inr, hp_s01, hp_s11, hp_s2, true_and, and_true, if_true, if_false, not_true_eq_false, not_false_eq_true, reduceCtorEq] <;> omega))]
    exact ⟨_, _, rfl, rfl, .inl ⟨rfl, rfl⟩⟩
/-- a new name -/
theorem q_newName (KK : hm_k τ) (T : hx_t n b σ) (R : hm_r n b τ) (H : q_st n b σ τ) (D : q_ok n b σ τ → q_D G P σ τ) : ∃ x y σ' τ', f_Tl_wantNewName σ = some (x, σ') ∧ f_M_newName τ = some (y, τ') ∧ hp_fr hx_FD σ σ' ∧ hp_fr hm_FD τ τ' ∧ q_st n b σ' τ' ∧ (σ'.1 3 4 = 0 → q_ok n b σ τ ∧ ∃ m l, 1 ≤ m ∧ m ≤ 6 ∧ (∀ k, k < m → 1 ≤ l k ∧ l k ≤ 26) ∧ x = nI (hp_nw l m) ∧ y = lN (hp_n27 l m)) := by
  obtain ⟨x, y, σ1, τ1, a1, a2, a3, a4, a5, a6⟩ := q_name KK T R H
  unfold f_Tl_wantNewName f_M_newName
  rw [a1, a2, Option.bind_some, Option.bind_some]
  dsimp only
  rcases a5 with a5 | a5
  · obtain ⟨z1, z2⟩ := a5.x
    have Hok : q_ok n b σ τ := by
      rcases H with H | H
      · exact H
      · exfalso
        obtain ⟨u1, u2, u3, u4⟩ := H
        have e : f_Rd_wantName σ = some (0, f_Rd_fail 1 (σ.1 3 2) σ) := by
          unfold f_Rd_wantName f_Rd_wantName_j15
          rw [u3, if_neg (by decide)]
        rw [a1] at e
        have e2 : σ1 = f_Rd_fail 1 (σ.1 3 2) σ := congrArg Prod.snd (Option.some.inj e)
        have := (q_failN (f := 1) (p := σ.1 3 2) ⟨u1, u2, u3, u4⟩).1.1
        rw [← e2] at this
        exact this z1
    obtain ⟨⟨m, l, l1, l2, l3, rfl, rfl⟩, a7⟩ := a6 z1
    have D1 := (D Hok).fr0 a3 a4
    rw [hx_failed0 z1, if_pos rfl, if_pos z2]
    obtain ⟨r0, p1, p2⟩ := q_isNamed D1 l2 l3
    obtain ⟨r1, s1, s2, s3⟩ := q_wordNamed D1 l2 l3
    obtain ⟨f1, f2, f3⟩ := q_fail0 (σ := σ1) (τ := τ1) (f := 3) (p := σ1.1 3 6) z1 z2 (by decide)
    have bad : ∃ x y σ' τ', some (nI (hp_nw l m), f_Rd_fail 3 (σ1.1 3 6) σ1) = some (x, σ') ∧ f_M_newName_j32 (lN (hp_n27 l m)) τ1 = some (y, τ') ∧ hp_fr hx_FD σ σ' ∧ hp_fr hm_FD τ τ' ∧ q_st n b σ' τ' ∧ (σ'.1 3 4 = 0 → q_ok n b σ τ ∧ ∃ m l, 1 ≤ m ∧ m ≤ 6 ∧ (∀ k, k < m → 1 ≤ l k ∧ l k ≤ 26) ∧ x = nI (hp_nw l m) ∧ y = lN (hp_n27 l m)) := by
      unfold f_M_newName_j32
      rw [← a7]
      exact ⟨_, _, _, _, rfl, rfl, a3.tr f2, a4.tr f3, .inr f1, fun z => absurd z f1.1⟩
    unfold f_Gr_isNamed_d
    rw [p1, Option.bind_some]
    rcases p2 with ⟨rfl, p3⟩ | ⟨p4, p3⟩
    · rw [p3, Option.bind_some, Sum.elim_inl, s1, Option.bind_some, if_pos rfl, s2, Option.bind_some]
      by_cases e : r1 = -1
      · rw [if_pos e, if_pos e, Option.bind_some, if_pos rfl]
        exact ⟨_, _, _, _, rfl, rfl, a3, a4, .inl a5, fun _ => ⟨Hok, m, l, l1, l2, l3, rfl, rfl⟩⟩
      · rw [if_neg e, if_neg e, Option.bind_some, if_neg (show ¬ (1 : Int32) = 0 by decide)]
        exact bad
    · rw [p3, Option.bind_some, Sum.elim_inr, Option.bind_some, if_neg (show ¬ (1 : Int32) = 0 by decide), if_neg p4]
      exact bad
  · obtain ⟨z1, z2⟩ := a5.x
    rw [hx_failed1 z1, if_neg (show ¬ (1 : Int32) = 0 by decide), if_neg z2]
    exact ⟨_, _, _, _, rfl, rfl, a3, a4, .inr a5, fun z => absurd z z1⟩
end DRAFT
