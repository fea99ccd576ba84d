/-! lamp, undo, other steps -/
section UN
variable {G P P' Q : hp_G} {σ τ υ : hl_M} {L : List hp_G} {p w c b i k n : Nat}
theorem hp_wh_cong (h1 : P' 1 p = P 1 p) (h2 : ∀ k, P' (2 + p) k = P (2 + p) k) : ∀ b, hp_wh G P' p b = hp_wh G P p b
  | 0 => rfl
  | b + 1 => by
    show hp_nx G (hp_wh G P' p b) (P' (2 + p) (b % P' 1 p)) = hp_nx G (hp_wh G P p b) (P (2 + p) (b % P 1 p))
    rw [hp_wh_cong h1 h2 b, h1, h2]
theorem hp_but.sym (h : hp_but p P P') : hp_but p P' P := fun q hq => ⟨(h q hq).1.symm, (h q hq).2.1.symm, fun k => ((h q hq).2.2 k).symm⟩
def hx_AD (q _ : Nat) : Prop := q = 7 ∨ q = 8 ∨ (27 ≤ q ∧ q ≤ 36) ∨ (58 ≤ q ∧ q ≤ 61)
def hx_A1 (p q f : Nat) : Prop := (q = 7 ∧ f = p) ∨ (q = 8 ∧ f = p) ∨ (58 ≤ q ∧ q ≤ 61)
theorem hx_setP (H : hx0 G P σ) (B : hp_but p P P') (hP : hp_wp G P') (F : hp_fr (hx_A1 p) σ τ) (h7 : τ.1 7 p = nI (P' 0 p)) (h8 : τ.2 8 p = lN (hp_pw (P' 1 p) (P' (2 + p)) (P' 1 p))) : hx0 G P' τ := by
  obtain ⟨a1, a2, a3, a4⟩ := H
  have e : ∀ q, 4 ≤ q → q ≤ 13 → q ≠ 7 → q ≠ 8 → τ.1 q = σ.1 q ∧ τ.2 q = σ.2 q := fun q h1 h2 h3 h4 => ⟨funext fun f => F.i (by unfold hx_A1; omega), funext fun f => F.l (by unfold hx_A1; omega)⟩
  refine ⟨a1, hP, ?_, fun q hq => ?_⟩
  · unfold hx_g at a3 ⊢
    simp only [show 4 + 1 = 5 from rfl, show 4 + 2 = 6 from rfl, show 4 + 5 = 9 from rfl, show 4 + 6 = 10 from rfl, show 4 + 7 = 11 from rfl, show 4 + 8 = 12 from rfl, show 4 + 9 = 13 from rfl] at a3 ⊢
    simp only [(e 4 (by omega) (by omega) (by omega) (by omega)), (e 5 (by omega) (by omega) (by omega) (by omega)), (e 6 (by omega) (by omega) (by omega) (by omega)), (e 9 (by omega) (by omega) (by omega) (by omega)), (e 10 (by omega) (by omega) (by omega) (by omega)), (e 11 (by omega) (by omega) (by omega) (by omega)), (e 12 (by omega) (by omega) (by omega) (by omega)), (e 13 (by omega) (by omega) (by omega) (by omega))]
    exact a3
  · show τ.1 7 q = _ ∧ τ.2 8 q = _
    by_cases eq : q = p
    · rw [eq]; exact ⟨h7, h8⟩
    · obtain ⟨b1, b2, b3⟩ := B q eq
      rw [F.i (by unfold hx_A1; omega), F.l (by unfold hx_A1; omega), b1, b2, show P' (2 + q) = P (2 + q) from funext b3]
      exact a4 q hq
/-- steps of one are others: his row is traced anew -/
theorem hx_setSteps (H : hx G P σ) (hp : p < G 0 2) (B : hp_but p P P') (hP : hp_wp G P') (F : hp_fr (hx_A1 p) σ τ) (h7 : τ.1 7 p = nI (P' 0 p)) (h8 : τ.2 8 p = lN (hp_pw (P' 1 p) (P' (2 + p)) (P' 1 p))) : ∃ υ, f_Wk_retrace (nI p) τ = some υ ∧ hx G P' υ ∧ hp_fr (fun q _ => q = 27 + p) τ υ := by
  have H0 := hx_setP H.z B hP F h7 h8
  have hnp := H.wg.np
  obtain ⟨υ, r1, r2, r3⟩ := hx_retrace H0 hp
  have H2 := H0.fr r3 (by omega)
  refine ⟨υ, r1, ⟨H2.1, H2.2.1, H2.2.2.1, H2.2.2.2, fun q hq b hb => ?_⟩, r3⟩
  by_cases e : q = p
  · rw [e]; exact r2 b hb
  · obtain ⟨_, b2, b3⟩ := B q e
    rw [r3.i (by omega), F.i (by unfold hx_A1; omega), hp_wh_cong b2 b3]
    exact H.wh hq hb
theorem hx_as.wp : ∀ {P : hp_G} {L : List hp_G}, hx_as G σ P L → ∀ (i : Nat) (P' : hp_G), L[i]? = some P' → hp_wp G P'
  | _, [], _, i, P', h => by simp at h
  | _, Q :: L, ⟨_, h1, h2⟩, 0, P', h => by simp at h; rw [← h]; exact h1
  | _, Q :: L, ⟨_, h1, h2⟩, i + 1, P', h => hx_as.wp h2 i P' (by simpa using h)
/-- lamp -/
def hp_setL (P : hp_G) (p v : Nat) : hp_G := fun i q => if i = 0 ∧ q = p then v else P i q
theorem hp_setL_but (v : Nat) : hp_but p P (hp_setL P p v) := by
  intro q hq
  refine ⟨if_neg (fun z => hq z.2), if_neg (fun z => by omega), fun k => if_neg (fun z => by omega)⟩
theorem hp_setL_wp {v : Nat} (hP : hp_wp G P) (hv : v ≤ 2) : hp_wp G (hp_setL P p v) := by
  intro q hq
  obtain ⟨a1, a2, a3, a4⟩ := hP q hq
  have e1 : hp_setL P p v 1 q = P 1 q := if_neg (fun z => by omega)
  have e2 : ∀ k, hp_setL P p v (2 + q) k = P (2 + q) k := fun k => if_neg (fun z => by omega)
  rw [e1]
  refine ⟨?_, a2, a3, fun k hk => by rw [e2]; exact a4 k hk⟩
  unfold hp_setL
  split <;> omega
theorem hm_setP {D : Nat → Nat → Prop} (K : hm0 G P τ) (hP : hp_wp G P') (F : hp_fr D τ υ) (hD : ∀ q f, D q f → ¬ (hm_dep0 q f ∧ q ≠ 78)) (M : hm_p 78 150 G P' υ) : hm0 G P' υ := by
  have e : ∀ q f, hm_dep0 q f → q ≠ 78 → υ.1 q f = τ.1 q f := fun q f hq h78 => F.i (fun z => hD q f z ⟨hq, h78⟩)
  have l : ∀ q f, hm_dep0 q f → q ≠ 78 → υ.2 q f = τ.2 q f := fun q f hq h78 => F.l (fun z => hD q f z ⟨hq, h78⟩)
  unfold hm_dep0 at e l
  obtain ⟨k1, k2, ⟨⟨a1, a2, a3, a4, a5⟩, a6, a7, a8, a9⟩, k4⟩ := K
  refine ⟨k1, hP, ⟨⟨?_, ?_, ?_, ?_, ?_⟩, ?_, ?_, ?_, ?_⟩, M⟩
  · exact (e _ _ (by omega) (by omega)).trans a1
  · exact (e _ _ (by omega) (by omega)).trans a2
  · exact (e _ _ (by omega) (by omega)).trans a3
  · exact (e _ _ (by omega) (by omega)).trans a4
  · exact (e _ _ (by omega) (by omega)).trans a5
  · exact fun c hc => (e _ _ (by omega) (by omega)).trans (a6 c hc)
  · exact fun p hp => (l _ _ (by omega) (by omega)).trans (a7 p hp)
  · exact fun w hw => ⟨(l _ _ (by omega) (by omega)).trans (a8 w hw).1, fun c hc => (e _ _ (by omega) (by omega)).trans ((a8 w hw).2 c hc)⟩
  · exact fun i hi => ⟨(e _ _ (by omega) (by omega)).trans (a9 i hi).1, (e _ _ (by omega) (by omega)).trans (a9 i hi).2⟩
def hm_AD (q f : Nat) : Prop := (q = 78 ∧ 150 ≤ f) ∨ q = 83 ∨ hm_K q f
theorem hm_a.fr {D : Nat → Nat → Prop} (A : hm_a G L τ) (hG : hp_wg G) (hW : ∀ (i : Nat) (P' : hp_G), L[i]? = some P' → hp_wp G P') (F : hp_fr D τ υ) (hD : ∀ q f, D q f → ¬ hm_K q f) : hm_a G L υ := by
  obtain ⟨A1, A2, z, A3, A4, A5⟩ := A
  refine ⟨A1, ?_, z, A3, ?_, fun i hi => ?_⟩
  · rw [F.i (fun y => hD _ _ y (by unfold hm_K; omega))]; exact A2
  · rw [F.i (fun y => hD _ _ y (by unfold hm_K; omega))]; exact A4
  · obtain ⟨P', p1, p2⟩ := A5 i hi
    exact ⟨P', p1, p2.cong hG.np (hW i P' p1) (fun k _ => F.i (fun y => hD _ _ y (by unfold hm_K; omega)))⟩
theorem q_lamp (H : hx G P σ) (A : hx_a G P L σ) (K : hm G P τ) (B : hm_a G L τ) (v1 v2 : Int32) : ∃ r σ' τ' P' L', f_X_lamp v1 v2 σ = some (r, σ') ∧ hp_fr hx_AD σ σ' ∧ f_M_lamp v1 v2 τ = some (r, τ') ∧ hp_fr hm_AD τ τ' ∧ hx G P' σ' ∧ hx_a G P' L' σ' ∧ hm G P' τ' ∧ hm_a G L' τ' := by
  have hnp := H.wg.np
  unfold f_X_lamp f_M_lamp
  rw [hm_isPerson K, Option.bind_some, H.np, show (2 : Int64) = (nI 3 - 1).toInt64 by decide, show (3 : Int32) = nI 3 from rfl]
  rcases hp_guard v1 (n := G 0 2) (by omega) with ⟨p, hp, rfl, g1, g2⟩ | ⟨g1, g2, _⟩
  · rw [g1, g2, hp_if1, hp_if1]
    rcases hp_guard v2 (n := 3) (by decide) with ⟨v, hv, rfl, k1, k2⟩ | ⟨k1, k2, _⟩
    · have hl := (H.wp p hp).1
      have n1 : hl_b (nI p) 10 := by first | omega | (simp (disch := first | assumption | omega) only [↓hp_neg1, hp_l0, hp_l1, hp_l2, hp_l3, hp_l4, hp_l5, hp_l6, hp_l7, hp_l8, hp_l9, hp_l10, hp_l11, hp_l12, hp_l13, hp_l14, hp_l15, hp_l16, hp_l17, hp_l18, hp_l19, hp_l20, hp_l21, hp_l22, hp_l23, hp_l24, hp_l25, hp_l26, hp_l27, hp_l28, hp_l29, hp_l30, hp_l31, hp_l32, hp_l33, hp_l34, hp_l35, hp_l36, hp_l37, hp_l38, hp_l39, hp_l40, hp_l41, hp_l42, hp_l43, hp_l44, hp_l45, hp_l46, hp_l47, hp_l48, hp_l49, hp_l50, hp_l51, hp_l52, hp_l53, hp_l54, hp_l55, hp_l56, hp_l57, hp_l58, hp_l59, hp_l60, hp_l61, hp_l62, hp_l63, hp_l64, hp_l65, hp_l66, hp_l67, hp_l68, hp_l69, hp_l70, hp_l71, hp_l72, hp_l73, hp_l74, hp_l75, hp_l76, hp_l77, hp_l78, hp_l79, hp_l80, hp_l81, hp_l82, hp_l83, hp_l84, hp_l85, hp_l86, hp_l87, hp_l88, hp_l89, hp_l90, hp_l91, hp_l92, hp_l93, hp_l94, hp_l95, hp_l96, hp_l97, hp_l98, hp_l99, hp_l100, hp_l101, hp_l102, hp_l103, hp_l104, hp_l105, hp_l106, hp_l107, hp_l108, hp_l109, hp_l110, hp_l111, hp_l112, hp_l113, hp_l114, hp_l115, hp_l116, hp_l117, hp_l118, hp_l119, hp_l120, hp_l121, hp_l122, hp_l123, hp_l124, hp_l125, hp_l126, hp_l127, hp_l141, hp_l142, hp_l150, hp_l151, hp_l152, hp_l153, hp_l251, hp_l255, hp_l256, hp_l300, hp_l432, hp_l864, hp_l1000, hp_l1600, hp_l1700, hp_l2304, hp_l2916, hp_l3000, hp_l9999, hp_l10000, nI_add, pk_mul, nI_clamp, hl_lt, hl_le, hl_eq, hl_nIb, hl_nsub, hp_eqm, hp_meq, hp_ltm, hp_mlt, hp_lem, hp_mle, hp_addm, hp_meqm, hp_mlem, hp_withinE, hp_within0, if_pos, if_neg, Option.bind_some, hp_let, Sum.elim_inl, Sum.elim_inr, hp_s01, hp_s11, hp_s2, true_and, and_true, if_true, if_false, not_true_eq_false, not_false_eq_true, reduceCtorEq] <;> omega)
      rw [k1, k2, hp_if1, hp_if1, if_pos n1, nI_clamp (by omega), H.lamp hp, hm_lampOf K hp, Option.bind_some]
      by_cases e : P 0 p = v
      · have e' : nI (P 0 p) = nI v := by rw [e]
        rw [if_pos e', if_pos e']
        exact ⟨_, _, _, P, L, rfl, .rf, rfl, .rf, H, A, K, B⟩
      · have e' : ¬ nI (P 0 p) = nI v := by first | omega | (simp (disch := first | assumption | omega) only [↓hp_neg1, hp_l0, hp_l1, hp_l2, hp_l3, hp_l4, hp_l5, hp_l6, hp_l7, hp_l8, hp_l9, hp_l10, hp_l11, hp_l12, hp_l13, hp_l14, hp_l15, hp_l16, hp_l17, hp_l18, hp_l19, hp_l20, hp_l21, hp_l22, hp_l23, hp_l24, hp_l25, hp_l26, hp_l27, hp_l28, hp_l29, hp_l30, hp_l31, hp_l32, hp_l33, hp_l34, hp_l35, hp_l36, hp_l37, hp_l38, hp_l39, hp_l40, hp_l41, hp_l42, hp_l43, hp_l44, hp_l45, hp_l46, hp_l47, hp_l48, hp_l49, hp_l50, hp_l51, hp_l52, hp_l53, hp_l54, hp_l55, hp_l56, hp_l57, hp_l58, hp_l59, hp_l60, hp_l61, hp_l62, hp_l63, hp_l64, hp_l65, hp_l66, hp_l67, hp_l68, hp_l69, hp_l70, hp_l71, hp_l72, hp_l73, hp_l74, hp_l75, hp_l76, hp_l77, hp_l78, hp_l79, hp_l80, hp_l81, hp_l82, hp_l83, hp_l84, hp_l85, hp_l86, hp_l87, hp_l88, hp_l89, hp_l90, hp_l91, hp_l92, hp_l93, hp_l94, hp_l95, hp_l96, hp_l97, hp_l98, hp_l99, hp_l100, hp_l101, hp_l102, hp_l103, hp_l104, hp_l105, hp_l106, hp_l107, hp_l108, hp_l109, hp_l110, hp_l111, hp_l112, hp_l113, hp_l114, hp_l115, hp_l116, hp_l117, hp_l118, hp_l119, hp_l120, hp_l121, hp_l122, hp_l123, hp_l124, hp_l125, hp_l126, hp_l127, hp_l141, hp_l142, hp_l150, hp_l151, hp_l152, hp_l153, hp_l251, hp_l255, hp_l256, hp_l300, hp_l432, hp_l864, hp_l1000, hp_l1600, hp_l1700, hp_l2304, hp_l2916, hp_l3000, hp_l9999, hp_l10000, nI_add, pk_mul, nI_clamp, hl_lt, hl_le, hl_eq, hl_nIb, hl_nsub, hp_eqm, hp_meq, hp_ltm, hp_mlt, hp_lem, hp_mle, hp_addm, hp_meqm, hp_mlem, hp_withinE, hp_within0, if_pos, if_neg, Option.bind_some, hp_let, Sum.elim_inl, Sum.elim_inr, hp_s01, hp_s11, hp_s2, true_and, and_true, if_true, if_false, not_true_eq_false, not_false_eq_true, reduceCtorEq] <;> omega)
        rw [if_neg e', if_neg e', if_pos n1, if_pos n1, H.steps hp]
        obtain ⟨σ1, x1, x2, x3⟩ := hx_keep (Q := hp_setL P p v) H.z A hp (hp_but.sym (hp_setL_but v))
        obtain ⟨τ1, y1, y2, y3⟩ := hm_keeps K.wg K.wp A.2.2.wp K.2.2.2.1 B
        have c1 : (151 + 15 * nI p : Int32).toNatClampNeg = 151 + 15 * p := by simp (disch := first | assumption | omega) only [↓hp_neg1, hp_l0, hp_l1, hp_l2, hp_l3, hp_l4, hp_l5, hp_l6, hp_l7, hp_l8, hp_l9, hp_l10, hp_l11, hp_l12, hp_l13, hp_l14, hp_l15, hp_l16, hp_l17, hp_l18, hp_l19, hp_l20, hp_l21, hp_l22, hp_l23, hp_l24, hp_l25, hp_l26, hp_l27, hp_l28, hp_l29, hp_l30, hp_l31, hp_l32, hp_l33, hp_l34, hp_l35, hp_l36, hp_l37, hp_l38, hp_l39, hp_l40, hp_l41, hp_l42, hp_l43, hp_l44, hp_l45, hp_l46, hp_l47, hp_l48, hp_l49, hp_l50, hp_l51, hp_l52, hp_l53, hp_l54, hp_l55, hp_l56, hp_l57, hp_l58, hp_l59, hp_l60, hp_l61, hp_l62, hp_l63, hp_l64, hp_l65, hp_l66, hp_l67, hp_l68, hp_l69, hp_l70, hp_l71, hp_l72, hp_l73, hp_l74, hp_l75, hp_l76, hp_l77, hp_l78, hp_l79, hp_l80, hp_l81, hp_l82, hp_l83, hp_l84, hp_l85, hp_l86, hp_l87, hp_l88, hp_l89, hp_l90, hp_l91, hp_l92, hp_l93, hp_l94, hp_l95, hp_l96, hp_l97, hp_l98, hp_l99, hp_l100, hp_l101, hp_l102, hp_l103, hp_l104, hp_l105, hp_l106, hp_l107, hp_l108, hp_l109, hp_l110, hp_l111, hp_l112, hp_l113, hp_l114, hp_l115, hp_l116, hp_l117, hp_l118, hp_l119, hp_l120, hp_l121, hp_l122, hp_l123, hp_l124, hp_l125, hp_l126, hp_l127, hp_l141, hp_l142, hp_l150, hp_l151, hp_l152, hp_l153, hp_l251, hp_l255, hp_l256, hp_l300, hp_l432, hp_l864, hp_l1000, hp_l1600, hp_l1700, hp_l2304, hp_l2916, hp_l3000, hp_l9999, hp_l10000, nI_add, pk_mul, nI_clamp, hl_lt, hl_le, hl_eq, hl_nIb, hl_nsub, hp_eqm, hp_meq, hp_ltm, hp_mlt, hp_lem, hp_mle, hp_addm, hp_meqm, hp_mlem, hp_withinE, hp_within0, if_pos, if_neg, Option.bind_some, hp_let, Sum.elim_inl, Sum.elim_inr, hp_s01, hp_s11, hp_s2, true_and, and_true, if_true, if_false, not_true_eq_false, not_false_eq_true, reduceCtorEq]
        have hP' := hp_setL_wp (p := p) H.wp (show v ≤ 2 by omega)
        have e0 : hp_setL P p v 0 p = v := if_pos ⟨rfl, rfl⟩
        have e1 : ∀ q, hp_setL P p v 1 q = P 1 q := fun q => if_neg (fun z => by omega)
        have e2 : ∀ q k, hp_setL P p v (2 + q) k = P (2 + q) k := fun q k => if_neg (fun z => by omega)
        have F1 : hp_fr (hx_A1 p) σ (hl_si σ1 7 p (nI v)) := (x2.mono (fun q f h => by unfold hx_K at h; unfold hx_A1; omega)).si (.inl ⟨rfl, rfl⟩)
        have H0 : hx0 G (hp_setL P p v) (hl_si σ1 7 p (nI v)) := by
          refine hx_setP H.z (hp_setL_but v) hP' F1 ?_ ?_
          · rw [hp_s01, e0]
          · rw [hp_s2, x2.l (by unfold hx_K; omega), H.steps hp, e1, show hp_setL P p v (2 + p) = P (2 + p) from funext (e2 p)]
        have G1 : hp_fr hm_AD τ (hl_si τ1 78 (151 + 15 * p) (nI v)) := (y2.mono (fun q f h => .inr (.inr h))).si (.inl ⟨rfl, by omega⟩)
        rw [x1, Option.bind_some, if_pos n1, y1, Option.bind_some, if_pos (by first | omega | (simp (disch := first | assumption | omega) only [↓hp_neg1, hp_l0, hp_l1, hp_l2, hp_l3, hp_l4, hp_l5, hp_l6, hp_l7, hp_l8, hp_l9, hp_l10, hp_l11, hp_l12, hp_l13, hp_l14, hp_l15, hp_l16, hp_l17, hp_l18, hp_l19, hp_l20, hp_l21, hp_l22, hp_l23, hp_l24, hp_l25, hp_l26, hp_l27, hp_l28, hp_l29, hp_l30, hp_l31, hp_l32, hp_l33, hp_l34, hp_l35, hp_l36, hp_l37, hp_l38, hp_l39, hp_l40, hp_l41, hp_l42, hp_l43, hp_l44, hp_l45, hp_l46, hp_l47, hp_l48, hp_l49, hp_l50, hp_l51, hp_l52, hp_l53, hp_l54, hp_l55, hp_l56, hp_l57, hp_l58, hp_l59, hp_l60, hp_l61, hp_l62, hp_l63, hp_l64, hp_l65, hp_l66, hp_l67, hp_l68, hp_l69, hp_l70, hp_l71, hp_l72, hp_l73, hp_l74, hp_l75, hp_l76, hp_l77, hp_l78, hp_l79, hp_l80, hp_l81, hp_l82, hp_l83, hp_l84, hp_l85, hp_l86, hp_l87, hp_l88, hp_l89, hp_l90, hp_l91, hp_l92, hp_l93, hp_l94, hp_l95, hp_l96, hp_l97, hp_l98, hp_l99, hp_l100, hp_l101, hp_l102, hp_l103, hp_l104, hp_l105, hp_l106, hp_l107, hp_l108, hp_l109, hp_l110, hp_l111, hp_l112, hp_l113, hp_l114, hp_l115, hp_l116, hp_l117, hp_l118, hp_l119, hp_l120, hp_l121, hp_l122, hp_l123, hp_l124, hp_l125, hp_l126, hp_l127, hp_l141, hp_l142, hp_l150, hp_l151, hp_l152, hp_l153, hp_l251, hp_l255, hp_l256, hp_l300, hp_l432, hp_l864, hp_l1000, hp_l1600, hp_l1700, hp_l2304, hp_l2916, hp_l3000, hp_l9999, hp_l10000, nI_add, pk_mul, nI_clamp, hl_lt, hl_le, hl_eq, hl_nIb, hl_nsub, hp_eqm, hp_meq, hp_ltm, hp_mlt, hp_lem, hp_mle, hp_addm, hp_meqm, hp_mlem, hp_withinE, hp_within0, if_pos, if_neg, Option.bind_some, hp_let, Sum.elim_inl, Sum.elim_inr, hp_s01, hp_s11, hp_s2, true_and, and_true, if_true, if_false, not_true_eq_false, not_false_eq_true, reduceCtorEq] <;> omega)), c1]
        refine ⟨_, _, _, hp_setL P p v, hp_push P L, rfl, (x2.mono (fun q f h => by unfold hx_K at h; unfold hx_AD; omega)).si (.inl rfl), rfl, G1, ⟨H0.1, H0.2.1, H0.2.2.1, H0.2.2.2, fun q hq b hb => ?_⟩, ?_, ?_, ?_⟩
        · rw [hp_sn (by omega), x2.i (by unfold hx_K; omega), hp_wh_cong (e1 q) (e2 q)]
          exact H.wh hq hb
        · obtain ⟨z1, z2, z3⟩ := x3
          refine ⟨?_, z2, hx_as.cong (fun j hj => ⟨?_, ?_, ?_⟩) z3⟩
          · rw [hp_sn (by omega)]; exact z1
          · rw [hp_sn (by omega)]
          · rw [hp_sn (by omega)]
          · rw [hp_s2]
        · have Mp : hm_p 78 150 G (hp_setL P p v) (hl_si τ1 78 (151 + 15 * p) (nI v)) := by
            intro q hq
            have hc := (H.wp.cnt hq).2
            refine ⟨?_, ?_, ?_, fun k hk => ?_⟩
            · rw [hp_sn (by omega), y2.i (by unfold hm_K; omega)]; exact K.told hq
            · rw [hl_rd]
              by_cases eq : q = p
              · rw [if_pos ⟨rfl, by omega⟩, eq, e0]
              · rw [if_neg (by omega), y2.i (by unfold hm_K; omega), show hp_setL P p v 0 q = P 0 q from if_neg (fun z => eq z.2)]
                exact K.lamp hq
            · rw [hp_sn (by omega), y2.i (by unfold hm_K; omega), e1]; exact K.cnt hq
            · rw [e1] at hk
              rw [hp_sn (by omega), y2.i (by unfold hm_K; omega), e2]; exact K.step hq hk
          have K0 := hm_setP K.z hP' G1 (fun q f h => by unfold hm_AD hm_K at h; unfold hm_dep0; omega) Mp
          exact ⟨K0.1, K0.2.1, K0.2.2.1, K0.2.2.2, fun q hq b hb => by rw [hp_sn (by omega), y2.i (by unfold hm_K; omega), hp_wh_cong (e1 q) (e2 q)]; exact K.wh hq hb⟩
        · refine y3.fr H.wg x3.2.2.wp (hp_fr.si (D := fun q _ => q = 78) hp_fr.rf rfl) (fun q f h => by unfold hm_K; omega)
    · rw [k1, k2, hp_if0, hp_if0]
      exact ⟨_, _, _, P, L, rfl, .rf, rfl, .rf, H, A, K, B⟩
  · rw [g1, g2, hp_if0, hp_if0]
    exact ⟨_, _, _, P, L, rfl, .rf, rfl, .rf, H, A, K, B⟩
theorem q_undo (H : hx G P σ) (A : hx_a G P L σ) (K : hm G P τ) (B : hm_a G L τ) : ∃ r σ' τ' P' L', f_X_undo σ = some (r, σ') ∧ hp_fr hx_AD σ σ' ∧ f_M_undo τ = some (r, τ') ∧ hp_fr hm_AD τ τ' ∧ hx G P' σ' ∧ hx_a G P' L' σ' ∧ hm G P' τ' ∧ hm_a G L' τ' := by
  have hnp := H.wg.np
  have hwp := A.2.2.wp
  obtain ⟨A1, A2, A3⟩ := A
  obtain ⟨B1, B2, z, B3, B4, B5⟩ := B
  cases L with
  | nil =>
    have a1 : σ.1 58 3 = nI 0 := A1
    have b2 : τ.1 64 50 = nI 0 := B2
    unfold f_X_undo f_M_undo
    rw [a1, b2, show (nI 0 - 1 : Int32) = hp_m1 from rfl, hp_within0, hp_if0, if_pos (by decide)]
    exact ⟨_, _, _, P, [], rfl, .rf, rfl, .rf, H, ⟨A1, A2, A3⟩, K, ⟨B1, B2, z, B3, B4, B5⟩⟩
  | cons P' L =>
    obtain ⟨⟨p, p1, p2, p3, p4, p5⟩, hP', A4⟩ := A3
    have hlen : (P' :: L).length = L.length + 1 := rfl
    rw [hlen] at A1 A2 B1 B2
    have n1 : hl_b (nI L.length) 20 := by first | omega | (simp (disch := first | assumption | omega) only [↓hp_neg1, hp_l0, hp_l1, hp_l2, hp_l3, hp_l4, hp_l5, hp_l6, hp_l7, hp_l8, hp_l9, hp_l10, hp_l11, hp_l12, hp_l13, hp_l14, hp_l15, hp_l16, hp_l17, hp_l18, hp_l19, hp_l20, hp_l21, hp_l22, hp_l23, hp_l24, hp_l25, hp_l26, hp_l27, hp_l28, hp_l29, hp_l30, hp_l31, hp_l32, hp_l33, hp_l34, hp_l35, hp_l36, hp_l37, hp_l38, hp_l39, hp_l40, hp_l41, hp_l42, hp_l43, hp_l44, hp_l45, hp_l46, hp_l47, hp_l48, hp_l49, hp_l50, hp_l51, hp_l52, hp_l53, hp_l54, hp_l55, hp_l56, hp_l57, hp_l58, hp_l59, hp_l60, hp_l61, hp_l62, hp_l63, hp_l64, hp_l65, hp_l66, hp_l67, hp_l68, hp_l69, hp_l70, hp_l71, hp_l72, hp_l73, hp_l74, hp_l75, hp_l76, hp_l77, hp_l78, hp_l79, hp_l80, hp_l81, hp_l82, hp_l83, hp_l84, hp_l85, hp_l86, hp_l87, hp_l88, hp_l89, hp_l90, hp_l91, hp_l92, hp_l93, hp_l94, hp_l95, hp_l96, hp_l97, hp_l98, hp_l99, hp_l100, hp_l101, hp_l102, hp_l103, hp_l104, hp_l105, hp_l106, hp_l107, hp_l108, hp_l109, hp_l110, hp_l111, hp_l112, hp_l113, hp_l114, hp_l115, hp_l116, hp_l117, hp_l118, hp_l119, hp_l120, hp_l121, hp_l122, hp_l123, hp_l124, hp_l125, hp_l126, hp_l127, hp_l141, hp_l142, hp_l150, hp_l151, hp_l152, hp_l153, hp_l251, hp_l255, hp_l256, hp_l300, hp_l432, hp_l864, hp_l1000, hp_l1600, hp_l1700, hp_l2304, hp_l2916, hp_l3000, hp_l9999, hp_l10000, nI_add, pk_mul, nI_clamp, hl_lt, hl_le, hl_eq, hl_nIb, hl_nsub, hp_eqm, hp_meq, hp_ltm, hp_mlt, hp_lem, hp_mle, hp_addm, hp_meqm, hp_mlem, hp_withinE, hp_within0, if_pos, if_neg, Option.bind_some, hp_let, Sum.elim_inl, Sum.elim_inr, hp_s01, hp_s11, hp_s2, true_and, and_true, if_true, if_false, not_true_eq_false, not_false_eq_true, reduceCtorEq] <;> omega)
    have n2 : hl_b (nI p) 10 := by first | omega | (simp (disch := first | assumption | omega) only [↓hp_neg1, hp_l0, hp_l1, hp_l2, hp_l3, hp_l4, hp_l5, hp_l6, hp_l7, hp_l8, hp_l9, hp_l10, hp_l11, hp_l12, hp_l13, hp_l14, hp_l15, hp_l16, hp_l17, hp_l18, hp_l19, hp_l20, hp_l21, hp_l22, hp_l23, hp_l24, hp_l25, hp_l26, hp_l27, hp_l28, hp_l29, hp_l30, hp_l31, hp_l32, hp_l33, hp_l34, hp_l35, hp_l36, hp_l37, hp_l38, hp_l39, hp_l40, hp_l41, hp_l42, hp_l43, hp_l44, hp_l45, hp_l46, hp_l47, hp_l48, hp_l49, hp_l50, hp_l51, hp_l52, hp_l53, hp_l54, hp_l55, hp_l56, hp_l57, hp_l58, hp_l59, hp_l60, hp_l61, hp_l62, hp_l63, hp_l64, hp_l65, hp_l66, hp_l67, hp_l68, hp_l69, hp_l70, hp_l71, hp_l72, hp_l73, hp_l74, hp_l75, hp_l76, hp_l77, hp_l78, hp_l79, hp_l80, hp_l81, hp_l82, hp_l83, hp_l84, hp_l85, hp_l86, hp_l87, hp_l88, hp_l89, hp_l90, hp_l91, hp_l92, hp_l93, hp_l94, hp_l95, hp_l96, hp_l97, hp_l98, hp_l99, hp_l100, hp_l101, hp_l102, hp_l103, hp_l104, hp_l105, hp_l106, hp_l107, hp_l108, hp_l109, hp_l110, hp_l111, hp_l112, hp_l113, hp_l114, hp_l115, hp_l116, hp_l117, hp_l118, hp_l119, hp_l120, hp_l121, hp_l122, hp_l123, hp_l124, hp_l125, hp_l126, hp_l127, hp_l141, hp_l142, hp_l150, hp_l151, hp_l152, hp_l153, hp_l251, hp_l255, hp_l256, hp_l300, hp_l432, hp_l864, hp_l1000, hp_l1600, hp_l1700, hp_l2304, hp_l2916, hp_l3000, hp_l9999, hp_l10000, nI_add, pk_mul, nI_clamp, hl_lt, hl_le, hl_eq, hl_nIb, hl_nsub, hp_eqm, hp_meq, hp_ltm, hp_mlt, hp_lem, hp_mle, hp_addm, hp_meqm, hp_mlem, hp_withinE, hp_within0, if_pos, if_neg, Option.bind_some, hp_let, Sum.elim_inl, Sum.elim_inr, hp_s01, hp_s11, hp_s2, true_and, and_true, if_true, if_false, not_true_eq_false, not_false_eq_true, reduceCtorEq] <;> omega)
    have e1 : nI (L.length + 1) - 1 = nI L.length := nI_pred _
    -- the class
    have F1 : hp_fr (hx_A1 p) σ (hl_sl (hl_si (hl_si σ 58 3 (nI L.length)) 7 p (nI (P' 0 p))) 8 p (lN (hp_pw (P' 1 p) (P' (2 + p)) (P' 1 p)))) := by
      refine ((hp_fr.rf.si ?_).si ?_).sl ?_ <;> (unfold hx_A1; omega)
    obtain ⟨σ2, r1, r2, r3⟩ := hx_setSteps (τ := hl_sl (hl_si (hl_si σ 58 3 (nI L.length)) 7 p (nI (P' 0 p))) 8 p (lN (hp_pw (P' 1 p) (P' (2 + p)) (P' 1 p)))) H p1 p5 hP' F1 (by rw [hp_s1, hp_s01]) hp_s11
    -- the model
    have c20 : (nI z + 20 - 1) - (nI z + 20 - 1) / 20 * 20 = nI ((z + 19) % 20) := by
      rw [show (20 : Int32) = nI 20 from rfl, nI_add, show (1 : Int32) = nI 1 from rfl, pk_sub (by omega), pk_rem (by omega) (by decide) (by decide)]
      rfl
    obtain ⟨P2, q1, q2⟩ := B5 0 (by simp)
    have : P2 = P' := by simpa using q1.symm
    subst this
    rw [show (z + 20 - 0) % 20 = z by omega] at q2
    have cp : ∃ υ, hl_lp f_M_undo_L11 hl_big (0, τ) = some υ ∧ (∀ j, j < 150 → υ.1 78 (150 + j) = τ.1 90 (150 * z + j)) ∧ hp_fr (fun q f => q = 78 ∧ 150 ≤ f) τ υ := by
      refine hp_inv (b := f_M_undo_L11) (s := (0, τ)) 150 (fun k s => s.1 = nI k ∧ (∀ j, j < k → s.2.1 78 (150 + j) = τ.1 90 (150 * z + j)) ∧ hp_fr (fun q f => q = 78 ∧ 150 ≤ f) τ s.2) (fun υ => (∀ j, j < 150 → υ.1 78 (150 + j) = τ.1 90 (150 * z + j)) ∧ hp_fr (fun q f => q = 78 ∧ 150 ≤ f) τ υ) (by omega) ⟨rfl, fun j hj => by omega, .rf⟩ ?_ ?_
      · rintro k ⟨x, υ⟩ hk ⟨a1, a3, F⟩
        dsimp only at a1 a3 F
        subst a1
        have m1 : ¬ (150 : Int32) ≤ nI k := by first | omega | (simp (disch := first | assumption | omega) only [↓hp_neg1, hp_l0, hp_l1, hp_l2, hp_l3, hp_l4, hp_l5, hp_l6, hp_l7, hp_l8, hp_l9, hp_l10, hp_l11, hp_l12, hp_l13, hp_l14, hp_l15, hp_l16, hp_l17, hp_l18, hp_l19, hp_l20, hp_l21, hp_l22, hp_l23, hp_l24, hp_l25, hp_l26, hp_l27, hp_l28, hp_l29, hp_l30, hp_l31, hp_l32, hp_l33, hp_l34, hp_l35, hp_l36, hp_l37, hp_l38, hp_l39, hp_l40, hp_l41, hp_l42, hp_l43, hp_l44, hp_l45, hp_l46, hp_l47, hp_l48, hp_l49, hp_l50, hp_l51, hp_l52, hp_l53, hp_l54, hp_l55, hp_l56, hp_l57, hp_l58, hp_l59, hp_l60, hp_l61, hp_l62, hp_l63, hp_l64, hp_l65, hp_l66, hp_l67, hp_l68, hp_l69, hp_l70, hp_l71, hp_l72, hp_l73, hp_l74, hp_l75, hp_l76, hp_l77, hp_l78, hp_l79, hp_l80, hp_l81, hp_l82, hp_l83, hp_l84, hp_l85, hp_l86, hp_l87, hp_l88, hp_l89, hp_l90, hp_l91, hp_l92, hp_l93, hp_l94, hp_l95, hp_l96, hp_l97, hp_l98, hp_l99, hp_l100, hp_l101, hp_l102, hp_l103, hp_l104, hp_l105, hp_l106, hp_l107, hp_l108, hp_l109, hp_l110, hp_l111, hp_l112, hp_l113, hp_l114, hp_l115, hp_l116, hp_l117, hp_l118, hp_l119, hp_l120, hp_l121, hp_l122, hp_l123, hp_l124, hp_l125, hp_l126, hp_l127, hp_l141, hp_l142, hp_l150, hp_l151, hp_l152, hp_l153, hp_l251, hp_l255, hp_l256, hp_l300, hp_l432, hp_l864, hp_l1000, hp_l1600, hp_l1700, hp_l2304, hp_l2916, hp_l3000, hp_l9999, hp_l10000, nI_add, pk_mul, nI_clamp, hl_lt, hl_le, hl_eq, hl_nIb, hl_nsub, hp_eqm, hp_meq, hp_ltm, hp_mlt, hp_lem, hp_mle, hp_addm, hp_meqm, hp_mlem, hp_withinE, hp_within0, if_pos, if_neg, Option.bind_some, hp_let, Sum.elim_inl, Sum.elim_inr, hp_s01, hp_s11, hp_s2, true_and, and_true, if_true, if_false, not_true_eq_false, not_false_eq_true, reduceCtorEq] <;> omega)
        have c1 : (150 * nI z + nI k : Int32).toNatClampNeg = 150 * z + k := by simp (disch := first | assumption | omega) only [↓hp_neg1, hp_l0, hp_l1, hp_l2, hp_l3, hp_l4, hp_l5, hp_l6, hp_l7, hp_l8, hp_l9, hp_l10, hp_l11, hp_l12, hp_l13, hp_l14, hp_l15, hp_l16, hp_l17, hp_l18, hp_l19, hp_l20, hp_l21, hp_l22, hp_l23, hp_l24, hp_l25, hp_l26, hp_l27, hp_l28, hp_l29, hp_l30, hp_l31, hp_l32, hp_l33, hp_l34, hp_l35, hp_l36, hp_l37, hp_l38, hp_l39, hp_l40, hp_l41, hp_l42, hp_l43, hp_l44, hp_l45, hp_l46, hp_l47, hp_l48, hp_l49, hp_l50, hp_l51, hp_l52, hp_l53, hp_l54, hp_l55, hp_l56, hp_l57, hp_l58, hp_l59, hp_l60, hp_l61, hp_l62, hp_l63, hp_l64, hp_l65, hp_l66, hp_l67, hp_l68, hp_l69, hp_l70, hp_l71, hp_l72, hp_l73, hp_l74, hp_l75, hp_l76, hp_l77, hp_l78, hp_l79, hp_l80, hp_l81, hp_l82, hp_l83, hp_l84, hp_l85, hp_l86, hp_l87, hp_l88, hp_l89, hp_l90, hp_l91, hp_l92, hp_l93, hp_l94, hp_l95, hp_l96, hp_l97, hp_l98, hp_l99, hp_l100, hp_l101, hp_l102, hp_l103, hp_l104, hp_l105, hp_l106, hp_l107, hp_l108, hp_l109, hp_l110, hp_l111, hp_l112, hp_l113, hp_l114, hp_l115, hp_l116, hp_l117, hp_l118, hp_l119, hp_l120, hp_l121, hp_l122, hp_l123, hp_l124, hp_l125, hp_l126, hp_l127, hp_l141, hp_l142, hp_l150, hp_l151, hp_l152, hp_l153, hp_l251, hp_l255, hp_l256, hp_l300, hp_l432, hp_l864, hp_l1000, hp_l1600, hp_l1700, hp_l2304, hp_l2916, hp_l3000, hp_l9999, hp_l10000, nI_add, pk_mul, nI_clamp, hl_lt, hl_le, hl_eq, hl_nIb, hl_nsub, hp_eqm, hp_meq, hp_ltm, hp_mlt, hp_lem, hp_mle, hp_addm, hp_meqm, hp_mlem, hp_withinE, hp_within0, if_pos, if_neg, Option.bind_some, hp_let, Sum.elim_inl, Sum.elim_inr, hp_s01, hp_s11, hp_s2, true_and, and_true, if_true, if_false, not_true_eq_false, not_false_eq_true, reduceCtorEq]
        have c2 : (150 + nI k : Int32).toNatClampNeg = 150 + k := by simp (disch := first | assumption | omega) only [↓hp_neg1, hp_l0, hp_l1, hp_l2, hp_l3, hp_l4, hp_l5, hp_l6, hp_l7, hp_l8, hp_l9, hp_l10, hp_l11, hp_l12, hp_l13, hp_l14, hp_l15, hp_l16, hp_l17, hp_l18, hp_l19, hp_l20, hp_l21, hp_l22, hp_l23, hp_l24, hp_l25, hp_l26, hp_l27, hp_l28, hp_l29, hp_l30, hp_l31, hp_l32, hp_l33, hp_l34, hp_l35, hp_l36, hp_l37, hp_l38, hp_l39, hp_l40, hp_l41, hp_l42, hp_l43, hp_l44, hp_l45, hp_l46, hp_l47, hp_l48, hp_l49, hp_l50, hp_l51, hp_l52, hp_l53, hp_l54, hp_l55, hp_l56, hp_l57, hp_l58, hp_l59, hp_l60, hp_l61, hp_l62, hp_l63, hp_l64, hp_l65, hp_l66, hp_l67, hp_l68, hp_l69, hp_l70, hp_l71, hp_l72, hp_l73, hp_l74, hp_l75, hp_l76, hp_l77, hp_l78, hp_l79, hp_l80, hp_l81, hp_l82, hp_l83, hp_l84, hp_l85, hp_l86, hp_l87, hp_l88, hp_l89, hp_l90, hp_l91, hp_l92, hp_l93, hp_l94, hp_l95, hp_l96, hp_l97, hp_l98, hp_l99, hp_l100, hp_l101, hp_l102, hp_l103, hp_l104, hp_l105, hp_l106, hp_l107, hp_l108, hp_l109, hp_l110, hp_l111, hp_l112, hp_l113, hp_l114, hp_l115, hp_l116, hp_l117, hp_l118, hp_l119, hp_l120, hp_l121, hp_l122, hp_l123, hp_l124, hp_l125, hp_l126, hp_l127, hp_l141, hp_l142, hp_l150, hp_l151, hp_l152, hp_l153, hp_l251, hp_l255, hp_l256, hp_l300, hp_l432, hp_l864, hp_l1000, hp_l1600, hp_l1700, hp_l2304, hp_l2916, hp_l3000, hp_l9999, hp_l10000, nI_add, pk_mul, nI_clamp, hl_lt, hl_le, hl_eq, hl_nIb, hl_nsub, hp_eqm, hp_meq, hp_ltm, hp_mlt, hp_lem, hp_mle, hp_addm, hp_meqm, hp_mlem, hp_withinE, hp_within0, if_pos, if_neg, Option.bind_some, hp_let, Sum.elim_inl, Sum.elim_inr, hp_s01, hp_s11, hp_s2, true_and, and_true, if_true, if_false, not_true_eq_false, not_false_eq_true, reduceCtorEq]
        left
        unfold f_M_undo_L11
        dsimp only
        rw [if_neg m1, F.i (by omega), B4, if_pos (by first | omega | (simp (disch := first | assumption | omega) only [↓hp_neg1, hp_l0, hp_l1, hp_l2, hp_l3, hp_l4, hp_l5, hp_l6, hp_l7, hp_l8, hp_l9, hp_l10, hp_l11, hp_l12, hp_l13, hp_l14, hp_l15, hp_l16, hp_l17, hp_l18, hp_l19, hp_l20, hp_l21, hp_l22, hp_l23, hp_l24, hp_l25, hp_l26, hp_l27, hp_l28, hp_l29, hp_l30, hp_l31, hp_l32, hp_l33, hp_l34, hp_l35, hp_l36, hp_l37, hp_l38, hp_l39, hp_l40, hp_l41, hp_l42, hp_l43, hp_l44, hp_l45, hp_l46, hp_l47, hp_l48, hp_l49, hp_l50, hp_l51, hp_l52, hp_l53, hp_l54, hp_l55, hp_l56, hp_l57, hp_l58, hp_l59, hp_l60, hp_l61, hp_l62, hp_l63, hp_l64, hp_l65, hp_l66, hp_l67, hp_l68, hp_l69, hp_l70, hp_l71, hp_l72, hp_l73, hp_l74, hp_l75, hp_l76, hp_l77, hp_l78, hp_l79, hp_l80, hp_l81, hp_l82, hp_l83, hp_l84, hp_l85, hp_l86, hp_l87, hp_l88, hp_l89, hp_l90, hp_l91, hp_l92, hp_l93, hp_l94, hp_l95, hp_l96, hp_l97, hp_l98, hp_l99, hp_l100, hp_l101, hp_l102, hp_l103, hp_l104, hp_l105, hp_l106, hp_l107, hp_l108, hp_l109, hp_l110, hp_l111, hp_l112, hp_l113, hp_l114, hp_l115, hp_l116, hp_l117, hp_l118, hp_l119, hp_l120, hp_l121, hp_l122, hp_l123, hp_l124, hp_l125, hp_l126, hp_l127, hp_l141, hp_l142, hp_l150, hp_l151, hp_l152, hp_l153, hp_l251, hp_l255, hp_l256, hp_l300, hp_l432, hp_l864, hp_l1000, hp_l1600, hp_l1700, hp_l2304, hp_l2916, hp_l3000, hp_l9999, hp_l10000, nI_add, pk_mul, nI_clamp, hl_lt, hl_le, hl_eq, hl_nIb, hl_nsub, hp_eqm, hp_meq, hp_ltm, hp_mlt, hp_lem, hp_mle, hp_addm, hp_meqm, hp_mlem, hp_withinE, hp_within0, if_pos, if_neg, Option.bind_some, hp_let, Sum.elim_inl, Sum.elim_inr, hp_s01, hp_s11, hp_s2, true_and, and_true, if_true, if_false, not_true_eq_false, not_false_eq_true, reduceCtorEq] <;> omega)), if_pos (by first | omega | (simp (disch := first | assumption | omega) only [↓hp_neg1, hp_l0, hp_l1, hp_l2, hp_l3, hp_l4, hp_l5, hp_l6, hp_l7, hp_l8, hp_l9, hp_l10, hp_l11, hp_l12, hp_l13, hp_l14, hp_l15, hp_l16, hp_l17, hp_l18, hp_l19, hp_l20, hp_l21, hp_l22, hp_l23, hp_l24, hp_l25, hp_l26, hp_l27, hp_l28, hp_l29, hp_l30, hp_l31, hp_l32, hp_l33, hp_l34, hp_l35, hp_l36, hp_l37, hp_l38, hp_l39, hp_l40, hp_l41, hp_l42, hp_l43, hp_l44, hp_l45, hp_l46, hp_l47, hp_l48, hp_l49, hp_l50, hp_l51, hp_l52, hp_l53, hp_l54, hp_l55, hp_l56, hp_l57, hp_l58, hp_l59, hp_l60, hp_l61, hp_l62, hp_l63, hp_l64, hp_l65, hp_l66, hp_l67, hp_l68, hp_l69, hp_l70, hp_l71, hp_l72, hp_l73, hp_l74, hp_l75, hp_l76, hp_l77, hp_l78, hp_l79, hp_l80, hp_l81, hp_l82, hp_l83, hp_l84, hp_l85, hp_l86, hp_l87, hp_l88, hp_l89, hp_l90, hp_l91, hp_l92, hp_l93, hp_l94, hp_l95, hp_l96, hp_l97, hp_l98, hp_l99, hp_l100, hp_l101, hp_l102, hp_l103, hp_l104, hp_l105, hp_l106, hp_l107, hp_l108, hp_l109, hp_l110, hp_l111, hp_l112, hp_l113, hp_l114, hp_l115, hp_l116, hp_l117, hp_l118, hp_l119, hp_l120, hp_l121, hp_l122, hp_l123, hp_l124, hp_l125, hp_l126, hp_l127, hp_l141, hp_l142, hp_l150, hp_l151, hp_l152, hp_l153, hp_l251, hp_l255, hp_l256, hp_l300, hp_l432, hp_l864, hp_l1000, hp_l1600, hp_l1700, hp_l2304, hp_l2916, hp_l3000, hp_l9999, hp_l10000, nI_add, pk_mul, nI_clamp, hl_lt, hl_le, hl_eq, hl_nIb, hl_nsub, hp_eqm, hp_meq, hp_ltm, hp_mlt, hp_lem, hp_mle, hp_addm, hp_meqm, hp_mlem, hp_withinE, hp_within0, if_pos, if_neg, Option.bind_some, hp_let, Sum.elim_inl, Sum.elim_inr, hp_s01, hp_s11, hp_s2, true_and, and_true, if_true, if_false, not_true_eq_false, not_false_eq_true, reduceCtorEq] <;> omega)), c1, c2, nI_1]
        refine ⟨_, rfl, rfl, fun j hj => ?_, F.si ⟨rfl, by omega⟩⟩
        dsimp only
        rw [hl_rd]
        by_cases e : j = k
        · rw [if_pos ⟨rfl, by omega⟩, e, F.i (by omega)]
        · rw [if_neg (fun y => e (by omega))]; exact a3 j (by omega)
      · rintro ⟨x, υ⟩ ⟨a1, a3, F⟩
        dsimp only at a1 a3 F
        subst a1
        unfold f_M_undo_L11
        dsimp only
        rw [if_pos (by decide)]
        exact ⟨_, rfl, a3, F⟩
    obtain ⟨υ, u1, u2, u3⟩ := cp
    have e50 : υ.1 64 50 = nI (L.length + 1) := by rw [u3.i (by omega)]; exact B2
    have e51 : υ.1 64 51 = nI z := by rw [u3.i (by omega)]; exact B4
    have F2 : hp_fr (fun q f => (q = 78 ∧ 150 ≤ f) ∨ (q = 64 ∧ (f = 50 ∨ f = 51))) τ (hl_si (hl_si υ 64 51 (nI ((z + 19) % 20))) 64 50 (nI L.length)) := by
      refine (((u3.mono (fun q f h => .inl h))).si ?_).si ?_ <;> omega
    have Mp : hm_p 78 150 G P2 (hl_si (hl_si υ 64 51 (nI ((z + 19) % 20))) 64 50 (nI L.length)) := q2.cong hnp hP' (fun k hk => by rw [hp_sn (by omega), hp_sn (by omega)]; exact u2 k hk)
    have K0 := hm_setP K.z hP' F2 (fun q f h => by unfold hm_dep0; omega) Mp
    obtain ⟨τ2, w1, w2, w3⟩ := hm_walks K0
    have K2 := K0.fr w3 (fun q f h => by unfold hm_dep0; omega)
    have hz : (z + 19) % 20 < 20 := Nat.mod_lt _ (by decide)
    have bA : ∀ (i : Nat) (Q : hp_G), L[i]? = some Q → hp_wp G Q := fun i Q h => hwp (i + 1) Q (by simpa using h)
    have FM : hp_fr (fun q f => (q = 78 ∧ 150 ≤ f) ∨ (q = 64 ∧ (f = 50 ∨ f = 51)) ∨ q = 83) τ τ2 := (F2.mono (fun q f h => by omega)).tr (w3.mono (fun q f h => by omega))
    have hX : f_X_undo σ = some (1, σ2) := by
      unfold f_X_undo
      rw [A1, e1, show (20 : Int32) = nI 20 from rfl, hp_withinT (show L.length < 20 by omega) (by decide), hp_if1, if_pos n1, nI_clamp (by omega)]
      simp only [hp_sn (show ¬ (59 = 58 ∧ L.length = 3) by omega), hp_sn (show ¬ (60 = 58 ∧ L.length = 3) by omega), hp_sn (show ¬ (4 = 58 ∧ 3 = 3) by omega), hp_s2, p2, p3, p4, H.np, nI_clamp (show p < 2 ^ 31 by omega)]
      rw [hp_withinT p1 (by omega), hp_if1, if_pos n1, if_pos n2, if_pos n1, if_pos n2, r1]
      rfl
    have hM : f_M_undo τ = some (1, τ2) := by
      unfold f_M_undo
      rw [B2, if_neg (by first | omega | (simp (disch := first | assumption | omega) only [↓hp_neg1, hp_l0, hp_l1, hp_l2, hp_l3, hp_l4, hp_l5, hp_l6, hp_l7, hp_l8, hp_l9, hp_l10, hp_l11, hp_l12, hp_l13, hp_l14, hp_l15, hp_l16, hp_l17, hp_l18, hp_l19, hp_l20, hp_l21, hp_l22, hp_l23, hp_l24, hp_l25, hp_l26, hp_l27, hp_l28, hp_l29, hp_l30, hp_l31, hp_l32, hp_l33, hp_l34, hp_l35, hp_l36, hp_l37, hp_l38, hp_l39, hp_l40, hp_l41, hp_l42, hp_l43, hp_l44, hp_l45, hp_l46, hp_l47, hp_l48, hp_l49, hp_l50, hp_l51, hp_l52, hp_l53, hp_l54, hp_l55, hp_l56, hp_l57, hp_l58, hp_l59, hp_l60, hp_l61, hp_l62, hp_l63, hp_l64, hp_l65, hp_l66, hp_l67, hp_l68, hp_l69, hp_l70, hp_l71, hp_l72, hp_l73, hp_l74, hp_l75, hp_l76, hp_l77, hp_l78, hp_l79, hp_l80, hp_l81, hp_l82, hp_l83, hp_l84, hp_l85, hp_l86, hp_l87, hp_l88, hp_l89, hp_l90, hp_l91, hp_l92, hp_l93, hp_l94, hp_l95, hp_l96, hp_l97, hp_l98, hp_l99, hp_l100, hp_l101, hp_l102, hp_l103, hp_l104, hp_l105, hp_l106, hp_l107, hp_l108, hp_l109, hp_l110, hp_l111, hp_l112, hp_l113, hp_l114, hp_l115, hp_l116, hp_l117, hp_l118, hp_l119, hp_l120, hp_l121, hp_l122, hp_l123, hp_l124, hp_l125, hp_l126, hp_l127, hp_l141, hp_l142, hp_l150, hp_l151, hp_l152, hp_l153, hp_l251, hp_l255, hp_l256, hp_l300, hp_l432, hp_l864, hp_l1000, hp_l1600, hp_l1700, hp_l2304, hp_l2916, hp_l3000, hp_l9999, hp_l10000, nI_add, pk_mul, nI_clamp, hl_lt, hl_le, hl_eq, hl_nIb, hl_nsub, hp_eqm, hp_meq, hp_ltm, hp_mlt, hp_lem, hp_mle, hp_addm, hp_meqm, hp_mlem, hp_withinE, hp_within0, if_pos, if_neg, Option.bind_some, hp_let, Sum.elim_inl, Sum.elim_inr, hp_s01, hp_s11, hp_s2, true_and, and_true, if_true, if_false, not_true_eq_false, not_false_eq_true, reduceCtorEq] <;> omega)), u1, Option.bind_some, e51, c20, hp_sn (by omega), e50, e1, hp_let, w1]
      rfl
    have FX : hp_fr hx_AD σ σ2 := (F1.mono (fun q f h => by unfold hx_A1 at h; unfold hx_AD; omega)).tr (r3.mono (fun q f h => by unfold hx_AD; omega))
    refine ⟨1, σ2, τ2, P2, L, hX, FX, hM, FM.mono (fun q f h => by unfold hm_AD hm_K; omega), r2, ⟨?_, by omega, A4.cong (fun j hj => ⟨?_, ?_, ?_⟩)⟩, ⟨K2.1, K2.2.1, K2.2.2.1, K2.2.2.2, w2⟩, ⟨by omega, ?_, (z + 19) % 20, hz, ?_, fun i hi => ?_⟩⟩
    · rw [r3.i (by omega), hp_s1, hp_sn (by omega), hp_s01]
    · rw [r3.i (by omega), hp_s1, hp_sn (by omega), hp_sn (by omega)]
    · rw [r3.i (by omega), hp_s1, hp_sn (by omega), hp_sn (by omega)]
    · rw [r3.l (by omega), hp_sln (by omega)]; rfl
    · rw [w3.i (by omega), hp_s01]
    · rw [w3.i (by omega), hp_sn (by omega), hp_s01]
    · obtain ⟨Q, x1, x2⟩ := B5 (i + 1) (by simp; exact hi)
      have hr : (z + 20 - (i + 1)) % 20 = ((z + 19) % 20 + 20 - i) % 20 := by omega
      rw [hr] at x2
      exact ⟨Q, by simpa using x1, x2.cong hnp (bA i Q (by simpa using x1)) (fun k _ => FM.i (by omega))⟩
end UN
