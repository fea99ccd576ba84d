/-! ask, both in step -/
def hx_ZD (q f : Nat) : Prop := (q = 1 ∧ f = 1) ∨ q = 3 ∨ q = 37 ∨ (55 ≤ q ∧ q ≤ 57)
def hm_ZD (q f : Nat) : Prop := (q = 64 ∧ (f ≤ 9 ∨ f = 19 ∨ (72 ≤ f ∧ f ≤ 80))) ∨ (110 ≤ q ∧ q ≤ 112)
section ASK
variable {G P : hp_G} {σ τ σ' τ' υ : hl_M} {n k j N bb o bs kd : Nat} {b : Nat → Nat}
theorem hx_UD_ZD : ∀ q f, hx_UD q f → hx_ZD q f := fun q f h => by unfold hx_UD hx_QD at h; unfold hx_ZD; omega
theorem hm_QD_ZD : ∀ q f, hm_QD q f → hm_ZD q f := fun q f h => by unfold hm_QD hm_FD at h; unfold hm_ZD; omega
theorem hm_UD_ZD : ∀ q f, hm_UD q f → hm_ZD q f := fun q f h => by unfold hm_UD hm_QD hm_FD at h; unfold hm_ZD; omega
theorem q_ask (H : hx G P σ) (T : hx_t n b σ) (F : q_f σ τ) (KQ : hm_kq τ) (K : hm G P τ) (O : hm_o 1000 1000 0 τ) (U : hm_t n b τ) : ∃ r σ' τ', f_X_ask σ = some (r, σ') ∧ hp_fr hx_ZD σ σ' ∧ f_M_ask τ = some (r, τ') ∧ hp_fr hm_ZD τ τ' ∧ hx_t 0 b σ' ∧ hm_t 0 b τ' ∧ q_f σ' τ' := by
  have t0 : ∀ {σ1 : hl_M}, σ1.1 1 1 = 0 → hx_t 0 b σ1 := fun h => ⟨Nat.zero_le _, h, fun k hk => absurd hk (Nat.not_lt_zero k)⟩
  have u0 : ∀ {σ1 : hl_M}, σ1.1 64 1 = 0 → hm_t 0 b σ1 := fun h => ⟨Nat.zero_le _, h, fun k hk => absurd hk (Nat.not_lt_zero k)⟩
  by_cases h0 : G 0 0 = 0
  · have eX : σ.1 4 0 = 0 := by rw [H.W, h0]; rfl
    have eM : τ.1 64 30 = 0 := by rw [K.W, h0]; rfl
    unfold f_X_ask f_M_ask
    rw [if_pos eX, if_pos eM]
    exact ⟨_, _, _, rfl, hp_fr.rf.si (.inl ⟨rfl, rfl⟩), rfl, hp_fr.rf.si (.inl ⟨rfl, .inl (by omega)⟩), t0 hp_s01, u0 hp_s01, by rw [hp_sn (by omega), hp_sn (by omega)]; exact F.1, by rw [hp_sn (by omega), hp_sn (by omega)]; exact F.2⟩
  · have hW := H.wg.W
    have nX : ¬ σ.1 4 0 = 0 := by rw [H.W]; first | omega | (simp (disch := first | assumption | omega) only [↓hp_neg1, hp_l0, hp_l1, hp_l2, hp_l3, hp_l4, hp_l5, hp_l6, hp_l7, hp_l8, hp_l9, hp_l10, hp_l11, hp_l12, hp_l13, hp_l14, hp_l15, hp_l16, hp_l17, hp_l18, hp_l19, hp_l20, hp_l21, hp_l22, hp_l23, hp_l24, hp_l25, hp_l26, hp_l27, hp_l28, hp_l29, hp_l30, hp_l31, hp_l32, hp_l33, hp_l34, hp_l35, hp_l36, hp_l37, hp_l38, hp_l39, hp_l40, hp_l41, hp_l42, hp_l43, hp_l44, hp_l45, hp_l46, hp_l47, hp_l48, hp_l49, hp_l50, hp_l51, hp_l52, hp_l53, hp_l54, hp_l55, hp_l56, hp_l57, hp_l58, hp_l59, hp_l60, hp_l61, hp_l62, hp_l63, hp_l64, hp_l65, hp_l66, hp_l67, hp_l68, hp_l69, hp_l70, hp_l71, hp_l72, hp_l73, hp_l74, hp_l75, hp_l76, hp_l77, hp_l78, hp_l79, hp_l80, hp_l81, hp_l82, hp_l83, hp_l84, hp_l85, hp_l86, hp_l87, hp_l88, hp_l89, hp_l90, hp_l91, hp_l92, hp_l93, hp_l94, hp_l95, hp_l96, hp_l97, hp_l98, hp_l99, hp_l100, hp_l101, hp_l102, hp_l103, hp_l104, hp_l105, hp_l106, hp_l107, hp_l108, hp_l109, hp_l110, hp_l111, hp_l112, hp_l113, hp_l114, hp_l115, hp_l116, hp_l117, hp_l118, hp_l119, hp_l120, hp_l121, hp_l122, hp_l123, hp_l124, hp_l125, hp_l126, hp_l127, hp_l141, hp_l142, hp_l150, hp_l151, hp_l152, hp_l153, hp_l251, hp_l255, hp_l256, hp_l300, hp_l432, hp_l864, hp_l1000, hp_l1600, hp_l1700, hp_l2304, hp_l2916, hp_l3000, hp_l9999, hp_l10000, nI_add, pk_mul, nI_clamp, hl_lt, hl_le, hl_eq, hl_nIb, hl_nsub, hp_eqm, hp_meq, hp_ltm, hp_mlt, hp_lem, hp_mle, hp_addm, hp_meqm, hp_mlem, hp_withinE, hp_within0, if_pos, if_neg, Option.bind_some, hp_let, Sum.elim_inl, Sum.elim_inr, hp_s01, hp_s11, hp_s2, true_and, and_true, if_true, if_false, not_true_eq_false, not_false_eq_true, reduceCtorEq] <;> omega)
    have nM : ¬ τ.1 64 30 = 0 := by rw [K.W]; first | omega | (simp (disch := first | assumption | omega) only [↓hp_neg1, hp_l0, hp_l1, hp_l2, hp_l3, hp_l4, hp_l5, hp_l6, hp_l7, hp_l8, hp_l9, hp_l10, hp_l11, hp_l12, hp_l13, hp_l14, hp_l15, hp_l16, hp_l17, hp_l18, hp_l19, hp_l20, hp_l21, hp_l22, hp_l23, hp_l24, hp_l25, hp_l26, hp_l27, hp_l28, hp_l29, hp_l30, hp_l31, hp_l32, hp_l33, hp_l34, hp_l35, hp_l36, hp_l37, hp_l38, hp_l39, hp_l40, hp_l41, hp_l42, hp_l43, hp_l44, hp_l45, hp_l46, hp_l47, hp_l48, hp_l49, hp_l50, hp_l51, hp_l52, hp_l53, hp_l54, hp_l55, hp_l56, hp_l57, hp_l58, hp_l59, hp_l60, hp_l61, hp_l62, hp_l63, hp_l64, hp_l65, hp_l66, hp_l67, hp_l68, hp_l69, hp_l70, hp_l71, hp_l72, hp_l73, hp_l74, hp_l75, hp_l76, hp_l77, hp_l78, hp_l79, hp_l80, hp_l81, hp_l82, hp_l83, hp_l84, hp_l85, hp_l86, hp_l87, hp_l88, hp_l89, hp_l90, hp_l91, hp_l92, hp_l93, hp_l94, hp_l95, hp_l96, hp_l97, hp_l98, hp_l99, hp_l100, hp_l101, hp_l102, hp_l103, hp_l104, hp_l105, hp_l106, hp_l107, hp_l108, hp_l109, hp_l110, hp_l111, hp_l112, hp_l113, hp_l114, hp_l115, hp_l116, hp_l117, hp_l118, hp_l119, hp_l120, hp_l121, hp_l122, hp_l123, hp_l124, hp_l125, hp_l126, hp_l127, hp_l141, hp_l142, hp_l150, hp_l151, hp_l152, hp_l153, hp_l251, hp_l255, hp_l256, hp_l300, hp_l432, hp_l864, hp_l1000, hp_l1600, hp_l1700, hp_l2304, hp_l2916, hp_l3000, hp_l9999, hp_l10000, nI_add, pk_mul, nI_clamp, hl_lt, hl_le, hl_eq, hl_nIb, hl_nsub, hp_eqm, hp_meq, hp_ltm, hp_mlt, hp_lem, hp_mle, hp_addm, hp_meqm, hp_mlem, hp_withinE, hp_within0, if_pos, if_neg, Option.bind_some, hp_let, Sum.elim_inl, Sum.elim_inr, hp_s01, hp_s11, hp_s2, true_and, and_true, if_true, if_false, not_true_eq_false, not_false_eq_true, reduceCtorEq] <;> omega)
    obtain ⟨σ1, τ1, w, x, a1, a2, a3, a4, a5⟩ := q_under T U KQ
    obtain ⟨A0, A1⟩ := hm_ask0_f (τ := τ)
    have e1 : τ1.1 64 1 = 0 := by rw [a4.i (by unfold hm_QD hm_FD; omega)]; exact A1
    have FM1 : hp_fr hm_ZD τ τ1 := (A0.mono hm_UD_ZD).tr (a4.mono hm_QD_ZD)
    have F7 : hp_fr (fun q f => q = 64 ∧ (f = 7 ∨ f = 8)) τ1 (hl_si (hl_si τ1 64 7 (τ1.1 64 5)) 64 8 ((hl_si τ1 64 7 (τ1.1 64 5)).1 64 6)) := (hp_fr.rf.si ⟨rfl, by omega⟩).si ⟨rfl, by omega⟩
    have FM2 : hp_fr hm_ZD τ (hl_si (hl_si τ1 64 7 (τ1.1 64 5)) 64 8 ((hl_si τ1 64 7 (τ1.1 64 5)).1 64 6)) := FM1.tr (F7.mono (fun q f h => by unfold hm_ZD; omega))
    have g7 : (hl_si (hl_si τ1 64 7 (τ1.1 64 5)) 64 8 ((hl_si τ1 64 7 (τ1.1 64 5)).1 64 6)).1 64 7 = τ1.1 64 5 := by rw [hp_sn (by omega), hp_s01]
    have g8 : (hl_si (hl_si τ1 64 7 (τ1.1 64 5)) 64 8 ((hl_si τ1 64 7 (τ1.1 64 5)).1 64 6)).1 64 8 = τ1.1 64 6 := by rw [hp_s01, hp_sn (by omega)]
    have g5 : (hl_si (hl_si τ1 64 7 (τ1.1 64 5)) 64 8 ((hl_si τ1 64 7 (τ1.1 64 5)).1 64 6)).1 64 5 = τ1.1 64 5 := by rw [hp_sn (by omega), hp_sn (by omega)]
    have g1 : (hl_si (hl_si τ1 64 7 (τ1.1 64 5)) 64 8 ((hl_si τ1 64 7 (τ1.1 64 5)).1 64 6)).1 64 1 = 0 := by rw [F7.i (by omega)]; exact e1
    have FX1 : hp_fr hx_ZD σ (hl_si σ1 1 1 0) := (a3.mono hx_UD_ZD).si (.inl ⟨rfl, rfl⟩)
    rw [hm_askM nM, a2, Option.bind_some]
    unfold f_X_ask f_M_ask_j128
    rw [if_neg nX, a1, Option.bind_some]
    dsimp only
    rw [g5]
    rcases a5 with ⟨rfl, kd, l, hk, rfl, e9, QX, QM, hl, ok, hG, hT⟩ | ⟨rfl, no⟩
    · obtain ⟨r, σ2, τ2, b1, b2, b3, b4⟩ := q_answer (σ := hl_si σ1 1 1 0) (H.fr FX1 (fun q f h => by unfold hx_ZD at h; omega)) (K.fr FM2 (fun q f h => by unfold hm_ZD at h; unfold hm_dep; omega)) ⟨O.1, O.2.1, O.2.2.1, by rw [FM2.i (by unfold hm_ZD; omega)]; exact O.2.2.2.1, by rw [FM2.i (by unfold hm_ZD; omega)]; exact O.2.2.2.2.1, fun h => absurd rfl h⟩ (QX.fr (hp_fr.rf.si (D := fun q f => q = 1 ∧ f = 1) ⟨rfl, rfl⟩) (fun q f h => by omega)) (QM.fr F7 (fun q f h => by omega)) hl hk (by rw [hp_sn (by omega)]; exact e9) hG hT
      rw [if_neg (by decide), b1, Option.bind_some, if_pos ok.x.2]
      have j : (if 2 ≤ nI kd then f_M_ask_j168 (nI kd) 0 (hl_si (hl_si τ1 64 7 (τ1.1 64 5)) 64 8 ((hl_si τ1 64 7 (τ1.1 64 5)).1 64 6)) else f_M_ask_j168 (nI kd) (-1) (hl_si (hl_si τ1 64 7 (τ1.1 64 5)) 64 8 ((hl_si τ1 64 7 (τ1.1 64 5)).1 64 6))) = some (r, τ2) := by
        have q : (2 : Int32) ≤ nI kd ↔ 2 ≤ kd := hl_le (a := 2) (by omega) (by omega)
        by_cases c : kd < 2
        · rw [if_pos c] at b3
          rw [if_neg (fun z => by have := q.mp z; omega)]; exact b3
        · rw [if_neg c] at b3
          rw [if_pos (q.mpr (by omega))]; exact b3
      rw [j]
      refine ⟨r, σ2, τ2, rfl, FX1.tr (b2.mono (fun q f h => by unfold hx_VD hx_PD at h; unfold hx_ZD; omega)), rfl, FM2.tr (b4.mono (fun q f h => by unfold hm_WD hm_PD at h; unfold hm_ZD; omega)), t0 ?_, u0 ?_, ?_, ?_⟩
      · rw [b2.i (by unfold hx_VD hx_PD; omega), hp_s01]
      · rw [b4.i (by unfold hm_WD hm_PD; omega)]; exact g1
      · rw [b2.i (by unfold hx_VD hx_PD; omega), hp_sn (by omega), b4.i (by unfold hm_WD hm_PD; omega), g7, ok.x.1, ok.x.2]
      · rw [b2.i (by unfold hx_VD hx_PD; omega), hp_sn (by omega), b4.i (by unfold hm_WD hm_PD; omega), g8, ok.n5.1, ok.n5.2]
    · rw [if_pos rfl, if_neg no.x.2]
      refine ⟨_, _, _, rfl, FX1, rfl, FM2, t0 hp_s01, u0 g1, ?_, ?_⟩
      · rw [hp_sn (by omega), g7, no.2.1]
      · rw [hp_sn (by omega), g8, no.2.2.2]
end ASK
