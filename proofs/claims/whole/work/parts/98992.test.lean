/-! questions: tests, both sides -/
def hq_shT (o : Nat) (l Wt : List Nat) (w : Int32) : Prop := (Wt = [] ∧ w = 0 ∧ hq_T (5 + 3 * (6 - o)) l) ∨ ∃ l1 l2, Wt = [11] ∧ w = 1 ∧ l = l1 ++ l2 ∧ hq_T (6 + 3 * (6 - o)) l1 ∧ hq_T (5 + 3 * (6 - o)) l2
section TEST
variable {σ τ σ' τ' τ1 υ r : hl_M} {n a s t k j v K i d x o bs br cd N : Nat} {b : Nat → Nat} {C CX CM W T Wt l cM pd : List Nat} {w v1 v4 : Int32} {rec : Nat → hl_M → Option hl_M}
theorem hx_L8T (h36 : f_Rd_isWord 36 σ = some 0) (h37 : f_Rd_isWord 37 σ = some 0) : f_Qu_takeTest_L8 rec (w, v1, σ) = some (.inr (w, σ)) := by
  unfold f_Qu_takeTest_L8
  dsimp only
  by_cases h : 1600 ≤ v1
  · rw [if_pos h]
  · rw [if_neg h, h36, Option.bind_some, if_pos rfl, h37, Option.bind_some, if_pos rfl]
theorem q_testL (FO : q_FO n b rec o) (hW : hq_tw W) (hWs : W = [] ∨ ∃ W', W = 25 :: W') : ∀ d, ∀ σ τ a i l cM T Wt w, n - a ≤ d → q_b n b a σ τ → q_c (C ++ l) cM (T ++ (Wt ++ W)) o 0 a σ τ → cM ++ T = C ++ l → (T = [] ∨ T = [10]) → i ≤ a → hq_shT o l Wt w → ∃ w' σ', (∀ f, d + 2 ≤ f → hl_lp (f_Qu_takeTest_L8 rec) f (w, nI i, σ) = some (w', σ')) ∧ hp_fr hx_QD σ σ' ∧ ((∃ a' τ' l' cM' T' Wt', a ≤ a' ∧ q_b n b a' σ' τ' ∧ q_c (C ++ l') cM' (T' ++ (Wt' ++ W)) o 0 a' σ' τ' ∧ cM' ++ T' = C ++ l' ∧ (T' = [] ∨ T' = [10]) ∧ hq_shT o l' Wt' w' ∧ f_Rd_isWord 36 σ' = some 0 ∧ f_Rd_isWord 37 σ' = some 0 ∧ hp_fr hm_QD τ τ' ∧ ∀ r, hm_RH n a' τ' r → hm_RH n a τ r) ∨ (∃ τ', q_no σ' τ' ∧ hp_fr hm_QD τ τ' ∧ hm_RH n a τ τ')) := by
  intro d
  have z0 : ¬ (1 : Int32) = 0 := by decide
  induction d with
  | zero =>
    intro σ τ a i l cM T Wt w hd B Q hcT hT hi sh
    have hn := B.1.1
    obtain ⟨s, hs, R1, K1, H1, F1, lk, -, nH⟩ := B.normT
    have ha := B.2.2.2.2.2
    have hsn := H1.2.2.2
    obtain ⟨K, A⟩ := hq_at.ex B.1 H1
    have lo := fun h => hq_at.lo B.1 H1 A h
    have w17 : f_Rd_isWord 36 σ = some (if K = 17 then 1 else 0) := (q_wd B.1 R1 K1 H1 A (i := 17) (by omega)).1
    have w18 : f_Rd_isWord 37 σ = some (if K = 18 then 1 else 0) := (q_wd B.1 R1 K1 H1 A (i := 18) (by omega)).1
    rw [if_neg (fun e => by have := (lo (by omega)).2.1; omega)] at w17
    rw [if_neg (fun e => by have := (lo (by omega)).2.1; omega)] at w18
    refine ⟨w, σ, fun f hf => ?_, .rf, .inl ⟨a, τ, l, cM, T, Wt, Nat.le_refl _, B, Q, hcT, hT, sh, w17, w18, .rf, fun r h => h⟩⟩
    obtain ⟨f, rfl⟩ : ∃ g, f = g + 1 := ⟨f - 1, by omega⟩
    exact hl_lp_e (hx_L8T w17 w18)
  | succ d ih =>
    intro σ τ a i l cM T Wt w hd B Q hcT hT hi sh
    have hn := B.1.1
    obtain ⟨s, hs, R1, K1, H1, F1, lk, -, nH⟩ := B.normT
    have ha := B.2.2.2.2.2
    have hsn := H1.2.2.2
    obtain ⟨QX, QM, Qb, Ql⟩ := Q.FD F1 hs
    obtain ⟨K, A⟩ := hq_at.ex B.1 H1
    have lo := fun h => hq_at.lo B.1 H1 A h
    have w17 : f_Rd_isWord 36 σ = some (if K = 17 then 1 else 0) := (q_wd B.1 R1 K1 H1 A (i := 17) (by omega)).1
    have w18 : f_Rd_isWord 37 σ = some (if K = 18 then 1 else 0) := (q_wd B.1 R1 K1 H1 A (i := 18) (by omega)).1
    have m17 : f_M_isHere 98 (hl_si τ 64 2 (nI s)) = some (if K = 17 then 1 else 0, hl_si τ 64 2 (nI s)) := (q_wd B.1 R1 K1 H1 A (i := 17) (by omega)).2
    have m18 : f_M_isHere 99 (hl_si τ 64 2 (nI s)) = some (if K = 18 then 1 else 0, hl_si τ 64 2 (nI s)) := (q_wd B.1 R1 K1 H1 A (i := 18) (by omega)).2
    have hlen : cM.length + T.length = C.length + l.length := by rw [← List.length_append, hcT, List.length_append]
    have hTW : (T ++ (Wt ++ W)).length = T.length + (Wt.length + W.length) := by rw [List.length_append, List.length_append]
    have hWtW : (Wt ++ W).length = Wt.length + W.length := List.length_append
    rw [hTW] at Ql
    have hT3 : ∀ x ∈ T, x = 10 := by
      rcases hT with rfl | rfl
      · intro x hx; cases hx
      · intro x hx; exact List.mem_singleton.mp hx
    have hWt : ∀ x ∈ Wt, x = 11 := by
      rcases sh with ⟨rfl, -⟩ | ⟨l1, l2, rfl, -⟩
      · intro x hx; cases hx
      · intro x hx; exact List.mem_singleton.mp hx
    have hWh : ∀ x V, W = x :: V → x = 25 := by
      intro x V e
      rcases hWs with rfl | ⟨W', rfl⟩
      · cases e
      · exact (List.cons.inj e).1.symm
    -- what follows a word that was pushed
    have go : ∀ (σ2 τ2 : hl_M) (t u : Nat) (W2 : List Nat) (l2 : List Nat), (u = 10 ∨ u = 11) → a < t → (∀ x ∈ W2, x = 11) → q_b n b t σ2 τ2 → q_c (C ++ l2) (C ++ l2) (u :: (W2 ++ W)) o 0 t σ2 τ2 → hp_fr hx_QD σ σ2 → hp_fr hm_QD τ τ2 → (∀ r, hm_RT n t τ2 r → hm_RH n a τ r) →
        ∃ σ3, rec 1 σ2 = some σ3 ∧ hp_fr hx_QD σ σ3 ∧ ((∃ a3 τ3 lp, t < a3 ∧ q_b n b a3 σ3 τ3 ∧ q_c (C ++ l2 ++ lp) (C ++ l2 ++ lp) (u :: (W2 ++ W)) o 0 a3 σ3 τ3 ∧ hp_fr hm_QD τ τ3 ∧ hq_T (4 + 3 * (6 - o)) lp ∧ ∀ r, hm_RH n a3 τ3 r → hm_RH n a τ r) ∨ (∃ τ3, q_no σ3 τ3 ∧ hp_fr hm_QD τ τ3 ∧ hm_RH n a τ τ3)) := by
      intro σ2 τ2 t u W2 l2 hu hat hW2 B2 Q2 FX FM hRT
      obtain ⟨σ3, p1, p2, p3⟩ := FO σ2 τ2 t (C ++ l2) (u :: (W2 ++ W)) B2 Q2 (by
        intro x hx
        rcases List.mem_cons.mp hx with h | h
        · omega
        · rcases List.mem_append.mp h with h | h
          · have := hW2 x h; omega
          · exact hW x h)
      refine ⟨σ3, p1, FX.tr p2, ?_⟩
      rcases p3 with ⟨a3, τ3, lp, g1, g2, g3, g4, g5, g6⟩ | ⟨τ3, g1, g2, g3⟩
      · refine .inl ⟨a3, τ3, lp, g1, g2, g3, FM.tr g4, g5, fun r hr => hRT r (g6 r ?_)⟩
        have hl3 := g3.2.2.2
        have ha3 := g2.2.2.2.2.2
        refine hm_RD.done g3.2.1 (fun x V e => ?_) g2.2.2.2.1.x.2 (by omega) hr
        have ex := (List.cons.inj e).1
        omega
      · exact .inr ⟨τ3, g1, FM.tr g2, hRT _ g3⟩
    -- after a fault
    have dead : ∀ (w2 : Int32) (σ3 τ3 : hl_M) (st : f_Qu_takeTest_L8 rec (w, nI i, σ) = some (.inl (w2, nI i + 1, σ3))), q_no σ3 τ3 → hp_fr hx_QD σ σ3 → hp_fr hm_QD τ τ3 → hm_RH n a τ τ3 → ∃ w' σ', (∀ f, d + 1 + 2 ≤ f → hl_lp (f_Qu_takeTest_L8 rec) f (w, nI i, σ) = some (w', σ')) ∧ hp_fr hx_QD σ σ' ∧ ((∃ a' τ' l' cM' T' Wt', a ≤ a' ∧ q_b n b a' σ' τ' ∧ q_c (C ++ l') cM' (T' ++ (Wt' ++ W)) o 0 a' σ' τ' ∧ cM' ++ T' = C ++ l' ∧ (T' = [] ∨ T' = [10]) ∧ hq_shT o l' Wt' w' ∧ f_Rd_isWord 36 σ' = some 0 ∧ f_Rd_isWord 37 σ' = some 0 ∧ hp_fr hm_QD τ τ' ∧ ∀ r, hm_RH n a' τ' r → hm_RH n a τ r) ∨ (∃ τ', q_no σ' τ' ∧ hp_fr hm_QD τ τ' ∧ hm_RH n a τ τ')) := by
      intro w2 σ3 τ3 st no FX FM hr
      refine ⟨w2, σ3, fun f hf => ?_, FX, .inr ⟨τ3, no, FM, hr⟩⟩
      obtain ⟨f, rfl⟩ : ∃ g, f = g + 2 := ⟨f - 2, by omega⟩
      rw [hl_lp_s st]
      exact hl_lp_e (hx_L8T (hx_noW no 36) (hx_noW no 37))
    by_cases k17 : K = 17
    · -- AND
      subst k17
      obtain ⟨c1, c2, c3⟩ := lo (by omega)
      have ni : ¬ 1600 ≤ nI i := by first | omega | (simp (disch := first | assumption | omega) only [↓hp_neg1, hp_l0, hp_l1, hp_l2, hp_l3, hp_l4, hp_l5, hp_l6, hp_l7, hp_l8, hp_l9, hp_l10, hp_l11, hp_l12, hp_l13, hp_l14, hp_l15, hp_l16, hp_l17, hp_l18, hp_l19, hp_l20, hp_l21, hp_l22, hp_l23, hp_l24, hp_l25, hp_l26, hp_l27, hp_l28, hp_l29, hp_l30, hp_l31, hp_l32, hp_l33, hp_l34, hp_l35, hp_l36, hp_l37, hp_l38, hp_l39, hp_l40, hp_l41, hp_l42, hp_l43, hp_l44, hp_l45, hp_l46, hp_l47, hp_l48, hp_l49, hp_l50, hp_l51, hp_l52, hp_l53, hp_l54, hp_l55, hp_l56, hp_l57, hp_l58, hp_l59, hp_l60, hp_l61, hp_l62, hp_l63, hp_l64, hp_l65, hp_l66, hp_l67, hp_l68, hp_l69, hp_l70, hp_l71, hp_l72, hp_l73, hp_l74, hp_l75, hp_l76, hp_l77, hp_l78, hp_l79, hp_l80, hp_l81, hp_l82, hp_l83, hp_l84, hp_l85, hp_l86, hp_l87, hp_l88, hp_l89, hp_l90, hp_l91, hp_l92, hp_l93, hp_l94, hp_l95, hp_l96, hp_l97, hp_l98, hp_l99, hp_l100, hp_l101, hp_l102, hp_l103, hp_l104, hp_l105, hp_l106, hp_l107, hp_l108, hp_l109, hp_l110, hp_l111, hp_l112, hp_l113, hp_l114, hp_l115, hp_l116, hp_l117, hp_l118, hp_l119, hp_l120, hp_l121, hp_l122, hp_l123, hp_l124, hp_l125, hp_l126, hp_l127, hp_l141, hp_l142, hp_l150, hp_l151, hp_l152, hp_l153, hp_l251, hp_l255, hp_l256, hp_l300, hp_l432, hp_l864, hp_l1000, hp_l1600, hp_l1700, hp_l2304, hp_l2916, hp_l3000, hp_l9999, hp_l10000, nI_add, pk_mul, nI_clamp, hl_lt, hl_le, hl_eq, hl_nIb, hl_nsub, hp_eqm, hp_meq, hp_ltm, hp_mlt, hp_lem, hp_mle, hp_addm, hp_meqm, hp_mlem, hp_withinE, hp_within0, if_pos, if_neg, Option.bind_some, hp_let, Sum.elim_inl, Sum.elim_inr, hp_s01, hp_s11, hp_s2, true_and, and_true, if_true, if_false, not_true_eq_false, not_false_eq_true, reduceCtorEq] <;> omega)
      rw [if_pos rfl] at w17 m17
      obtain ⟨t, σ1, t1, t2, t3, t4, t5, t6⟩ := q_wN B.1 H1 A (by omega)
      have wt : f_M_takes 98 (hl_si τ 64 2 (nI s)) = some (1, hl_si (hl_si (hl_si τ 64 2 (nI s)) 64 2 (nI t)) 64 4 (nI t)) := by
        have := (q_wT K1 H1 (i := 17) (by omega) m17).1
        rw [← t1] at this
        exact this
      have FT : hp_fr hm_FD (hl_si τ 64 2 (nI s)) (hl_si (hl_si (hl_si τ 64 2 (nI s)) 64 2 (nI t)) 64 4 (nI t)) := (hp_fr.rf.si ⟨rfl, by omega⟩).si ⟨rfl, by omega⟩
      have Bw := q_bW B.1 R1 K1 t5 t3 t6
      obtain ⟨τ3, m1, m2, m3⟩ := hm_L87 (W := Wt ++ W) (pd := T) (fun x V e => by
        cases Wt with
        | nil => have := hWh x V e; omega
        | cons y Y =>
          have := hWt y (by simp)
          have ey := (List.cons.inj e).1
          omega) hT3 Bw.2.2.2.1.x.2 (QM.fr FT (fun q f h => by unfold hm_FD at h; omega)) (by omega) (by omega)
      rw [hcT] at m3
      obtain ⟨τ4, m4, m5, m6⟩ := hm_push (v := 10) (c := 10) m3 (by omega) rfl
      have h2 : hm_H2 (hl_si τ 64 2 (nI s)) = some (1, τ4) := by
        unfold hm_H2
        rw [wt, Option.bind_some, if_neg z0, m1, Option.bind_some]
        exact m4
      have B4 : q_b n b t σ1 τ4 := Bw.fr (.rf (D := fun _ _ => False)) (fun q f h => h.elim) (DM := fun q f => hm_QF q f ∨ q = 111) ((m2.mono (fun q f h => .inl h)).tr m5) (fun q f h => by unfold hm_QF at h; omega)
      have Q4 : q_c (C ++ l) (C ++ l) (10 :: (Wt ++ W)) o 0 t σ1 τ4 := ⟨QX.fr t5 (fun q f h => by unfold hx_RD at h; omega), m6, Nat.zero_le _, by rw [List.length_cons, List.length_append, List.length_append]; omega⟩
      have FM4 : hp_fr hm_QD τ τ4 := (((F1.tr FT).mono hm_FD_QD).tr (m2.mono hm_QF_QD)).tr (m5.mono (fun q f h => by unfold hm_QF at h; unfold hm_QD; omega))
      obtain ⟨σ3, p1, p2, p3⟩ := go σ1 τ4 t 10 Wt l (.inl rfl) (by omega) hWt B4 Q4 (t5.mono hx_RD_QD) FM4 (fun r hr => nH r (hm_RH.next (hm_L0T B.1 R1 H1 (fun z => by rw [z.2] at c3; exact absurd c3 (by decide))) h2 t2 t3 hr))
      have st1 : f_Qu_takeTest_L8 rec (w, nI i, σ) = (f_Qu_emit (-18) σ3).bind fun x6 => some (.inl (w, nI i + 1, x6)) := by
        unfold f_Qu_takeTest_L8 f_Qu_takeTest_j39 f_Qu_takeTest_j70
        dsimp only
        rw [if_neg ni, w17, Option.bind_some, if_neg z0, Option.bind_some, t4, Option.bind_some, if_neg z0, p1, Option.bind_some, if_neg z0]
      rcases p3 with ⟨a3, τ6, lp, g1, g2, g3, g4, g5, g6⟩ | ⟨τ6, g1, g2, g3⟩
      · have hl3 := g3.2.2.2
        have ha3 := g2.2.2.2.2.2
        rw [List.length_cons] at hl3
        obtain ⟨σ4, e1, e2, e3⟩ := hx_emit g3.1 (by omega) (c := -18) (v := 10) (by decide)
        have st : f_Qu_takeTest_L8 rec (w, nI i, σ) = some (.inl (w, nI (i + 1), σ4)) := by rw [st1, e1, Option.bind_some, nI_1]
        have B5 : q_b n b a3 σ4 τ6 := g2.fr e2 (fun q f h => by unfold hx_QE at h; omega) (.rf (D := fun _ _ => False)) (fun q f h => h.elim)
        have as : C ++ l ++ lp ++ [10] = C ++ (l ++ lp ++ [10]) := by simp [List.append_assoc]
        have Q5 : q_c (C ++ (l ++ lp ++ [10])) (C ++ l ++ lp) ([10] ++ (Wt ++ W)) o 0 a3 σ4 τ6 := ⟨by rw [← as]; exact e3, g3.2.1, g3.2.2.1, g3.2.2.2⟩
        have sh4 : hq_shT o (l ++ lp ++ [10]) Wt w := by
          rcases sh with ⟨z1, z2, z3⟩ | ⟨l1, l2, z1, z2, z4, z5, z6⟩
          · exact .inl ⟨z1, z2, hq_T.log z3 g5 (Nat.le_refl _) (by omega) (.inl rfl)⟩
          · exact .inr ⟨l1, l2 ++ lp ++ [10], z1, z2, by rw [z4]; simp [List.append_assoc], z5, hq_T.log z6 g5 (Nat.le_refl _) (by omega) (.inl rfl)⟩
        obtain ⟨w', σ', y1, y2, y3⟩ := ih σ4 τ6 a3 (i + 1) (l ++ lp ++ [10]) (C ++ l ++ lp) [10] Wt w (by omega) B5 Q5 as (.inr rfl) (by omega) sh4
        refine ⟨w', σ', fun f hf => ?_, (p2.tr (e2.mono hx_QE_QD)).tr y2, ?_⟩
        · obtain ⟨f, rfl⟩ : ∃ g, f = g + 1 := ⟨f - 1, by omega⟩
          rw [hl_lp_s st]
          exact y1 f (by omega)
        · rcases y3 with ⟨a', τ', l', cM', T', Wt', h1, h2, h3, h4, h5, h6, h7, h8, h9, h10⟩ | ⟨τ', h1, h2, h3⟩
          · exact .inl ⟨a', τ', l', cM', T', Wt', by omega, h2, h3, h4, h5, h6, h7, h8, g4.tr h9, fun r hr => g6 r (h10 r hr)⟩
          · exact .inr ⟨τ', h1, g4.tr h2, g6 _ h3⟩
      · obtain ⟨σ4, e1, e2⟩ := hx_emit0 (σ := σ3) (-18)
        exact dead w σ4 τ6 (by rw [st1, e1, Option.bind_some]) (g1.y (fun f => e2.i (by unfold hx_QE; omega))) (p2.tr (e2.mono hx_QE_QD)) g2 g3
    · rw [if_neg k17] at w17 m17
      by_cases k18 : K = 18
      · -- OR
        subst k18
        obtain ⟨c1, c2, c3⟩ := lo (by omega)
        have ni : ¬ 1600 ≤ nI i := by first | omega | (simp (disch := first | assumption | omega) only [↓hp_neg1, hp_l0, hp_l1, hp_l2, hp_l3, hp_l4, hp_l5, hp_l6, hp_l7, hp_l8, hp_l9, hp_l10, hp_l11, hp_l12, hp_l13, hp_l14, hp_l15, hp_l16, hp_l17, hp_l18, hp_l19, hp_l20, hp_l21, hp_l22, hp_l23, hp_l24, hp_l25, hp_l26, hp_l27, hp_l28, hp_l29, hp_l30, hp_l31, hp_l32, hp_l33, hp_l34, hp_l35, hp_l36, hp_l37, hp_l38, hp_l39, hp_l40, hp_l41, hp_l42, hp_l43, hp_l44, hp_l45, hp_l46, hp_l47, hp_l48, hp_l49, hp_l50, hp_l51, hp_l52, hp_l53, hp_l54, hp_l55, hp_l56, hp_l57, hp_l58, hp_l59, hp_l60, hp_l61, hp_l62, hp_l63, hp_l64, hp_l65, hp_l66, hp_l67, hp_l68, hp_l69, hp_l70, hp_l71, hp_l72, hp_l73, hp_l74, hp_l75, hp_l76, hp_l77, hp_l78, hp_l79, hp_l80, hp_l81, hp_l82, hp_l83, hp_l84, hp_l85, hp_l86, hp_l87, hp_l88, hp_l89, hp_l90, hp_l91, hp_l92, hp_l93, hp_l94, hp_l95, hp_l96, hp_l97, hp_l98, hp_l99, hp_l100, hp_l101, hp_l102, hp_l103, hp_l104, hp_l105, hp_l106, hp_l107, hp_l108, hp_l109, hp_l110, hp_l111, hp_l112, hp_l113, hp_l114, hp_l115, hp_l116, hp_l117, hp_l118, hp_l119, hp_l120, hp_l121, hp_l122, hp_l123, hp_l124, hp_l125, hp_l126, hp_l127, hp_l141, hp_l142, hp_l150, hp_l151, hp_l152, hp_l153, hp_l251, hp_l255, hp_l256, hp_l300, hp_l432, hp_l864, hp_l1000, hp_l1600, hp_l1700, hp_l2304, hp_l2916, hp_l3000, hp_l9999, hp_l10000, nI_add, pk_mul, nI_clamp, hl_lt, hl_le, hl_eq, hl_nIb, hl_nsub, hp_eqm, hp_meq, hp_ltm, hp_mlt, hp_lem, hp_mle, hp_addm, hp_meqm, hp_mlem, hp_withinE, hp_within0, if_pos, if_neg, Option.bind_some, hp_let, Sum.elim_inl, Sum.elim_inr, hp_s01, hp_s11, hp_s2, true_and, and_true, if_true, if_false, not_true_eq_false, not_false_eq_true, reduceCtorEq] <;> omega)
        rw [if_pos rfl] at w18 m18
        obtain ⟨t, σ1, t1, t2, t3, t4, t5, t6⟩ := q_wN B.1 H1 A (by omega)
        have wt : f_M_takes 99 (hl_si τ 64 2 (nI s)) = some (1, hl_si (hl_si (hl_si τ 64 2 (nI s)) 64 2 (nI t)) 64 4 (nI t)) := by
          have := (q_wT K1 H1 (i := 18) (by omega) m18).1
          rw [← t1] at this
          exact this
        have wt0 : f_M_takes 98 (hl_si τ 64 2 (nI s)) = some (0, hl_si τ 64 2 (nI s)) := (q_wF H1 (i := 17) m17).1
        have FT : hp_fr hm_FD (hl_si τ 64 2 (nI s)) (hl_si (hl_si (hl_si τ 64 2 (nI s)) 64 2 (nI t)) 64 4 (nI t)) := (hp_fr.rf.si ⟨rfl, by omega⟩).si ⟨rfl, by omega⟩
        have Bw := q_bW B.1 R1 K1 t5 t3 t6
        have hTl : (T ++ Wt).length = T.length + Wt.length := List.length_append
        have QM' : hm_q cM ((T ++ Wt) ++ W) o 0 (hl_si (hl_si (hl_si τ 64 2 (nI s)) 64 2 (nI t)) 64 4 (nI t)) := by
          rw [List.append_assoc]
          exact QM.fr FT (fun q f h => by unfold hm_FD at h; omega)
        obtain ⟨τ3, m1, m2, m3⟩ := hm_L137 (W := W) (pd := T ++ Wt) (fun x V e => by have := hWh x V e; omega) (fun x hx => by
          rcases List.mem_append.mp hx with h | h
          · exact .inl (hT3 x h)
          · exact .inr (hWt x h)) Bw.2.2.2.1.x.2 QM' (by omega) (by omega)
        have ec : cM ++ (T ++ Wt) = C ++ (l ++ Wt) := by rw [← List.append_assoc, hcT, List.append_assoc]
        rw [ec] at m3
        obtain ⟨τ4, m4, m5, m6⟩ := hm_push (v := 11) (c := 11) m3 (by omega) rfl
        have h2 : hm_H2 (hl_si τ 64 2 (nI s)) = some (1, τ4) := by
          unfold hm_H2
          rw [wt0, Option.bind_some, if_pos rfl, wt, Option.bind_some, if_neg z0, m1, Option.bind_some]
          exact m4
        have B4 : q_b n b t σ1 τ4 := Bw.fr (.rf (D := fun _ _ => False)) (fun q f h => h.elim) (DM := fun q f => hm_QF q f ∨ q = 111) ((m2.mono (fun q f h => .inl h)).tr m5) (fun q f h => by unfold hm_QF at h; omega)
        have FM4 : hp_fr hm_QD τ τ4 := (((F1.tr FT).mono hm_FD_QD).tr (m2.mono hm_QF_QD)).tr (m5.mono (fun q f h => by unfold hm_QF at h; unfold hm_QD; omega))
        have ew : ∃ σ2, f_Qu_takeTest_L8 rec (w, nI i, σ) = f_Qu_takeTest_j70 rec w (nI i) 0 σ2 ∧ hp_fr hx_QE σ1 σ2 ∧ hx_q (C ++ (l ++ Wt)) o σ2 ∧ hq_T (6 + 3 * (6 - o)) (l ++ Wt) := by
          have QX1 : hx_q (C ++ l) o σ1 := QX.fr t5 (fun q f h => by unfold hx_RD at h; omega)
          rcases sh with ⟨rfl, rfl, z3⟩ | ⟨l1, l2, rfl, z3, z4, z5, z6⟩
          · refine ⟨σ1, ?_, .rf, by rw [List.append_nil]; exact QX1, by rw [List.append_nil]; exact z3.mono (by omega)⟩
            unfold f_Qu_takeTest_L8 f_Qu_takeTest_j39
            dsimp only
            rw [if_neg ni, w17, Option.bind_some, if_pos rfl, w18, Option.bind_some, if_neg z0, Option.bind_some, t4, Option.bind_some, if_pos rfl, if_pos rfl]
          · obtain ⟨σ2, e1, e2, e3⟩ := hx_emit QX1 (by rw [List.length_append]; rw [List.length_singleton] at *; omega) (c := -19) (v := 11) (by decide)
            refine ⟨σ2, ?_, e2, by rw [← List.append_assoc]; exact e3, by rw [z4]; exact hq_T.log z5 z6 (Nat.le_refl _) (by omega) (.inr rfl)⟩
            unfold f_Qu_takeTest_L8 f_Qu_takeTest_j39
            dsimp only
            rw [if_neg ni, w17, Option.bind_some, if_pos rfl, w18, Option.bind_some, if_neg z0, Option.bind_some, t4, Option.bind_some, if_pos rfl, if_neg (by rw [z3]; decide), e1, Option.bind_some]
        obtain ⟨σ2, st0, fe, QX2, hg⟩ := ew
        have B2' : q_b n b t σ2 τ4 := B4.fr fe (fun q f h => by unfold hx_QE at h; omega) (.rf (D := fun _ _ => False)) (fun q f h => h.elim)
        have Q2 : q_c (C ++ (l ++ Wt)) (C ++ (l ++ Wt)) (11 :: ([] ++ W)) o 0 t σ2 τ4 := ⟨QX2, m6, Nat.zero_le _, by rw [List.nil_append, List.length_cons, List.length_append, List.length_append]; omega⟩
        obtain ⟨σ3, p1, p2, p3⟩ := go σ2 τ4 t 11 [] (l ++ Wt) (.inr rfl) (by omega) (fun x hx => by cases hx) B2' Q2 ((t5.mono hx_RD_QD).tr (fe.mono hx_QE_QD)) FM4 (fun r hr => nH r (hm_RH.next (hm_L0T B.1 R1 H1 (fun z => by rw [z.2] at c3; exact absurd c3 (by decide))) h2 t2 t3 hr))
        have st : f_Qu_takeTest_L8 rec (w, nI i, σ) = some (.inl (1, nI i + 1, σ3)) := by
          rw [st0]
          unfold f_Qu_takeTest_j70
          rw [p1, Option.bind_some, if_pos rfl]
        rcases p3 with ⟨a3, τ6, lp, g1, g2, g3, g4, g5, g6⟩ | ⟨τ6, g1, g2, g3⟩
        · have hl3 := g3.2.2.2
          have ha3 := g2.2.2.2.2.2
          have as : C ++ (l ++ Wt) ++ lp = C ++ (l ++ Wt ++ lp) := by simp [List.append_assoc]
          have Q5 : q_c (C ++ (l ++ Wt ++ lp)) (C ++ (l ++ Wt) ++ lp) ([] ++ ([11] ++ W)) o 0 a3 σ3 τ6 := ⟨by rw [← as]; exact g3.1, g3.2.1, g3.2.2.1, g3.2.2.2⟩
          have sh4 : hq_shT o (l ++ Wt ++ lp) [11] 1 := .inr ⟨l ++ Wt, lp, rfl, rfl, rfl, hg, g5.mono (by omega)⟩
          obtain ⟨w', σ', y1, y2, y3⟩ := ih σ3 τ6 a3 (i + 1) (l ++ Wt ++ lp) (C ++ (l ++ Wt) ++ lp) [] [11] 1 (by omega) g2 Q5 (by rw [List.append_nil]; exact as) (.inl rfl) (by omega) sh4
          refine ⟨w', σ', fun f hf => ?_, p2.tr y2, ?_⟩
          · obtain ⟨f, rfl⟩ : ∃ g, f = g + 1 := ⟨f - 1, by omega⟩
            rw [hl_lp_s st, nI_1]
            exact y1 f (by omega)
          · rcases y3 with ⟨a', τ', l', cM', T', Wt', h1, h2, h3, h4, h5, h6, h7, h8, h9, h10⟩ | ⟨τ', h1, h2, h3⟩
            · exact .inl ⟨a', τ', l', cM', T', Wt', by omega, h2, h3, h4, h5, h6, h7, h8, g4.tr h9, fun r hr => g6 r (h10 r hr)⟩
            · exact .inr ⟨τ', h1, g4.tr h2, g6 _ h3⟩
        · exact dead 1 σ3 τ6 st g1 p2 g2 g3
      · rw [if_neg k18] at w18
        refine ⟨w, σ, fun f hf => ?_, .rf, .inl ⟨a, τ, l, cM, T, Wt, Nat.le_refl _, B, Q, hcT, hT, sh, w17, w18, .rf, fun r h => h⟩⟩
        obtain ⟨f, rfl⟩ : ∃ g, f = g + 1 := ⟨f - 1, by omega⟩
        exact hl_lp_e (hx_L8T w17 w18)
theorem q_takeTest (FO : q_FO n b rec o) : ∀ σ τ a C W, q_b n b a σ τ → q_c C C W o 0 a σ τ → hq_tw W → (W = [] ∨ ∃ W', W = 25 :: W') → ∃ σ', b_Qu_takeTest rec σ = some σ' ∧ hp_fr hx_QD σ σ' ∧ ((∃ a' τ' l cM pd, a < a' ∧ q_b n b a' σ' τ' ∧ q_c (C ++ l) cM (pd ++ W) o 0 a' σ' τ' ∧ cM ++ pd = C ++ l ∧ (∀ x ∈ pd, x = 10 ∨ x = 11) ∧ f_Rd_isWord 36 σ' = some 0 ∧ f_Rd_isWord 37 σ' = some 0 ∧ hp_fr hm_QD τ τ' ∧ hq_T (6 + 3 * (6 - o)) l ∧ ∀ r, hm_RH n a' τ' r → hm_RT n a τ r) ∨ (∃ τ', q_no σ' τ' ∧ hp_fr hm_QD τ τ' ∧ hm_RT n a τ τ')) := by
  intro σ τ a C W B Q hW hWs
  have hn := B.1.1
  obtain ⟨σ1, p1, p2, p3⟩ := FO σ τ a C W B Q hW
  unfold b_Qu_takeTest
  rw [p1, Option.bind_some]
  rcases p3 with ⟨a1, τ1, l, g1, g2, g3, g4, g5, g6⟩ | ⟨τ1, g1, g2, g3⟩
  · have hl := g3.2.2.2
    have ha1 := g2.2.2.2.2.2
    have hRT : ∀ r, hm_RH n a1 τ1 r → hm_RT n a τ r := fun r hr => g6 r (hm_RD.done g3.2.1 (fun x V e => by
      rcases hWs with rfl | ⟨W', rfl⟩
      · cases e
      · have := (List.cons.inj e).1; omega) g2.2.2.2.1.x.2 (by omega) hr)
    obtain ⟨w', σ2, y1, y2, y3⟩ := q_testL FO hW hWs (n - a1) σ1 τ1 a1 0 l (C ++ l) [] [] 0 (Nat.le_refl _) g2 g3 (List.append_nil _) (.inl rfl) (Nat.zero_le _) (.inl ⟨rfl, rfl, g5.mono (by omega)⟩)
    have y1' : hl_lp (f_Qu_takeTest_L8 rec) hl_big (0, 0, σ1) = some (w', σ2) := y1 hl_big (by unfold hl_big; omega)
    rw [y1', Option.bind_some]
    dsimp only
    rcases y3 with ⟨a', τ', l', cM, T, Wt, h1, h2, h3, h4, h5, h6, h7, h8, h9, h10⟩ | ⟨τ', h1, h2, h3⟩
    · have hT : ∀ x ∈ T, x = 10 ∨ x = 11 := by
        rcases h5 with rfl | rfl
        · intro x hx; cases hx
        · intro x hx; exact .inl (List.mem_singleton.mp hx)
      have ha' := h2.2.2.2.2.2
      have hl' := h3.2.2.2
      rcases h6 with ⟨rfl, rfl, z3⟩ | ⟨l1, l2, rfl, z3, z4, z5, z6⟩
      · rw [if_pos rfl]
        exact ⟨σ2, rfl, p2.tr y2, .inl ⟨a', τ', l', cM, T, by omega, h2, h3, h4, hT, h7, h8, g4.tr h9, z3.mono (by omega), fun r hr => hRT r (h10 r hr)⟩⟩
      · have hlen : cM.length + T.length = (C ++ l').length := by rw [← List.length_append, h4]
        rw [List.length_append, List.length_append, List.length_singleton] at hl'
        obtain ⟨σ3, e1, e2, e3⟩ := hx_emit h3.1 (by omega) (c := -19) (v := 11) (by decide)
        rw [if_neg (by rw [z3]; decide), e1, Option.bind_some]
        have B3 : q_b n b a' σ3 τ' := h2.fr e2 (fun q f h => by unfold hx_QE at h; omega) (.rf (D := fun _ _ => False)) (fun q f h => h.elim)
        obtain ⟨s, hs, R1, K1, H1, F1, lk, -, -⟩ := h2.norm
        have H3 : q_os n b s σ3 (hl_si τ' 64 2 (nI s)) := H1.fr (fun f _ => e2.i (by unfold hx_QE; omega)) (fun f _ => rfl)
        obtain ⟨K, A⟩ := hq_at.ex h2.1 H1
        have A3 : hq_at b s σ3 K := A.fr (e2.i (by unfold hx_QE; omega)) (e2.i (by unfold hx_QE; omega))
        have w36 : f_Rd_isWord 36 σ3 = some 0 := by
          have e : f_Rd_isWord 36 σ2 = f_Rd_isWord 36 σ3 := (q_wd h2.1 R1 K1 H1 A (i := 17) (by omega)).1.trans (q_wd B3.1 R1 K1 H3 A3 (i := 17) (by omega)).1.symm
          rw [← e]; exact h7
        have w37 : f_Rd_isWord 37 σ3 = some 0 := by
          have e : f_Rd_isWord 37 σ2 = f_Rd_isWord 37 σ3 := (q_wd h2.1 R1 K1 H1 A (i := 18) (by omega)).1.trans (q_wd B3.1 R1 K1 H3 A3 (i := 18) (by omega)).1.symm
          rw [← e]; exact h8
        refine ⟨σ3, rfl, (p2.tr y2).tr (e2.mono hx_QE_QD), .inl ⟨a', τ', l' ++ [11], cM, T ++ [11], by omega, B3, ⟨?_, ?_, ?_, ?_⟩, ?_, ?_, w36, w37, g4.tr h9, ?_, fun r hr => hRT r (h10 r hr)⟩⟩
        · rw [← List.append_assoc]; exact e3
        · rw [List.append_assoc]; exact h3.2.1
        · rw [List.append_assoc]; exact h3.2.2.1
        · rw [List.append_assoc]; exact h3.2.2.2
        · rw [← List.append_assoc, h4, List.append_assoc]
        · intro x hx
          rcases List.mem_append.mp hx with h | h
          · exact hT x h
          · exact .inr (List.mem_singleton.mp h)
        · rw [z4]
          exact hq_T.log z5 z6 (Nat.le_refl _) (by omega) (.inr rfl)
    · by_cases e : w' = 0
      · rw [if_pos e]
        exact ⟨σ2, rfl, p2.tr y2, .inr ⟨τ', h1, g4.tr h2, hRT _ h3⟩⟩
      · obtain ⟨σ3, e1, e2⟩ := hx_emit0 (σ := σ2) (-19)
        rw [if_neg e, e1, Option.bind_some]
        exact ⟨σ3, rfl, (p2.tr y2).tr (e2.mono hx_QE_QD), .inr ⟨τ', h1.y (fun f => e2.i (by unfold hx_QE; omega)), g4.tr h2, hRT _ h3⟩⟩
  · have l0 : f_Qu_takeTest_L8 rec (0, 0, σ1) = some (.inr (0, σ1)) := hx_L8T (hx_noW g1 36) (hx_noW g1 37)
    rw [hp_lpe _ l0, Option.bind_some, if_pos rfl]
    exact ⟨σ1, rfl, p2, .inr ⟨τ1, g1, g2, g3⟩⟩
/-- the recursion of facts and tests -/
theorem q_recFact : ∀ e o N, o + e = 6 → 11 + 3 * e ≤ N → q_FO n b (f_Qu_take N) o := by
  intro e
  induction e with
  | zero =>
    intro o N ho hN
    obtain ⟨M, rfl⟩ : ∃ M, N = M + 1 := ⟨N - 1, by omega⟩
    intro σ τ a C W B Q hW
    rw [hx_take1]
    exact q_takeFact (by omega) (q_recSum (by omega) (by omega)) (fun h => by omega) (fun h => by omega) (q_NOt (by omega)) σ τ a C W B Q hW
  | succ e ih =>
    intro o N ho hN
    obtain ⟨M, rfl⟩ : ∃ M, N = M + 2 := ⟨N - 2, by omega⟩
    intro σ τ a C W B Q hW
    rw [hx_take1]
    exact q_takeFact (by omega) (q_recSum (by omega) (by omega)) (fun _ σ τ a C W B Q hW hWs => by rw [hx_take0]; exact q_takeTest (ih (o + 1) M (by omega) (by omega)) σ τ a C W B Q hW hWs) (fun _ => ih (o + 1) (M + 1) (by omega) (by omega)) (q_NOt (by omega)) σ τ a C W B Q hW
theorem q_recTest : q_TO n b (f_Qu_take 40) 0 := fun σ τ a C W B Q hW hWs => by
  rw [show (40 : Nat) = 39 + 1 from rfl, hx_take0]
  exact q_takeTest (q_recFact 6 0 39 (by omega) (by omega)) σ τ a C W B Q hW hWs
end TEST
