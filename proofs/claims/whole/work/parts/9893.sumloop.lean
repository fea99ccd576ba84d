/-! questions: the loop of a sum -/
section SUML
variable {σ τ σ' τ' τ1 υ r : hl_M} {n a s t k j v K i d x o bs : Nat} {b : Nat → Nat} {C CX CM W T Wt l cM pd : List Nat} {w v1 : Int32} {rec : Nat → hl_M → Option hl_M}
theorem hx_L8o {c : Int32} (hi : ¬ 1600 ≤ nI i) (hc : f_Qu_calculation σ = some c) (h0 : ¬ c = 0) : f_Qu_takeSum_L8 rec (w, nI i, σ) = if c = -13 then f_Qu_takeSum_j44 rec w (nI i) c 1 σ else if c = -14 then f_Qu_takeSum_j44 rec w (nI i) c 1 σ else f_Qu_takeSum_j44 rec w (nI i) c 0 σ := by
  unfold f_Qu_takeSum_L8
  dsimp only
  rw [if_neg hi, hc, Option.bind_some, if_neg h0, Option.bind_some]
theorem hx_L8n (hc : f_Qu_calculation σ = some 0) : f_Qu_takeSum_L8 rec (w, v1, σ) = some (.inr (w, σ)) := by
  unfold f_Qu_takeSum_L8
  dsimp only
  by_cases h : 1600 ≤ v1
  · rw [if_pos h]
  · rw [if_neg h, hc, Option.bind_some, if_pos rfl]
theorem hq_wne {u : Nat} (hu : u = 1 ∨ u = 2) : ¬ hq_xc u = 0 := by
  rcases hu with rfl | rfl <;> decide
theorem q_sumL (PO : q_PO n b rec o) (hc : hq_ctx W bs) (hlW : bs ≤ W.length) : ∀ d, ∀ σ τ a i l cM T Wt w, n - a ≤ d → q_b n b a σ τ → q_c (C ++ l) cM (T ++ (Wt ++ W)) o bs a σ τ → cM ++ T = C ++ l → (T = [] ∨ T = [3] ∨ T = [4]) → i ≤ a → hq_sh o l Wt w → ∃ w' σ', (∀ f, d + 2 ≤ f → hl_lp (f_Qu_takeSum_L8 rec) f (w, nI i, σ) = some (w', σ')) ∧ hp_fr hx_QD σ σ' ∧ ((∃ a' τ' l' cM' T' Wt', (a ≤ a' ∧ l'.length + Wt'.length + a ≤ a' + (l.length + Wt.length)) ∧ q_b n b a' σ' τ' ∧ q_c (C ++ l') cM' (T' ++ (Wt' ++ W)) o bs a' σ' τ' ∧ cM' ++ T' = C ++ l' ∧ (T' = [] ∨ T' = [3] ∨ T' = [4]) ∧ hq_sh o l' Wt' w' ∧ f_Qu_calculation σ' = some 0 ∧ hp_fr hm_QD τ τ' ∧ ∀ r, hm_RG n v1 a' τ' r → hm_RG n v1 a τ r) ∨ (∃ τ', q_no σ' τ' ∧ hm_fq τ τ' ∧ hm_RG n v1 a τ τ')) := by
  intro d
  induction d with
  | zero =>
    intro σ τ a i l cM T Wt w hd B Q hcT hT hi sh
    have hn := B.1.1
    obtain ⟨s, hs, R1, K1, H1, F1, lk, -, nG⟩ := B.norm
    have c0 := q_calc B.1 R1 H1
    have ha := B.2.2.2.2.2
    have hsn := H1.2.2.2
    rw [if_neg (by omega), if_neg (by omega), if_neg (by omega), if_neg (by omega)] at c0
    refine ⟨w, σ, fun f hf => ?_, .rf, .inl ⟨a, τ, l, cM, T, Wt, ⟨Nat.le_refl _, by omega⟩, B, Q, hcT, hT, sh, c0, .rf, fun r h => h⟩⟩
    obtain ⟨f, rfl⟩ : ∃ g, f = g + 1 := ⟨f - 1, by omega⟩
    exact hl_lp_e (hx_L8n c0)
  | succ d ih =>
    intro σ τ a i l cM T Wt w hd B Q hcT hT hi sh
    have hn := B.1.1
    obtain ⟨s, hs, R1, K1, H1, F1, lk, -, nG⟩ := B.norm
    have c0 := q_calc B.1 R1 H1
    have ha := B.2.2.2.2.2
    have hsn := H1.2.2.2
    have Q1 := Q.FD F1 hs
    obtain ⟨QX, QM, Qb, Ql⟩ := Q1
    have hlen : cM.length + T.length = C.length + l.length := by rw [← List.length_append, hcT, List.length_append]
    have hTW : (T ++ (Wt ++ W)).length = T.length + (Wt.length + W.length) := by rw [List.length_append, List.length_append]
    have hWtW : (Wt ++ W).length = Wt.length + W.length := List.length_append
    rw [hTW] at Ql Qb
    have hT3 : ∀ x ∈ T, x = 3 ∨ x = 4 := by
      rcases hT with rfl | rfl | rfl
      · intro x hx; cases hx
      · intro x hx; exact .inl (List.mem_singleton.mp hx)
      · intro x hx; exact .inr (List.mem_singleton.mp hx)
    have hWt : ∀ x ∈ Wt, x = 1 ∨ x = 2 := by
      rcases sh with ⟨rfl, -⟩ | ⟨u, l1, l2, rfl, hu, -⟩
      · intro x hx; cases hx
      · intro x hx; rw [List.mem_singleton.mp hx]; exact hu
    have hd5 := hc.hd
    -- what follows an operator that was pushed
    have go : ∀ (σ2 τ2 : hl_M) (u : Nat) (W2 : List Nat) (l2 : List Nat) (w2 : Int32), u < 60 → q_b n b (s + 1) σ2 τ2 → q_c (C ++ l2) (C ++ l2) (u :: (W2 ++ W)) o bs (s + 1) σ2 τ2 → hp_fr hx_QD σ σ2 → hp_fr hm_QD τ τ2 → (∀ r, hm_RP n v1 (s + 1) τ2 r → hm_RG n v1 a τ r) →
        ∃ σ3, rec 3 σ2 = some σ3 ∧ hp_fr hx_QD σ σ3 ∧ ((∃ a3 τ3 lp, (s + 1 < a3 ∧ lp.length + (s + 1) ≤ a3) ∧ q_b n b a3 σ3 τ3 ∧ q_c (C ++ l2 ++ lp) (C ++ l2 ++ lp) (u :: (W2 ++ W)) o bs a3 σ3 τ3 ∧ hp_fr hm_QD τ τ3 ∧ hq_G (1 + 3 * (6 - o)) lp ∧ ∀ r, hm_RG n v1 a3 τ3 r → hm_RG n v1 a τ r) ∨ (∃ τ3, q_no σ3 τ3 ∧ hm_fq τ τ3 ∧ hm_RG n v1 a τ τ3)) := by
      intro σ2 τ2 u W2 l2 w2 hu B2 Q2 FX FM hRP
      obtain ⟨σ3, p1, p2, p3⟩ := PO σ2 τ2 (s + 1) (C ++ l2) (u :: (W2 ++ W)) bs v1 B2 Q2
      refine ⟨σ3, p1, FX.tr p2, ?_⟩
      rcases p3 with ⟨a3, τ3, lp, g1, g2, g3, g4, g5, g6⟩ | ⟨τ3, g1, g2, g3⟩
      · refine .inl ⟨a3, τ3, lp, g1, g2, g3, FM.tr g4, g5, fun r hr => hRP r (g6 r ?_)⟩
        have hl3 := g3.2.2.2
        have ha3 := g2.2.2.2.2.2
        exact hm_RE.done g3.2.1 (.inr ⟨u, W2 ++ W, rfl, hu⟩) g3.2.2.1 g2.2.2.2.1.x.2 (by omega) hr
      · exact .inr ⟨τ3, g1, hm_fq.tr FM g2, hRP _ g3⟩
    -- after a fault
    have dead : ∀ (w2 : Int32) (σ3 τ3 : hl_M) (st : f_Qu_takeSum_L8 rec (w, nI i, σ) = some (.inl (w2, nI i + 1, σ3))), q_no σ3 τ3 → hp_fr hx_QD σ σ3 → hm_fq τ τ3 → hm_RG n v1 a τ τ3 → ∃ w' σ', (∀ f, d + 1 + 2 ≤ f → hl_lp (f_Qu_takeSum_L8 rec) f (w, nI i, σ) = some (w', σ')) ∧ hp_fr hx_QD σ σ' ∧ ((∃ a' τ' l' cM' T' Wt', (a ≤ a' ∧ l'.length + Wt'.length + a ≤ a' + (l.length + Wt.length)) ∧ q_b n b a' σ' τ' ∧ q_c (C ++ l') cM' (T' ++ (Wt' ++ W)) o bs a' σ' τ' ∧ cM' ++ T' = C ++ l' ∧ (T' = [] ∨ T' = [3] ∨ T' = [4]) ∧ hq_sh o l' Wt' w' ∧ f_Qu_calculation σ' = some 0 ∧ hp_fr hm_QD τ τ' ∧ ∀ r, hm_RG n v1 a' τ' r → hm_RG n v1 a τ r) ∨ (∃ τ', q_no σ' τ' ∧ hm_fq τ τ' ∧ hm_RG n v1 a τ τ')) := by
      intro w2 σ3 τ3 st no FX FM hr
      refine ⟨w2, σ3, fun f hf => ?_, FX, .inr ⟨τ3, no, FM, hr⟩⟩
      obtain ⟨f, rfl⟩ : ∃ g, f = g + 2 := ⟨f - 2, by omega⟩
      rw [hl_lp_s st]
      exact hl_lp_e (hx_L8n (hx_noC no))
    by_cases cm : s < n ∧ (b s = 42 ∨ b s = 47)
    · -- times, over
      have k3 : hp_kl (b s) = 3 := by rcases cm.2 with e | e <;> rw [e] <;> rfl
      have ni : ¬ 1600 ≤ nI i := by first | omega | (simp (disch := first | assumption | omega) only [↓hp_neg1, hp_l0, hp_l1, hp_l2, hp_l3, hp_l4, hp_l5, hp_l6, hp_l7, hp_l8, hp_l9, hp_l10, hp_l11, hp_l12, hp_l13, hp_l14, hp_l15, hp_l16, hp_l17, hp_l18, hp_l19, hp_l20, hp_l21, hp_l22, hp_l23, hp_l24, hp_l25, hp_l26, hp_l27, hp_l28, hp_l29, hp_l30, hp_l31, hp_l32, hp_l33, hp_l34, hp_l35, hp_l36, hp_l37, hp_l38, hp_l39, hp_l40, hp_l41, hp_l42, hp_l43, hp_l44, hp_l45, hp_l46, hp_l47, hp_l48, hp_l49, hp_l50, hp_l51, hp_l52, hp_l53, hp_l54, hp_l55, hp_l56, hp_l57, hp_l58, hp_l59, hp_l60, hp_l61, hp_l62, hp_l63, hp_l64, hp_l65, hp_l66, hp_l67, hp_l68, hp_l69, hp_l70, hp_l71, hp_l72, hp_l73, hp_l74, hp_l75, hp_l76, hp_l77, hp_l78, hp_l79, hp_l80, hp_l81, hp_l82, hp_l83, hp_l84, hp_l85, hp_l86, hp_l87, hp_l88, hp_l89, hp_l90, hp_l91, hp_l92, hp_l93, hp_l94, hp_l95, hp_l96, hp_l97, hp_l98, hp_l99, hp_l100, hp_l101, hp_l102, hp_l103, hp_l104, hp_l105, hp_l106, hp_l107, hp_l108, hp_l109, hp_l110, hp_l111, hp_l112, hp_l113, hp_l114, hp_l115, hp_l116, hp_l117, hp_l118, hp_l119, hp_l120, hp_l121, hp_l122, hp_l123, hp_l124, hp_l125, hp_l126, hp_l127, hp_l141, hp_l142, hp_l150, hp_l151, hp_l152, hp_l153, hp_l251, hp_l255, hp_l256, hp_l300, hp_l432, hp_l864, hp_l1000, hp_l1600, hp_l1700, hp_l2304, hp_l2916, hp_l3000, hp_l9999, hp_l10000, nI_add, pk_mul, nI_clamp, hl_lt, hl_le, hl_eq, hl_nIb, hl_nsub, hp_eqm, hp_meq, hp_ltm, hp_mlt, hp_lem, hp_mle, hp_addm, hp_meqm, hp_mlem, hp_withinE, hp_within0, if_pos, if_neg, Option.bind_some, hp_let, Sum.elim_inl, Sum.elim_inr, hp_s01, hp_s11, hp_s2, true_and, and_true, if_true, if_false, not_true_eq_false, not_false_eq_true, reduceCtorEq] <;> omega)
      obtain ⟨σ1, r1, r2, r3⟩ := q_sgN B.1 H1 cm.1 k3
      obtain ⟨τ2, m1, m2, m3⟩ := hm_j140 (τ := hl_si (hl_si τ 64 2 (nI s)) 64 2 (nI (s + 1))) (W := Wt ++ W) (T := T) (cM := cM) (o := o) (bs := bs) (R1.si (by omega)) cm.1 cm.2 hp_s01 (by rw [hp_sn (by omega)]; exact H1.x.2) (by
        intro x V e
        cases Wt with
        | nil =>
          have := hd5 x V e
          exact ⟨by omega, this.2⟩
        | cons y Y =>
          have := hWt y (by simp)
          have ey : y = x := (List.cons.inj e).1
          subst ey
          exact ⟨by omega, by omega⟩) hT3 (QM.fr (hp_fr.rf.si (D := fun q f => q = 64 ∧ f = 2) ⟨rfl, rfl⟩) (fun q f h => by omega)) (by omega) (by omega)
      rw [hcT] at m3
      have B2 : q_b n b (s + 1) σ1 τ2 := by
        have B1 : q_b n b (s + 1) σ1 (hl_si (hl_si τ 64 2 (nI s)) 64 2 (nI (s + 1))) := ⟨B.1.fr r2 (by unfold hx_RD; omega) (fun k => by unfold hx_RD; omega), R1.si (by omega), K1.fr (hp_fr.rf.si (D := fun q f => q = 64 ∧ f = 2) ⟨rfl, rfl⟩) (fun q f h => by omega), r3, hp_s01, by omega⟩
        exact B1.fr (.rf (D := fun _ _ => False)) (fun q f h => h.elim) m2 (fun q f h => by unfold hm_QF at h; omega)
      have hu : (if b s = 42 then 3 else 4) < 60 := by split <;> omega
      have Q2 : q_c (C ++ l) (C ++ l) ((if b s = 42 then 3 else 4) :: (Wt ++ W)) o bs (s + 1) σ1 τ2 := ⟨QX.fr r2 (fun q f h => by unfold hx_RD at h; omega), m3, by rw [List.length_cons]; omega, by rw [List.length_cons, List.length_append, List.length_append]; omega⟩
      have FM2 : hp_fr hm_QD τ τ2 := ((F1.mono hm_FD_QD).si (.inl ⟨rfl, by omega⟩)).tr (m2.mono (fun q f h => by unfold hm_QF at h; unfold hm_QD; omega))
      have g2 : hm_G2 (hl_si τ 64 2 (nI s)) = some (1, τ2) := by rw [q_G2 B.1 R1 H1, if_pos cm]; exact m1
      obtain ⟨σ3, p1, p2, p3⟩ := go σ1 τ2 _ Wt l w hu B2 Q2 (r2.mono hx_RD_QD) FM2 (fun r hr => nG v1 r (hm_RG.next (hm_L0n B.1 R1 H1 (by omega)) g2 B2.2.2.2.1.x.2 (Nat.lt_succ_self s) (by omega) hn hr))
      have cc : ∃ c, f_Qu_calculation σ = some c ∧ ¬ c = 0 ∧ c = hq_xc (if b s = 42 then 3 else 4) ∧ f_Qu_takeSum_L8 rec (w, nI i, σ) = f_Qu_takeSum_j44 rec w (nI i) c 1 σ := by
        rw [if_neg (by omega), if_neg (by omega)] at c0
        by_cases e : b s = 42
        · rw [if_pos ⟨cm.1, e⟩] at c0
          refine ⟨_, c0, by decide, by rw [if_pos e]; decide, ?_⟩
          rw [hx_L8o ni c0 (by decide), if_pos rfl]
        · rw [if_neg (fun z => e z.2), if_pos ⟨cm.1, cm.2.resolve_left e⟩] at c0
          refine ⟨_, c0, by decide, by rw [if_neg e]; decide, ?_⟩
          rw [hx_L8o ni c0 (by decide), if_neg (by decide), if_pos rfl]
      obtain ⟨c, cc1, cc2, cc3, cc4⟩ := cc
      have hu4 : (if b s = 42 then 3 else 4) = 3 ∨ (if b s = 42 then 3 else 4) = 4 := by split <;> omega
      generalize (if b s = 42 then 3 else 4) = u at *
      have st1 : f_Qu_takeSum_L8 rec (w, nI i, σ) = (f_Qu_emit c σ3).bind fun x6 => some (.inl (w, nI i + 1, x6)) := by
        rw [cc4]
        unfold f_Qu_takeSum_j44 f_Qu_takeSum_j69
        rw [r1, Option.bind_some, if_neg (by decide), p1, Option.bind_some, if_neg (show ¬ (1 : Int32) = 0 by decide)]
      rcases p3 with ⟨a3, τ3, lp, g1, g2, g3, g4, g5, g6⟩ | ⟨τ3, g1, g2, g3⟩
      · have hl3 := g3.2.2.2
        have ha3 := g2.2.2.2.2.2
        rw [List.length_cons] at hl3
        obtain ⟨σ4, e1, e2, e3⟩ := hx_emit g3.1 (by omega) cc3
        have st : f_Qu_takeSum_L8 rec (w, nI i, σ) = some (.inl (w, nI (i + 1), σ4)) := by rw [st1, e1, Option.bind_some, nI_1]
        have B4 : q_b n b a3 σ4 τ3 := g2.fr e2 (fun q f h => by unfold hx_QE at h; omega) (.rf (D := fun _ _ => False)) (fun q f h => h.elim)
        have as : C ++ l ++ lp ++ [u] = C ++ (l ++ lp ++ [u]) := by simp [List.append_assoc]
        have Q4 : q_c (C ++ (l ++ lp ++ [u])) (C ++ l ++ lp) ([u] ++ (Wt ++ W)) o bs a3 σ4 τ3 := ⟨by rw [← as]; exact e3, g3.2.1, g3.2.2.1, g3.2.2.2⟩
        have sh4 : hq_sh o (l ++ lp ++ [u]) Wt w := by
          rcases sh with ⟨z1, z2, z3⟩ | ⟨y, l1, l2, z1, z2, z3, z4, z5, z6⟩
          · exact .inl ⟨z1, z2, hq_G.bin z3 g5 (Nat.le_refl _) (by omega) (by omega) (by omega)⟩
          · exact .inr ⟨y, l1, l2 ++ lp ++ [u], z1, z2, z3, by rw [z4]; simp [List.append_assoc], z5, hq_G.bin z6 g5 (Nat.le_refl _) (by omega) (by omega) (by omega)⟩
        obtain ⟨w', σ', y1, y2, y3⟩ := ih σ4 τ3 a3 (i + 1) (l ++ lp ++ [u]) (C ++ l ++ lp) [u] Wt w (by omega) B4 Q4 as (by rcases hu4 with rfl | rfl; exact .inr (.inl rfl); exact .inr (.inr rfl)) (by omega) sh4
        refine ⟨w', σ', fun f hf => ?_, (p2.tr (e2.mono hx_QE_QD)).tr y2, ?_⟩
        · obtain ⟨f, rfl⟩ : ∃ g, f = g + 1 := ⟨f - 1, by omega⟩
          rw [hl_lp_s st]
          exact y1 f (by omega)
        · rcases y3 with ⟨a', τ', l', cM', T', Wt', h1, h2, h3, h4, h5, h6, h7, h8, h9⟩ | ⟨τ', h1, h2, h3⟩
          · exact .inl ⟨a', τ', l', cM', T', Wt', ⟨by omega, by have := h1.2; simp only [List.length_append, List.length_cons, List.length_nil] at this; omega⟩, h2, h3, h4, h5, h6, h7, g4.tr h8, fun r hr => g6 r (h9 r hr)⟩
          · exact .inr ⟨τ', h1, hm_fq.tr g4 h2, g6 _ h3⟩
      · obtain ⟨σ4, e1, e2⟩ := hx_emit0 (σ := σ3) c
        exact dead w σ4 τ3 (by rw [st1, e1, Option.bind_some]) (g1.y (fun f => e2.i (by unfold hx_QE; omega))) (p2.tr (e2.mono hx_QE_QD)) g2 g3
    · by_cases cp : s < n ∧ (b s = 43 ∨ b s = 45)
      · -- plus, minus
        have k3 : hp_kl (b s) = 3 := by rcases cp.2 with e | e <;> rw [e] <;> rfl
        have ni : ¬ 1600 ≤ nI i := by first | omega | (simp (disch := first | assumption | omega) only [↓hp_neg1, hp_l0, hp_l1, hp_l2, hp_l3, hp_l4, hp_l5, hp_l6, hp_l7, hp_l8, hp_l9, hp_l10, hp_l11, hp_l12, hp_l13, hp_l14, hp_l15, hp_l16, hp_l17, hp_l18, hp_l19, hp_l20, hp_l21, hp_l22, hp_l23, hp_l24, hp_l25, hp_l26, hp_l27, hp_l28, hp_l29, hp_l30, hp_l31, hp_l32, hp_l33, hp_l34, hp_l35, hp_l36, hp_l37, hp_l38, hp_l39, hp_l40, hp_l41, hp_l42, hp_l43, hp_l44, hp_l45, hp_l46, hp_l47, hp_l48, hp_l49, hp_l50, hp_l51, hp_l52, hp_l53, hp_l54, hp_l55, hp_l56, hp_l57, hp_l58, hp_l59, hp_l60, hp_l61, hp_l62, hp_l63, hp_l64, hp_l65, hp_l66, hp_l67, hp_l68, hp_l69, hp_l70, hp_l71, hp_l72, hp_l73, hp_l74, hp_l75, hp_l76, hp_l77, hp_l78, hp_l79, hp_l80, hp_l81, hp_l82, hp_l83, hp_l84, hp_l85, hp_l86, hp_l87, hp_l88, hp_l89, hp_l90, hp_l91, hp_l92, hp_l93, hp_l94, hp_l95, hp_l96, hp_l97, hp_l98, hp_l99, hp_l100, hp_l101, hp_l102, hp_l103, hp_l104, hp_l105, hp_l106, hp_l107, hp_l108, hp_l109, hp_l110, hp_l111, hp_l112, hp_l113, hp_l114, hp_l115, hp_l116, hp_l117, hp_l118, hp_l119, hp_l120, hp_l121, hp_l122, hp_l123, hp_l124, hp_l125, hp_l126, hp_l127, hp_l141, hp_l142, hp_l150, hp_l151, hp_l152, hp_l153, hp_l251, hp_l255, hp_l256, hp_l300, hp_l432, hp_l864, hp_l1000, hp_l1600, hp_l1700, hp_l2304, hp_l2916, hp_l3000, hp_l9999, hp_l10000, nI_add, pk_mul, nI_clamp, hl_lt, hl_le, hl_eq, hl_nIb, hl_nsub, hp_eqm, hp_meq, hp_ltm, hp_mlt, hp_lem, hp_mle, hp_addm, hp_meqm, hp_mlem, hp_withinE, hp_within0, if_pos, if_neg, Option.bind_some, hp_let, Sum.elim_inl, Sum.elim_inr, hp_s01, hp_s11, hp_s2, true_and, and_true, if_true, if_false, not_true_eq_false, not_false_eq_true, reduceCtorEq] <;> omega)
        obtain ⟨σ1, r1, r2, r3⟩ := q_sgN B.1 H1 cp.1 k3
        have hpd : ∀ x ∈ T ++ Wt, 1 ≤ x ∧ x ≤ 4 := by
          intro x hx
          rcases List.mem_append.mp hx with h | h
          · have := hT3 x h; omega
          · have := hWt x h; omega
        have QM' : hm_q cM ((T ++ Wt) ++ W) o bs (hl_si (hl_si τ 64 2 (nI s)) 64 2 (nI (s + 1))) := by
          rw [List.append_assoc]
          exact QM.fr (hp_fr.rf.si (D := fun q f => q = 64 ∧ f = 2) ⟨rfl, rfl⟩) (fun q f h => by omega)
        have hTl : (T ++ Wt).length = T.length + Wt.length := List.length_append
        obtain ⟨τ2, m1, m2, m3⟩ := hm_j225 (τ := hl_si (hl_si τ 64 2 (nI s)) 64 2 (nI (s + 1))) (W := W) (pd := T ++ Wt) (cM := cM) (o := o) (bs := bs) (R1.si (by omega)) cp.1 cp.2 hp_s01 (by rw [hp_sn (by omega)]; exact H1.x.2) hd5 hpd QM' (by omega) (by omega)
        have ec : cM ++ (T ++ Wt) = C ++ (l ++ Wt) := by rw [← List.append_assoc, hcT, List.append_assoc]
        rw [ec] at m3
        have B2 : q_b n b (s + 1) σ1 τ2 := by
          have B1 : q_b n b (s + 1) σ1 (hl_si (hl_si τ 64 2 (nI s)) 64 2 (nI (s + 1))) := ⟨B.1.fr r2 (by unfold hx_RD; omega) (fun k => by unfold hx_RD; omega), R1.si (by omega), K1.fr (hp_fr.rf.si (D := fun q f => q = 64 ∧ f = 2) ⟨rfl, rfl⟩) (fun q f h => by omega), r3, hp_s01, by omega⟩
          exact B1.fr (.rf (D := fun _ _ => False)) (fun q f h => h.elim) m2 (fun q f h => by unfold hm_QF at h; omega)
        have FM2 : hp_fr hm_QD τ τ2 := ((F1.mono hm_FD_QD).si (.inl ⟨rfl, by omega⟩)).tr (m2.mono (fun q f h => by unfold hm_QF at h; unfold hm_QD; omega))
        have g2 : hm_G2 (hl_si τ 64 2 (nI s)) = some (1, τ2) := by rw [q_G2 B.1 R1 H1, if_neg cm, if_pos cp]; exact m1
        have cc : ∃ c, f_Qu_calculation σ = some c ∧ ¬ c = 0 ∧ c = hq_xc (if b s = 43 then 1 else 2) ∧ f_Qu_takeSum_L8 rec (w, nI i, σ) = f_Qu_takeSum_j44 rec w (nI i) c 0 σ := by
          by_cases e : b s = 43
          · rw [if_pos ⟨cp.1, e⟩] at c0
            refine ⟨_, c0, by decide, by rw [if_pos e]; decide, ?_⟩
            rw [hx_L8o ni c0 (by decide), if_neg (by decide), if_neg (by decide)]
          · rw [if_neg (fun z => e z.2), if_pos ⟨cp.1, cp.2.resolve_left e⟩] at c0
            refine ⟨_, c0, by decide, by rw [if_neg e]; decide, ?_⟩
            rw [hx_L8o ni c0 (by decide), if_neg (by decide), if_neg (by decide)]
        obtain ⟨c, cc1, cc2, cc3, cc4⟩ := cc
        have hu2 : (if b s = 43 then 1 else 2) = 1 ∨ (if b s = 43 then 1 else 2) = 2 := by split <;> omega
        generalize (if b s = 43 then 1 else 2) = u at *
        -- the class emits what waited
        have ew : ∃ σ2, f_Qu_takeSum_L8 rec (w, nI i, σ) = f_Qu_takeSum_j69 rec c (nI i) c 0 σ2 ∧ hp_fr hx_QE σ1 σ2 ∧ hx_q (C ++ (l ++ Wt)) o σ2 ∧ hq_G (3 + 3 * (6 - o)) (l ++ Wt) := by
          have QX1 : hx_q (C ++ l) o σ1 := QX.fr r2 (fun q f h => by unfold hx_RD at h; omega)
          rcases sh with ⟨rfl, rfl, z3⟩ | ⟨y, l1, l2, rfl, z2, z3, z4, z5, z6⟩
          · refine ⟨σ1, ?_, .rf, by rw [List.append_nil]; exact QX1, by rw [List.append_nil]; exact z3.mono (by omega)⟩
            rw [cc4]
            unfold f_Qu_takeSum_j44
            rw [r1, Option.bind_some, if_pos rfl, if_pos rfl]
          · obtain ⟨σ2, e1, e2, e3⟩ := hx_emit QX1 (by rw [List.length_append]; rw [List.length_singleton] at *; omega) z3
            refine ⟨σ2, ?_, e2, by rw [← List.append_assoc]; exact e3, by rw [z4]; exact hq_G.bin z5 z6 (Nat.le_refl _) (by omega) (by omega) (by omega)⟩
            have nw : ¬ w = 0 := by rw [z3]; exact hq_wne z2
            rw [cc4]
            unfold f_Qu_takeSum_j44
            rw [r1, Option.bind_some, if_pos rfl, if_neg nw, e1, Option.bind_some]
        obtain ⟨σ2, st0, fe, QX2, hg⟩ := ew
        have B2' : q_b n b (s + 1) σ2 τ2 := B2.fr fe (fun q f h => by unfold hx_QE at h; omega) (.rf (D := fun _ _ => False)) (fun q f h => h.elim)
        have Q2 : q_c (C ++ (l ++ Wt)) (C ++ (l ++ Wt)) (u :: ([] ++ W)) o bs (s + 1) σ2 τ2 := ⟨QX2, m3, by rw [List.nil_append, List.length_cons]; omega, by rw [List.nil_append, List.length_cons, List.length_append, List.length_append]; omega⟩
        obtain ⟨σ3, p1, p2, p3⟩ := go σ2 τ2 u [] (l ++ Wt) c (by omega) B2' Q2 ((r2.mono hx_RD_QD).tr (fe.mono hx_QE_QD)) FM2 (fun r hr => nG v1 r (hm_RG.next (hm_L0n B.1 R1 H1 (by omega)) g2 B2.2.2.2.1.x.2 (Nat.lt_succ_self s) (by omega) hn hr))
        have st : f_Qu_takeSum_L8 rec (w, nI i, σ) = some (.inl (c, nI i + 1, σ3)) := by
          rw [st0]
          unfold f_Qu_takeSum_j69
          rw [p1, Option.bind_some, if_pos rfl]
        rcases p3 with ⟨a3, τ3, lp, g1, g2, g3, g4, g5, g6⟩ | ⟨τ3, g1, g2, g3⟩
        · have hl3 := g3.2.2.2
          have ha3 := g2.2.2.2.2.2
          have as : C ++ (l ++ Wt) ++ lp = C ++ (l ++ Wt ++ lp) := by simp [List.append_assoc]
          have Q4 : q_c (C ++ (l ++ Wt ++ lp)) (C ++ (l ++ Wt) ++ lp) ([] ++ ([u] ++ W)) o bs a3 σ3 τ3 := ⟨by rw [← as]; exact g3.1, g3.2.1, g3.2.2.1, g3.2.2.2⟩
          have sh4 : hq_sh o (l ++ Wt ++ lp) [u] c := .inr ⟨u, l ++ Wt, lp, rfl, hu2, cc3, rfl, hg, g5.mono (by omega)⟩
          obtain ⟨w', σ', y1, y2, y3⟩ := ih σ3 τ3 a3 (i + 1) (l ++ Wt ++ lp) (C ++ (l ++ Wt) ++ lp) [] [u] c (by omega) g2 Q4 (by rw [List.append_nil]; exact as) (.inl rfl) (by omega) sh4
          refine ⟨w', σ', fun f hf => ?_, p2.tr y2, ?_⟩
          · obtain ⟨f, rfl⟩ : ∃ g, f = g + 1 := ⟨f - 1, by omega⟩
            rw [hl_lp_s st, nI_1]
            exact y1 f (by omega)
          · rcases y3 with ⟨a', τ', l', cM', T', Wt', h1, h2, h3, h4, h5, h6, h7, h8, h9⟩ | ⟨τ', h1, h2, h3⟩
            · exact .inl ⟨a', τ', l', cM', T', Wt', ⟨by omega, by have := h1.2; simp only [List.length_append, List.length_cons, List.length_nil] at this; omega⟩, h2, h3, h4, h5, h6, h7, g4.tr h8, fun r hr => g6 r (h9 r hr)⟩
            · exact .inr ⟨τ', h1, hm_fq.tr g4 h2, g6 _ h3⟩
        · exact dead c σ3 τ3 st g1 p2 g2 g3
      · rw [if_neg (fun z => cp ⟨z.1, .inl z.2⟩), if_neg (fun z => cp ⟨z.1, .inr z.2⟩), if_neg (fun z => cm ⟨z.1, .inl z.2⟩), if_neg (fun z => cm ⟨z.1, .inr z.2⟩)] at c0
        refine ⟨w, σ, fun f hf => ?_, .rf, .inl ⟨a, τ, l, cM, T, Wt, ⟨Nat.le_refl _, by omega⟩, B, Q, hcT, hT, sh, c0, .rf, fun r h => h⟩⟩
        obtain ⟨f, rfl⟩ : ∃ g, f = g + 1 := ⟨f - 1, by omega⟩
        exact hl_lp_e (hx_L8n c0)
end SUML
