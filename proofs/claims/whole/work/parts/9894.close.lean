/-! questions: a sum as a whole; brackets of the model -/
section CLOSE
variable {σ τ σ' τ' τ1 υ r : hl_M} {n a s t k j v K i d x o bs br : Nat} {b : Nat → Nat} {C CX CM W T Wt l cM pd : List Nat} {w v1 : Int32} {rec : Nat → hl_M → Option hl_M}
theorem q_calcE (T : hx_t n b σ) (T' : hx_t n b σ') (R : hm_r n b τ) (R' : hm_r n b τ') (H : q_os n b s σ τ) (H' : q_os n b s σ' τ') (h : f_Qu_calculation σ = some 0) : f_Qu_calculation σ' = some 0 := by
  rw [q_calc T R H] at h
  rw [q_calc T' R' H', h]
theorem q_takeSum (PO : q_PO n b rec o) : ∀ σ τ a C W bs v1, q_b n b a σ τ → q_c C C W o bs a σ τ → hq_ctx W bs → ∃ σ', b_Qu_takeSum rec σ = some σ' ∧ hp_fr hx_QD σ σ' ∧ ((∃ a' τ' l cM pd, (a < a' ∧ l.length + a ≤ a') ∧ q_b n b a' σ' τ' ∧ q_c (C ++ l) cM (pd ++ W) o bs a' σ' τ' ∧ cM ++ pd = C ++ l ∧ (∀ x ∈ pd, 1 ≤ x ∧ x ≤ 4) ∧ f_Qu_calculation σ' = some 0 ∧ hp_fr hm_QD τ τ' ∧ hq_G (3 + 3 * (6 - o)) l ∧ ∀ r, hm_RG n v1 a' τ' r → hm_RP n v1 a τ r) ∨ (∃ τ', q_no σ' τ' ∧ hm_fq τ τ' ∧ hm_RP n v1 a τ τ')) := by
  intro σ τ a C W bs v1 B Q hc
  have hn := B.1.1
  obtain ⟨σ1, p1, p2, p3⟩ := PO σ τ a C W bs v1 B Q
  unfold b_Qu_takeSum
  rw [p1, Option.bind_some]
  rcases p3 with ⟨a1, τ1, l, g1, g2, g3, g4, g5, g6⟩ | ⟨τ1, g1, g2, g3⟩
  · have hl := g3.2.2.2
    have ha1 := g2.2.2.2.2.2
    have hRG : ∀ r, hm_RG n v1 a1 τ1 r → hm_RP n v1 a τ r := fun r hr => g6 r (hm_RE.done g3.2.1 (by
      rcases hc with ⟨h, _⟩ | ⟨br, W', rfl, h1, h2, _⟩
      · exact .inl h
      · exact .inr ⟨br, W', rfl, by omega⟩) g3.2.2.1 g2.2.2.2.1.x.2 (by omega) hr)
    obtain ⟨w', σ2, y1, y2, y3⟩ := q_sumL (v1 := v1) PO hc g3.2.2.1 (n - a1) σ1 τ1 a1 0 l (C ++ l) [] [] 0 (Nat.le_refl _) g2 g3 (List.append_nil _) (.inl rfl) (Nat.zero_le _) (.inl ⟨rfl, rfl, g5.mono (by omega)⟩)
    have y1' : hl_lp (f_Qu_takeSum_L8 rec) hl_big (0, 0, σ1) = some (w', σ2) := y1 hl_big (by unfold hl_big; omega)
    rw [y1', Option.bind_some]
    dsimp only
    rcases y3 with ⟨a', τ', l', cM, T, Wt, h1, h2, h3, h4, h5, h6, h7, h8, h9⟩ | ⟨τ', h1, h2, h3⟩
    · have hT : ∀ x ∈ T, 1 ≤ x ∧ x ≤ 4 := by
        rcases h5 with rfl | rfl | rfl
        · intro x hx; cases hx
        · intro x hx; rw [List.mem_singleton.mp hx]; omega
        · intro x hx; rw [List.mem_singleton.mp hx]; omega
      have ha' := h2.2.2.2.2.2
      have hl' := h3.2.2.2
      rcases h6 with ⟨rfl, rfl, z3⟩ | ⟨u, l1, l2, rfl, z2, z3, z4, z5, z6⟩
      · rw [if_pos rfl]
        exact ⟨σ2, rfl, p2.tr y2, .inl ⟨a', τ', l', cM, T, ⟨by omega, by have := h1.2; simp only [List.length_append, List.length_cons, List.length_nil] at this; omega⟩, h2, h3, h4, hT, h7, g4.tr h8, z3.mono (by omega), fun r hr => hRG r (h9 r hr)⟩⟩
      · have nw : ¬ w' = 0 := by rw [z3]; exact hq_wne z2
        have hlen : cM.length + T.length = (C ++ l').length := by rw [← List.length_append, h4]
        rw [List.length_append, List.length_append, List.length_singleton] at hl'
        obtain ⟨σ3, e1, e2, e3⟩ := hx_emit h3.1 (by omega) z3
        rw [if_neg nw, e1, Option.bind_some]
        have B3 : q_b n b a' σ3 τ' := h2.fr e2 (fun q f h => by unfold hx_QE at h; omega) (.rf (D := fun _ _ => False)) (fun q f h => h.elim)
        obtain ⟨s, hs, R1, K1, H1, F1, lk, -, -⟩ := h2.norm
        have H3 : q_os n b s σ3 (hl_si τ' 64 2 (nI s)) := H1.fr (fun f _ => e2.i (by unfold hx_QE; omega)) (fun f _ => rfl)
        refine ⟨σ3, rfl, (p2.tr y2).tr (e2.mono hx_QE_QD), .inl ⟨a', τ', l' ++ [u], cM, T ++ [u], ⟨by omega, by have := h1.2; simp only [List.length_append, List.length_cons, List.length_nil] at this ⊢; omega⟩, B3, ⟨?_, ?_, ?_, ?_⟩, ?_, ?_, q_calcE h2.1 B3.1 R1 R1 H1 H3 h7, g4.tr h8, ?_, fun r hr => hRG r (h9 r hr)⟩⟩
        · rw [← List.append_assoc]; exact e3
        · rw [List.append_assoc]; exact h3.2.1
        · rw [List.append_assoc]; exact h3.2.2.1
        · rw [List.append_assoc]; exact h3.2.2.2
        · rw [← List.append_assoc, h4, List.append_assoc]
        · intro x hx
          rcases List.mem_append.mp hx with h | h
          · exact hT x h
          · rw [List.mem_singleton.mp h]; omega
        · rw [z4]
          exact hq_G.bin z5 z6 (Nat.le_refl _) (by omega) (by omega) (by omega)
    · by_cases e : w' = 0
      · rw [if_pos e]
        exact ⟨σ2, rfl, p2.tr y2, .inr ⟨τ', h1, hm_fq.tr g4 h2, hRG _ h3⟩⟩
      · obtain ⟨σ3, e1, e2⟩ := hx_emit0 (σ := σ2) w'
        rw [if_neg e, e1, Option.bind_some]
        exact ⟨σ3, rfl, (p2.tr y2).tr (e2.mono hx_QE_QD), .inr ⟨τ', h1.y (fun f => e2.i (by unfold hx_QE; omega)), hm_fq.tr g4 h2, hRG _ h3⟩⟩
  · have l0 : f_Qu_takeSum_L8 rec (0, 0, σ1) = some (.inr (0, σ1)) := hx_L8n (hx_noC g1)
    rw [hp_lpe _ l0, Option.bind_some, if_pos rfl]
    exact ⟨σ1, rfl, p2, .inr ⟨τ1, g1, g2, g3⟩⟩
theorem hq_ctx.mk2 (h1 : 20 ≤ br) (h2 : br ≤ 24) (h3 : bs ≤ W.length) : hq_ctx (br :: W) bs := .inr ⟨br, W, rfl, h1, h2, h3⟩
theorem hm_brE (h1 : 20 ≤ br) (h2 : br ≤ 24) (h3 : bs ≤ W.length) (hP : ∀ x ∈ pd, 1 ≤ x ∧ x ≤ 4) (Q : hm_q cM (pd ++ br :: W) o bs τ) (hl : pd.length + (br :: W).length < 1700) : f_M_qBracket τ = some (nI br) := by
  rw [hm_bracket (hq_ctx.mk2 h1 h2 h3) hP Q hl (by rw [List.length_cons]; omega)]
  unfold hq_br
  dsimp only
  rw [if_pos h3]
/-- a bracket closes -/
theorem hm_close (T : hx_t n b σ) (R : hm_r n b τ) (H : q_os n b s σ τ) (hs : s < n) (hb : b s = 41) (Q : hm_q cM (pd ++ br :: W) (o + 1) bs τ) (ho : o < 6) (hbr : br = 20 ∨ br = 23 ∨ br = 24) (h3 : bs ≤ W.length) (hP : ∀ x ∈ pd, 1 ≤ x ∧ x ≤ 4) (h1 : cM.length + pd.length < 1699) (h2 : pd.length + W.length < 1699) : ∃ τ', f_M_qGoesOn_L0 τ = (f_M_qEndsPart τ').bind (fun x4 => some (.inl x4)) ∧ hp_fr (fun q f => hm_QF q f ∨ (q = 64 ∧ f = 75)) (hl_si τ 64 2 (nI (s + 1))) τ' ∧ hm_q (cM ++ pd ++ (if br = 20 then [] else [if br = 23 then 5 else 6])) W o bs τ' := by
  have z0 : ¬ (1 : Int32) = 0 := by decide
  have hc : hq_ch n b s = 41 := (hq_chE R (v := 41) (by decide)).mpr ⟨hs, hb⟩
  have eb := hm_brE (by omega) (by omega) h3 hP Q (by rw [List.length_cons]; omega)
  have Q1 : hm_q cM (pd ++ br :: W) (o + 1) bs (hl_si τ 64 2 (nI (s + 1))) := Q.fr (hp_fr.rf.si (D := fun q f => q = 64 ∧ f = 2) ⟨rfl, rfl⟩) (fun q f h => by omega)
  obtain ⟨τ3, d1, d2, d3⟩ := hm_dropsTo (hq_ctx.mk2 (br := br) (by omega) (by omega) h3) hP (by rw [hp_sn (by omega)]; exact H.x.2) Q1 (by omega) (by rw [List.length_cons]; omega) (by rw [List.length_cons]; omega)
  obtain ⟨q1, q2, q3, q4⟩ := d3.pop
  have q5 := q1.op o
  have e75 : (hl_si τ3 64 74 (nI W.length)).1 64 75 - 1 = nI o := by rw [q1.2.2.1]; exact hl_nsub (a := o + 1) (b := 1) (by omega)
  have e74 : (hl_si (hl_si τ3 64 74 (nI W.length)) 64 75 (nI o)).1 64 74 = nI W.length := q5.2.1.1
  have e111 : (hl_si (hl_si τ3 64 74 (nI W.length)) 64 75 (nI o)).1 111 W.length = nI br := by rw [hp_sn (by omega), hp_sn (by omega)]; exact q2
  have hbW : hl_b (nI W.length) 1700 := (hl_nIb (by omega)).mpr (by omega)
  have F5 : hp_fr (fun q f => hm_QF q f ∨ (q = 64 ∧ f = 75)) (hl_si τ 64 2 (nI (s + 1))) (hl_si (hl_si τ3 64 74 (nI W.length)) 64 75 (nI o)) := ((d2.mono (fun q f h => .inl h)).si (.inl (.inr ⟨rfl, .inr rfl⟩))).si (.inr ⟨rfl, rfl⟩)
  have j43 : f_M_qGoesOn_L0 τ = f_M_qGoesOn_j43 τ := by
    unfold f_M_qGoesOn_L0
    rw [if_pos H.x.2, H.look T R, Option.bind_some]
    dsimp only
    rw [if_pos hc, eb, Option.bind_some, Option.bind_some, Option.bind_some]
    rcases hbr with rfl | rfl | rfl
    · rw [if_pos (show nI 20 = (20 : Int32) from rfl)]
    · rw [if_neg (show ¬ nI 23 = (20 : Int32) by decide), if_pos (show nI 23 = (23 : Int32) from rfl)]
    · rw [if_neg (show ¬ nI 24 = (20 : Int32) by decide), if_neg (show ¬ nI 24 = (23 : Int32) by decide), if_pos (show nI 24 = (24 : Int32) from rfl)]
  rw [j43]
  unfold f_M_qGoesOn_j43
  rw [H.2.1, nI_1, d1, Option.bind_some, q3, e75, e74, if_pos hbW, nI_clamp (by omega), e111]
  rcases hbr with rfl | rfl | rfl
  · rw [if_pos (show nI 20 = (20 : Int32) from rfl), if_pos rfl, List.append_nil]
    exact ⟨_, rfl, F5, q5⟩
  · obtain ⟨τ6, c1, c2, c3⟩ := hm_code q5 (by rw [List.length_append]; omega) (c := 5) (v := 5) rfl
    rw [if_neg (show ¬ nI 23 = (20 : Int32) by decide), if_pos hbW, if_pos (show nI 23 = (23 : Int32) from rfl), if_neg (by decide), if_pos rfl]
    unfold f_M_qGoesOn_j112
    rw [c1, Option.bind_some]
    exact ⟨_, rfl, F5.tr (c2.mono (fun q f h => by unfold hm_QE at h; unfold hm_QF; omega)), c3⟩
  · obtain ⟨τ6, c1, c2, c3⟩ := hm_code q5 (by rw [List.length_append]; omega) (c := 6) (v := 6) rfl
    rw [if_neg (show ¬ nI 24 = (20 : Int32) by decide), if_pos hbW, if_neg (show ¬ nI 24 = (23 : Int32) by decide), if_neg (by decide), if_neg (by decide)]
    unfold f_M_qGoesOn_j112
    rw [c1, Option.bind_some]
    exact ⟨_, rfl, F5.tr (c2.mono (fun q f h => by unfold hm_QE at h; unfold hm_QF; omega)), c3⟩
/-- no operator stands here -/
theorem q_G2n (T : hx_t n b σ) (R : hm_r n b τ) (H : q_os n b s σ τ) (h : f_Qu_calculation σ = some 0) : hm_G2 τ = hm_G3 τ := by
  rw [q_calc T R H] at h
  have h := Option.some.inj h
  rw [q_G2 T R H]
  by_cases c1 : s < n ∧ b s = 43
  · rw [if_pos c1] at h; exact absurd h (by decide)
  · rw [if_neg c1] at h
    by_cases c2 : s < n ∧ b s = 45
    · rw [if_pos c2] at h; exact absurd h (by decide)
    · rw [if_neg c2] at h
      by_cases c3 : s < n ∧ b s = 42
      · rw [if_pos c3] at h; exact absurd h (by decide)
      · rw [if_neg c3] at h
        by_cases c4 : s < n ∧ b s = 47
        · rw [if_pos c4] at h; exact absurd h (by decide)
        · rw [if_neg (fun z => z.2.elim (fun y => c3 ⟨z.1, y⟩) (fun y => c4 ⟨z.1, y⟩)), if_neg (fun z => z.2.elim (fun y => c1 ⟨z.1, y⟩) (fun y => c2 ⟨z.1, y⟩))]
/-- an open bracket wants its end -/
theorem hm_G3f (H : q_os n b s σ τ) (hbr : br = 20 ∨ br = 23 ∨ br = 24) (eb : f_M_qBracket τ = some (nI br)) : hm_G3 τ = some (0, f_M_fail 1 (nI s) τ) := by
  unfold hm_G3
  rw [eb, Option.bind_some, Option.bind_some, Option.bind_some, H.2.1, if_pos H.x.2]
  rcases hbr with rfl | rfl | rfl
  · rw [if_neg (by decide), if_neg (by decide), if_neg (by decide)]
  · rw [if_neg (by decide), if_neg (by decide), if_neg (by decide)]
  · rw [if_neg (by decide), if_neg (by decide), if_neg (by decide)]
theorem hm_G3e (eb : f_M_qBracket τ = some (-1)) : hm_G3 τ = some (0, τ) := by
  unfold hm_G3
  rw [eb, Option.bind_some, Option.bind_some, Option.bind_some]
  rw [if_neg (by decide), if_neg (by decide), if_pos rfl]
/-- the comma between two -/
theorem hm_G3c (T : hx_t n b σ) (R : hm_r n b τ) (H : q_os n b s σ τ) (Q : hm_q cM (pd ++ br :: W) o bs τ) (hbr : br = 21 ∨ br = 22) (h3 : bs ≤ W.length) (hP : ∀ x ∈ pd, 1 ≤ x ∧ x ≤ 4) (h1 : cM.length + pd.length < 1699) (h2 : pd.length + W.length < 1699) : (s < n ∧ b s = 44 → ∃ τ', hm_G3 τ = some (1, τ') ∧ hp_fr (fun q f => hm_QF q f ∨ q = 111) (hl_si τ 64 2 (nI (s + 1))) τ' ∧ hm_q (cM ++ pd) ((br + 2) :: W) o bs τ') ∧ (¬ (s < n ∧ b s = 44) → hm_G3 τ = some (0, f_M_fail 1 (nI s) τ)) := by
  have z0 : ¬ (1 : Int32) = 0 := by decide
  have eb := hm_brE (by omega) (by omega) h3 hP Q (by rw [List.length_cons]; omega)
  have e326 : hm_G3 τ = f_M_qGoesOn_j326 τ := by
    unfold hm_G3
    rw [eb, Option.bind_some, Option.bind_some, Option.bind_some]
    rcases hbr with rfl | rfl
    · rw [if_pos (show nI 21 = (21 : Int32) from rfl)]
    · rw [if_neg (show ¬ nI 22 = (21 : Int32) by decide), if_pos (show nI 22 = (22 : Int32) from rfl)]
  have e4 := q_sgM T R H (v := 44) (by decide)
  rw [show nI 44 = (44 : Int32) from rfl] at e4
  rw [e326]
  unfold f_M_qGoesOn_j326 f_M_asksSign
  rw [if_pos H.x.2, e4]
  constructor
  · intro c
    have Q1 : hm_q cM (pd ++ br :: W) o bs (hl_si τ 64 2 (nI (s + 1))) := Q.fr (hp_fr.rf.si (D := fun q f => q = 64 ∧ f = 2) ⟨rfl, rfl⟩) (fun q f h => by omega)
    have h5 : (hl_si τ 64 2 (nI (s + 1))).1 64 5 = 0 := by rw [hp_sn (by omega)]; exact H.x.2
    obtain ⟨τ3, d1, d2, d3⟩ := hm_dropsTo (hq_ctx.mk2 (br := br) (by omega) (by omega) h3) hP h5 Q1 (by omega) (by rw [List.length_cons]; omega) (by rw [List.length_cons]; omega)
    obtain ⟨q1, q2, q3, q4⟩ := d3.pop
    have hbW : hl_b (nI W.length) 1700 := (hl_nIb (by omega)).mpr (by omega)
    rw [if_pos c, Option.bind_some, if_neg z0, Option.bind_some, if_pos h5, d1, Option.bind_some, q3, if_pos hbW, if_pos hbW, nI_clamp (by omega), q2, show (2 : Int32) = nI 2 from rfl, nI_add]
    refine ⟨_, rfl, (d2.mono (fun q f h => .inl h)).si (.inr rfl), ?_⟩
    obtain ⟨⟨a1, a2⟩, ⟨a3, a4, a7⟩, a5, a6⟩ := d3
    refine ⟨⟨?_, fun i v hi => ?_⟩, ⟨?_, hp_s01, a7.fr (fun i hi => hp_sn (by omega))⟩, ?_, ?_⟩
    · rw [hp_sn (by omega)]; exact a1
    · rw [hp_sn (by omega)]; exact a2 i v hi
    · rw [hp_sn (by omega)]; exact a3
    · rw [hp_sn (by omega)]; exact a5
    · rw [hp_sn (by omega)]; exact a6
  · intro c
    rw [if_neg c, Option.bind_some, if_pos rfl, Option.bind_some, H.2.1]
    have n5 : ¬ (f_M_fail 1 (nI s) τ).1 64 5 = 0 := by
      unfold f_M_fail
      rw [if_pos H.x.2, hp_sn (by omega), hp_s01]
      decide
    dsimp only
    rw [if_neg n5]
end CLOSE
