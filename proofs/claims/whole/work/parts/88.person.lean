/-! statements, both in step: a person -/
def hp_addP (G : hp_G) (c m : Nat) (l : Nat → Nat) : hp_G := fun i k => if i = 0 ∧ k = 2 then G 0 2 + 1 else if i = 2 ∧ k = G 0 2 then c else if i = 5 ∧ k = G 0 2 then m else if i = 10 + G 0 2 then l k else G i k
def hp_addQ (N : Nat) (P : hp_G) (u d : Nat) (st : Nat → Nat) : hp_G := fun i k => if i = 0 ∧ k = N then u else if i = 1 ∧ k = N then d else if i = 2 + N then st k else P i k
section PERS
variable {G P : hp_G} {σ τ σ' τ' σ1 τ1 υ : hl_M} {n a s t k c j v z m m' w d u N p : Nat} {b l l' st : Nat → Nat} {W : List Nat}
theorem hp_addP_f {i : Nat} (h : i ≠ 0 ∧ i ≠ 2 ∧ i ≠ 5 ∧ i ≠ 10 + G 0 2) : hp_addP G c m l i = G i := by
  funext k
  unfold hp_addP
  rw [if_neg (by omega), if_neg (by omega), if_neg (by omega), if_neg (by omega)]
theorem hp_addP_0 (h : k ≠ 2) : hp_addP G c m l 0 k = G 0 k := by
  unfold hp_addP
  rw [if_neg (by omega), if_neg (by omega), if_neg (by omega), if_neg (by omega)]
theorem hp_addP_02 : hp_addP G c m l 0 2 = G 0 2 + 1 := if_pos ⟨rfl, rfl⟩
theorem hp_addP_2 : hp_addP G c m l 2 k = if k = G 0 2 then c else G 2 k := by
  unfold hp_addP
  by_cases e : k = G 0 2
  · rw [if_neg (by omega), if_pos ⟨rfl, e⟩, if_pos e]
  · rw [if_neg (by omega), if_neg (fun z => e z.2), if_neg (by omega), if_neg (by omega), if_neg e]
theorem hp_addP_5 : hp_addP G c m l 5 k = if k = G 0 2 then m else G 5 k := by
  unfold hp_addP
  by_cases e : k = G 0 2
  · rw [if_neg (by omega), if_neg (by omega), if_pos ⟨rfl, e⟩, if_pos e]
  · rw [if_neg (by omega), if_neg (by omega), if_neg (fun z => e z.2), if_neg (by omega), if_neg e]
theorem hp_addP_l : hp_addP G c m l (10 + G 0 2) = l := by
  funext k
  unfold hp_addP
  rw [if_neg (by omega), if_neg (by omega), if_neg (by omega), if_pos rfl]
theorem hp_addP_C : hp_C (hp_addP G c m l) = hp_C G := by
  unfold hp_C
  rw [hp_addP_0 (by omega), hp_addP_0 (by omega)]
theorem hp_addQ_0 : hp_addQ N P u d st 0 k = if k = N then u else P 0 k := by
  unfold hp_addQ
  by_cases e : k = N
  · rw [if_pos ⟨rfl, e⟩, if_pos e]
  · rw [if_neg (fun z => e z.2), if_neg (by omega), if_neg (by omega), if_neg e]
theorem hp_addQ_1 : hp_addQ N P u d st 1 k = if k = N then d else P 1 k := by
  unfold hp_addQ
  by_cases e : k = N
  · rw [if_neg (by omega), if_pos ⟨rfl, e⟩, if_pos e]
  · rw [if_neg (by omega), if_neg (fun z => e z.2), if_neg (by omega), if_neg e]
theorem hp_addQ_2 : hp_addQ N P u d st (2 + p) = if p = N then st else P (2 + p) := by
  funext k
  unfold hp_addQ
  by_cases e : p = N
  · rw [if_neg (by omega), if_neg (by omega), if_pos (by omega), if_pos e]
  · rw [if_neg (by omega), if_neg (by omega), if_neg (by omega), if_neg e]
theorem hp_addP_wg (H : hp_wg G) (h3 : 3 ≤ G 0 0) (h : G 0 2 < 10) (hc : c < hp_C G) (ho : G 1 c = 0) (h1 : 1 ≤ m) (h6 : m ≤ 6) (hl : ∀ k, k < m → 1 ≤ l k ∧ l k ≤ 26) : hp_wg (hp_addP G c m l) := by
  obtain ⟨a1, a2, a3, a4, a5, a6, a7, a8⟩ := H
  unfold hp_wg
  rw [hp_addP_C, hp_addP_f (i := 1) (by omega), hp_addP_f (i := 3) (by omega), hp_addP_f (i := 4) (by omega), hp_addP_f (i := 6) (by omega), hp_addP_0 (k := 0) (by omega), hp_addP_0 (k := 1) (by omega), hp_addP_0 (k := 3) (by omega), hp_addP_0 (k := 4) (by omega), hp_addP_02]
  refine ⟨?_, ⟨by omega, a2.2.1, a2.2.2⟩, a3, fun p hp => ?_, a5, fun p hp => ?_, fun w hw => ?_, fun w hw => ?_⟩
  · rcases a1 with ⟨z, _⟩ | z
    · omega
    · exact .inr z
  · rw [hp_addP_2]
    by_cases e : p = G 0 2
    · rw [if_pos e]; exact ⟨hc, ho⟩
    · rw [if_neg e]; exact a4 p (by omega)
  · rw [hp_addP_5]
    by_cases e : p = G 0 2
    · rw [if_pos e, e, hp_addP_l]; exact ⟨h1, h6, hl⟩
    · rw [if_neg e, hp_addP_f (by omega)]; exact a6 p (by omega)
  · rw [hp_addP_f (by omega)]; exact a7 w hw
  · rw [hp_addP_f (by omega)]; exact a8 w hw
theorem hp_addQ_wp (H : hp_wp G P) (hu : u ≤ 2) (h1 : 1 ≤ d) (h2 : d ≤ 12) (hs : ∀ k, k < d → st k ≤ 4) : hp_wp (hp_addP G c m l) (hp_addQ (G 0 2) P u d st) := by
  intro p hp
  rw [hp_addP_02] at hp
  rw [hp_addQ_0, hp_addQ_1, hp_addQ_2]
  by_cases e : p = G 0 2
  · rw [if_pos e, if_pos e, if_pos e]; exact ⟨hu, h1, h2, hs⟩
  · rw [if_neg e, if_neg e, if_neg e]; exact H p (by omega)
theorem hx_open_d (D : q_D G P σ τ) (hc : c < hp_C G) : f_Gr_isOpen_d (nI c) σ = if G 1 c = 0 then 1 else 0 := by
  obtain ⟨wg, wp, w3, xg, xp, mg, mp⟩ := D
  have hC := wg.C
  have h2 := xg.2.1.test (show c < 54 by omega)
  have h3 := wg.wall c
  have ec : f_Gr_cells_d σ = nI (hp_C G) := by
    unfold f_Gr_cells_d hp_C
    rw [xg.1.1, xg.1.2.1, pk_mul]
  unfold f_Gr_isOpen_d
  rw [ec, hp_withinT hc (by omega), if_neg (by decide)]
  by_cases e : G 1 c = 0
  · rw [if_pos e, if_pos (h2.mpr (by simp [e]))]
  · rw [if_neg e, if_neg (fun z => by have := h2.mp z; simp at this; omega)]
theorem hx_steps_no (H : q_no σ τ) : f_Rd_wantSteps σ = some (0, f_Rd_fail 1 (σ.1 3 2) σ) := by
  unfold f_Rd_wantSteps f_Rd_wantSteps_j27
  rw [H.2.2.1, if_neg (by decide), if_pos rfl]
theorem hm_steps_no (h : ¬ τ.1 64 5 = 0) (x : Int32) : f_M_stepsTold x τ = some (0, τ) := by
  unfold f_M_stepsTold
  rw [if_neg h]
theorem hx_j83_no (H : q_no σ τ) (x y : Int32) : ∃ σ', f_Tl_tellPerson_j83 x y σ = some σ' ∧ hp_fr hx_FD σ σ' ∧ q_no σ' τ := by
  obtain ⟨r1, r2⟩ := q_failN (f := 1) (p := σ.1 3 2) H
  unfold f_Tl_tellPerson_j83
  rw [hx_word_no H, Option.bind_some, hx_num_no r1, Option.bind_some]
  generalize f_Rd_fail 1 (σ.1 3 2) σ = σ1 at r1 r2 ⊢
  obtain ⟨s1, s2⟩ := q_failN (f := 1) (p := σ1.1 3 2) r1
  dsimp only
  rw [hx_word_no s1, Option.bind_some]
  generalize f_Rd_fail 1 (σ1.1 3 2) σ1 = σ2 at s1 s2 ⊢
  obtain ⟨t1, t2⟩ := q_failN (f := 1) (p := σ2.1 3 2) s1
  rw [hx_steps_no t1, Option.bind_some]
  generalize f_Rd_fail 1 (σ2.1 3 2) σ2 = σ3 at t1 t2 ⊢
  obtain ⟨u1, u2⟩ := q_failN (f := 1) (p := σ3.1 3 2) t1
  dsimp only
  rw [hx_sign_no u1, Option.bind_some]
  generalize f_Rd_fail 1 (σ3.1 3 2) σ3 = σ4 at u1 u2 ⊢
  obtain ⟨v1, v2⟩ := q_failN (f := 1) (p := σ4.1 3 2) u1
  rw [hx_failed1 v1.x.1, if_neg (show ¬ (1 : Int32) = 0 by decide)]
  exact ⟨_, rfl, (((r2.tr s2).tr t2).tr u2).tr v2, v1⟩
theorem hm_j73_no (h : ¬ τ.1 64 5 = 0) (x : Int32) (y : Int64) (z : Int32) : f_M_personTold_j73 x y z τ = some τ := by
  unfold f_M_personTold_j73
  rw [hm_asks_no h, Option.bind_some, hm_num_no h, Option.bind_some]
  dsimp only
  rw [hm_asks_no h, Option.bind_some, hm_steps_no h, Option.bind_some, if_neg h]
/-- what a person's statement says behind the cell -/
theorem q_persEnd (KK : hm_k τ) (T : hx_t n b σ) (R : hm_r n b τ) (H : q_ok n b σ τ) (D : q_D G P σ τ) (h10 : G 0 2 < 10) (hc : c < hp_C G) (ho : G 1 c = 0) (h1 : 1 ≤ m) (h6 : m ≤ 6) (hl : ∀ k, k < m → 1 ≤ l k ∧ l k ≤ 26) (hz : z ≤ 20) (w1 : σ.1 24 2 = nI z) (w2 : τ.1 64 22 = nI z) : ∃ σ' τ', f_Tl_tellPerson_j83 (nI (hp_nw l m)) (nI c) σ = some σ' ∧ (f_M_personTold_j73 (nI (G 0 2)) (lN (hp_n27 l m)) (nI c) τ).bind f_M_statementTold_j98 = some τ' ∧ hp_fr hx_TD σ σ' ∧ hp_fr hm_TD τ τ' ∧ τ'.1 64 29 = τ.1 64 29 + 1 ∧ q_T n b σ' τ' := by
  have hnp := D.1.np
  have dead : ∀ σa τa, q_no σa τa → hp_fr hx_TD σ σa → hp_fr hm_TD τ τa → τa.1 64 29 = τ.1 64 29 → ∃ σ' τ', some σa = some σ' ∧ (some τa).bind f_M_statementTold_j98 = some τ' ∧ hp_fr hx_TD σ σ' ∧ hp_fr hm_TD τ τ' ∧ τ'.1 64 29 = τ.1 64 29 + 1 ∧ q_T n b σ' τ' := by
    intro σa τa g1 g2 g3 g4
    unfold f_M_statementTold_j98
    rw [Option.bind_some, hm_sign_no g1.x.2, Option.bind_some]
    exact ⟨_, _, rfl, rfl, g2, g3.si (.inr (.inl ⟨rfl, by omega⟩)), by rw [hp_s01, g4], .inr (g1.fr (fun f hf => rfl) (fun f hf => hp_sn (by omega)))⟩
  obtain ⟨σ2, τ2, b1, b2, b3, b4, b5⟩ := q_want (j := 13) (v := 70) (W := hp_W 4) (by decide +kernel) (KK 4 (by omega)) (hp_WL (by omega)) (by omega) T R (.inl H)
  have T2 : hx_t n b σ2 := T.fr b3 (by unfold hx_FD; omega) (fun k => by unfold hx_FD; omega)
  have R2 : hm_r n b τ2 := R.fr b4 (by unfold hm_FD; omega) (fun k => by unfold hm_FD; omega)
  obtain ⟨xv, yv, σ3, τ3, c1, c2, c3, c4, c5, c6⟩ := q_number T2 R2 b5 0 2
  have T3 : hx_t n b σ3 := T2.fr c3 (by unfold hx_FD; omega) (fun k => by unfold hx_FD; omega)
  have R3 : hm_r n b τ3 := R2.fr c4 (by unfold hm_FD; omega) (fun k => by unfold hm_FD; omega)
  have GX3 : hp_fr hx_FD σ σ3 := b3.tr c3
  have GM3 : hp_fr hm_FD τ τ3 := b4.tr c4
  have K3 : hm_k τ3 := KK.fr GM3 (fun q f h => by have := h.1; omega)
  unfold f_Tl_tellPerson_j83 f_M_personTold_j73
  rw [b1, b2, Option.bind_some, Option.bind_some, c1, c2, Option.bind_some, Option.bind_some]
  dsimp only
  rcases c5 with c5 | c5
  · obtain ⟨rfl, c7, c8, ⟨u, c9, rfl⟩, -⟩ := c6 c5.x.1
    have hu : u ≤ 2 := by
      by_cases e : u ≤ 2
      · exact e
      · exact absurd (nI_lt (show 2 < u by omega) (by omega)) c8
    obtain ⟨σ4, τ4, d1, d2, d3, d4, d5⟩ := q_want (j := 14) (v := 71) (W := hp_W 5) (by decide +kernel) (K3 5 (by omega)) (hp_WL (by omega)) (by omega) T3 R3 (.inl c5)
    have T4 : hx_t n b σ4 := T3.fr d3 (by unfold hx_FD; omega) (fun k => by unfold hx_FD; omega)
    have R4 : hm_r n b τ4 := R3.fr d4 (by unfold hm_FD; omega) (fun k => by unfold hm_FD; omega)
    obtain ⟨x, y, σ5, τ5, e1, e2, e3, e4, e5, e6⟩ := q_stepsW (z := 15 * G 0 2 + 3) (by omega) T4 R4 d5
    have ez : (15 * nI (G 0 2) + 3 : Int32) = nI (15 * G 0 2 + 3) := by rw [show (15 : Int32) = nI 15 from rfl, pk_mul, show (3 : Int32) = nI 3 from rfl, nI_add]
    have GX5 : hp_fr hx_FD σ σ5 := (GX3.tr d3).tr e3
    have GM4 : hp_fr hm_FD τ τ4 := GM3.tr d4
    have GM5 : hp_fr (hm_FS (15 * G 0 2 + 3)) τ τ5 := (GM4.mono (fun q f h => .inl h)).tr e4
    have T5 : hx_t n b σ5 := T4.fr e3 (by unfold hx_FD; omega) (fun k => by unfold hx_FD; omega)
    have R5 : hm_r n b τ5 := R4.fr e4 (by unfold hm_FS hm_FD; omega) (fun k => by unfold hm_FS hm_FD; omega)
    have FM5 : hp_fr hm_TD τ τ5 := GM5.mono (fun q f h => by unfold hm_TD; rcases h with h | h; exact .inl h; exact .inr (.inr (.inr (.inr (.inr (.inl (by omega)))))))
    have e29 : τ5.1 64 29 = τ.1 64 29 := GM5.i (by unfold hm_FS hm_FD; omega)
    rw [d1, d2, Option.bind_some, Option.bind_some, ez, e1, e2, Option.bind_some, Option.bind_some]
    dsimp only
    rcases e5 with e5 | e5
    · obtain ⟨z3, z4⟩ := e5.x
      obtain ⟨d, st, h7, h8, h9, rfl, rfl, h11⟩ := e6 z3
      have h60 : hl_b (0 : Int32) 6 := by decide
      have q0 : τ5.1 75 0 = nI (G 0 2) := by
        rw [GM5.i (by unfold hm_FS hm_FD; omega)]
        exact D.2.2.2.2.2.1.1.2.2.1
      have e15 : (15 * nI (G 0 2) : Int32) = nI (15 * G 0 2) := by rw [show (15 : Int32) = nI 15 from rfl, pk_mul]
      have bb0 : hl_b (nI (G 0 2)) 40 := by first | omega | (simp (disch := first | assumption | omega) only [↓hp_neg1, hp_l0, hp_l1, hp_l2, hp_l3, hp_l4, hp_l5, hp_l6, hp_l7, hp_l8, hp_l9, hp_l10, hp_l11, hp_l12, hp_l13, hp_l14, hp_l15, hp_l16, hp_l17, hp_l18, hp_l19, hp_l20, hp_l21, hp_l22, hp_l23, hp_l24, hp_l25, hp_l26, hp_l27, hp_l28, hp_l29, hp_l30, hp_l31, hp_l32, hp_l33, hp_l34, hp_l35, hp_l36, hp_l37, hp_l38, hp_l39, hp_l40, hp_l41, hp_l42, hp_l43, hp_l44, hp_l45, hp_l46, hp_l47, hp_l48, hp_l49, hp_l50, hp_l51, hp_l52, hp_l53, hp_l54, hp_l55, hp_l56, hp_l57, hp_l58, hp_l59, hp_l60, hp_l61, hp_l62, hp_l63, hp_l64, hp_l65, hp_l66, hp_l67, hp_l68, hp_l69, hp_l70, hp_l71, hp_l72, hp_l73, hp_l74, hp_l75, hp_l76, hp_l77, hp_l78, hp_l79, hp_l80, hp_l81, hp_l82, hp_l83, hp_l84, hp_l85, hp_l86, hp_l87, hp_l88, hp_l89, hp_l90, hp_l91, hp_l92, hp_l93, hp_l94, hp_l95, hp_l96, hp_l97, hp_l98, hp_l99, hp_l100, hp_l101, hp_l102, hp_l103, hp_l104, hp_l105, hp_l106, hp_l107, hp_l108, hp_l109, hp_l110, hp_l111, hp_l112, hp_l113, hp_l114, hp_l115, hp_l116, hp_l117, hp_l118, hp_l119, hp_l120, hp_l121, hp_l122, hp_l123, hp_l124, hp_l125, hp_l126, hp_l127, hp_l141, hp_l142, hp_l150, hp_l151, hp_l152, hp_l153, hp_l251, hp_l255, hp_l256, hp_l300, hp_l432, hp_l864, hp_l1000, hp_l1600, hp_l1700, hp_l2304, hp_l2916, hp_l3000, hp_l9999, hp_l10000, nI_add, pk_mul, nI_clamp, hl_lt, hl_le, hl_eq, hl_nIb, hl_nsub, hp_eqm, hp_meq, hp_ltm, hp_mlt, hp_lem, hp_mle, hp_addm, hp_meqm, hp_mlem, hp_withinE, hp_within0, if_pos, if_neg, Option.bind_some, hp_let, Sum.elim_inl, Sum.elim_inr, hp_s01, hp_s11, hp_s2, true_and, and_true, if_true, if_false, not_true_eq_false, not_false_eq_true, reduceCtorEq] <;> omega)
      have bb1 : hl_b (nI (15 * G 0 2)) 300 := by first | omega | (simp (disch := first | assumption | omega) only [↓hp_neg1, hp_l0, hp_l1, hp_l2, hp_l3, hp_l4, hp_l5, hp_l6, hp_l7, hp_l8, hp_l9, hp_l10, hp_l11, hp_l12, hp_l13, hp_l14, hp_l15, hp_l16, hp_l17, hp_l18, hp_l19, hp_l20, hp_l21, hp_l22, hp_l23, hp_l24, hp_l25, hp_l26, hp_l27, hp_l28, hp_l29, hp_l30, hp_l31, hp_l32, hp_l33, hp_l34, hp_l35, hp_l36, hp_l37, hp_l38, hp_l39, hp_l40, hp_l41, hp_l42, hp_l43, hp_l44, hp_l45, hp_l46, hp_l47, hp_l48, hp_l49, hp_l50, hp_l51, hp_l52, hp_l53, hp_l54, hp_l55, hp_l56, hp_l57, hp_l58, hp_l59, hp_l60, hp_l61, hp_l62, hp_l63, hp_l64, hp_l65, hp_l66, hp_l67, hp_l68, hp_l69, hp_l70, hp_l71, hp_l72, hp_l73, hp_l74, hp_l75, hp_l76, hp_l77, hp_l78, hp_l79, hp_l80, hp_l81, hp_l82, hp_l83, hp_l84, hp_l85, hp_l86, hp_l87, hp_l88, hp_l89, hp_l90, hp_l91, hp_l92, hp_l93, hp_l94, hp_l95, hp_l96, hp_l97, hp_l98, hp_l99, hp_l100, hp_l101, hp_l102, hp_l103, hp_l104, hp_l105, hp_l106, hp_l107, hp_l108, hp_l109, hp_l110, hp_l111, hp_l112, hp_l113, hp_l114, hp_l115, hp_l116, hp_l117, hp_l118, hp_l119, hp_l120, hp_l121, hp_l122, hp_l123, hp_l124, hp_l125, hp_l126, hp_l127, hp_l141, hp_l142, hp_l150, hp_l151, hp_l152, hp_l153, hp_l251, hp_l255, hp_l256, hp_l300, hp_l432, hp_l864, hp_l1000, hp_l1600, hp_l1700, hp_l2304, hp_l2916, hp_l3000, hp_l9999, hp_l10000, nI_add, pk_mul, nI_clamp, hl_lt, hl_le, hl_eq, hl_nIb, hl_nsub, hp_eqm, hp_meq, hp_ltm, hp_mlt, hp_lem, hp_mle, hp_addm, hp_meqm, hp_mlem, hp_withinE, hp_within0, if_pos, if_neg, Option.bind_some, hp_let, Sum.elim_inl, Sum.elim_inr, hp_s01, hp_s11, hp_s2, true_and, and_true, if_true, if_false, not_true_eq_false, not_false_eq_true, reduceCtorEq] <;> omega)
      have bb2 : hl_b (nI (15 * G 0 2 + 1)) 300 := by first | omega | (simp (disch := first | assumption | omega) only [↓hp_neg1, hp_l0, hp_l1, hp_l2, hp_l3, hp_l4, hp_l5, hp_l6, hp_l7, hp_l8, hp_l9, hp_l10, hp_l11, hp_l12, hp_l13, hp_l14, hp_l15, hp_l16, hp_l17, hp_l18, hp_l19, hp_l20, hp_l21, hp_l22, hp_l23, hp_l24, hp_l25, hp_l26, hp_l27, hp_l28, hp_l29, hp_l30, hp_l31, hp_l32, hp_l33, hp_l34, hp_l35, hp_l36, hp_l37, hp_l38, hp_l39, hp_l40, hp_l41, hp_l42, hp_l43, hp_l44, hp_l45, hp_l46, hp_l47, hp_l48, hp_l49, hp_l50, hp_l51, hp_l52, hp_l53, hp_l54, hp_l55, hp_l56, hp_l57, hp_l58, hp_l59, hp_l60, hp_l61, hp_l62, hp_l63, hp_l64, hp_l65, hp_l66, hp_l67, hp_l68, hp_l69, hp_l70, hp_l71, hp_l72, hp_l73, hp_l74, hp_l75, hp_l76, hp_l77, hp_l78, hp_l79, hp_l80, hp_l81, hp_l82, hp_l83, hp_l84, hp_l85, hp_l86, hp_l87, hp_l88, hp_l89, hp_l90, hp_l91, hp_l92, hp_l93, hp_l94, hp_l95, hp_l96, hp_l97, hp_l98, hp_l99, hp_l100, hp_l101, hp_l102, hp_l103, hp_l104, hp_l105, hp_l106, hp_l107, hp_l108, hp_l109, hp_l110, hp_l111, hp_l112, hp_l113, hp_l114, hp_l115, hp_l116, hp_l117, hp_l118, hp_l119, hp_l120, hp_l121, hp_l122, hp_l123, hp_l124, hp_l125, hp_l126, hp_l127, hp_l141, hp_l142, hp_l150, hp_l151, hp_l152, hp_l153, hp_l251, hp_l255, hp_l256, hp_l300, hp_l432, hp_l864, hp_l1000, hp_l1600, hp_l1700, hp_l2304, hp_l2916, hp_l3000, hp_l9999, hp_l10000, nI_add, pk_mul, nI_clamp, hl_lt, hl_le, hl_eq, hl_nIb, hl_nsub, hp_eqm, hp_meq, hp_ltm, hp_mlt, hp_lem, hp_mle, hp_addm, hp_meqm, hp_mlem, hp_withinE, hp_within0, if_pos, if_neg, Option.bind_some, hp_let, Sum.elim_inl, Sum.elim_inr, hp_s01, hp_s11, hp_s2, true_and, and_true, if_true, if_false, not_true_eq_false, not_false_eq_true, reduceCtorEq] <;> omega)
      have bb3 : hl_b (nI (15 * G 0 2 + 2)) 300 := by first | omega | (simp (disch := first | assumption | omega) only [↓hp_neg1, hp_l0, hp_l1, hp_l2, hp_l3, hp_l4, hp_l5, hp_l6, hp_l7, hp_l8, hp_l9, hp_l10, hp_l11, hp_l12, hp_l13, hp_l14, hp_l15, hp_l16, hp_l17, hp_l18, hp_l19, hp_l20, hp_l21, hp_l22, hp_l23, hp_l24, hp_l25, hp_l26, hp_l27, hp_l28, hp_l29, hp_l30, hp_l31, hp_l32, hp_l33, hp_l34, hp_l35, hp_l36, hp_l37, hp_l38, hp_l39, hp_l40, hp_l41, hp_l42, hp_l43, hp_l44, hp_l45, hp_l46, hp_l47, hp_l48, hp_l49, hp_l50, hp_l51, hp_l52, hp_l53, hp_l54, hp_l55, hp_l56, hp_l57, hp_l58, hp_l59, hp_l60, hp_l61, hp_l62, hp_l63, hp_l64, hp_l65, hp_l66, hp_l67, hp_l68, hp_l69, hp_l70, hp_l71, hp_l72, hp_l73, hp_l74, hp_l75, hp_l76, hp_l77, hp_l78, hp_l79, hp_l80, hp_l81, hp_l82, hp_l83, hp_l84, hp_l85, hp_l86, hp_l87, hp_l88, hp_l89, hp_l90, hp_l91, hp_l92, hp_l93, hp_l94, hp_l95, hp_l96, hp_l97, hp_l98, hp_l99, hp_l100, hp_l101, hp_l102, hp_l103, hp_l104, hp_l105, hp_l106, hp_l107, hp_l108, hp_l109, hp_l110, hp_l111, hp_l112, hp_l113, hp_l114, hp_l115, hp_l116, hp_l117, hp_l118, hp_l119, hp_l120, hp_l121, hp_l122, hp_l123, hp_l124, hp_l125, hp_l126, hp_l127, hp_l141, hp_l142, hp_l150, hp_l151, hp_l152, hp_l153, hp_l251, hp_l255, hp_l256, hp_l300, hp_l432, hp_l864, hp_l1000, hp_l1600, hp_l1700, hp_l2304, hp_l2916, hp_l3000, hp_l9999, hp_l10000, nI_add, pk_mul, nI_clamp, hl_lt, hl_le, hl_eq, hl_nIb, hl_nsub, hp_eqm, hp_meq, hp_ltm, hp_mlt, hp_lem, hp_mle, hp_addm, hp_meqm, hp_mlem, hp_withinE, hp_within0, if_pos, if_neg, Option.bind_some, hp_let, Sum.elim_inl, Sum.elim_inr, hp_s01, hp_s11, hp_s2, true_and, and_true, if_true, if_false, not_true_eq_false, not_false_eq_true, reduceCtorEq] <;> omega)
      rw [if_pos z4, if_pos bb0, e15, if_pos bb1, nI_1, if_pos bb2, show (2 : Int32) = nI 2 from rfl, nI_add, if_pos bb3, if_pos h60, if_pos h60, nI_clamp (by omega), nI_clamp (by omega), nI_clamp (by omega), nI_clamp (by omega), show (0 : Int32).toNatClampNeg = 0 from rfl, hp_sn (by omega), hp_sn (by omega), hp_sn (by omega), hp_s1, q0, nI_1, Option.bind_some]
      have H6 : q_ok n b σ5 (hl_si (hl_si (hl_si (hl_si (hl_sl τ5 77 (G 0 2) (lN (hp_n27 l m))) 78 (15 * G 0 2) (nI c)) 78 (15 * G 0 2 + 1) (nI u)) 78 (15 * G 0 2 + 2) (nI d)) 75 0 (nI (G 0 2 + 1))) := e5.fr (fun f hf => rfl) (fun f hf => by rw [hp_sn (by omega), hp_sn (by omega), hp_sn (by omega), hp_sn (by omega), hp_s1])
      have R6' : hm_r n b (hl_sl τ5 77 (G 0 2) (lN (hp_n27 l m))) := R5
      have R6 : hm_r n b (hl_si (hl_si (hl_si (hl_si (hl_sl τ5 77 (G 0 2) (lN (hp_n27 l m))) 78 (15 * G 0 2) (nI c)) 78 (15 * G 0 2 + 1) (nI u)) 78 (15 * G 0 2 + 2) (nI d)) 75 0 (nI (G 0 2 + 1))) := (((R6'.si (by omega)).si (by omega)).si (by omega)).si (by omega)
      obtain ⟨σ6, τ7, s1, s2, s3, s4, s5, s6⟩ := q_j98 T5 R6 (.inl H6)
      have FM7 : hp_fr hm_TD τ τ7 := (((((FM5.sl (.inr (.inr (.inr (.inr (.inl ⟨rfl, by omega⟩)))))).si (.inr (.inr (.inr (.inr (.inr (.inl ⟨rfl, by omega⟩))))))).si (.inr (.inr (.inr (.inr (.inr (.inl ⟨rfl, by omega⟩))))))).si (.inr (.inr (.inr (.inr (.inr (.inl ⟨rfl, by omega⟩))))))).si (.inr (.inr (.inl ⟨rfl, by omega⟩)))).tr (s4.mono hm_D29)
      have e7 : τ7.1 64 29 = τ.1 64 29 + 1 := by rw [s6, hp_sn (by omega), hp_sn (by omega), hp_sn (by omega), hp_sn (by omega), hp_s1, e29]
      rw [s1, s2, Option.bind_some]
      rcases s5 with s5 | s5
      · obtain ⟨z5, z6⟩ := s5.x
        have D5 : q_D G P σ6 τ5 := D.fr ((GX5.tr s3).mono hx_FD_DD) (GM5.mono (fun q f h => by unfold hm_DD; rcases h with h | h; exact .inl h; exact .inr (.inr (.inr (by omega)))))
        have q3 : σ6.1 14 3 = nI (G 0 2) := D5.2.2.2.1.1.2.2.1
        have bb4 : hl_b (nI (G 0 2)) 10 := by first | omega | (simp (disch := first | assumption | omega) only [↓hp_neg1, hp_l0, hp_l1, hp_l2, hp_l3, hp_l4, hp_l5, hp_l6, hp_l7, hp_l8, hp_l9, hp_l10, hp_l11, hp_l12, hp_l13, hp_l14, hp_l15, hp_l16, hp_l17, hp_l18, hp_l19, hp_l20, hp_l21, hp_l22, hp_l23, hp_l24, hp_l25, hp_l26, hp_l27, hp_l28, hp_l29, hp_l30, hp_l31, hp_l32, hp_l33, hp_l34, hp_l35, hp_l36, hp_l37, hp_l38, hp_l39, hp_l40, hp_l41, hp_l42, hp_l43, hp_l44, hp_l45, hp_l46, hp_l47, hp_l48, hp_l49, hp_l50, hp_l51, hp_l52, hp_l53, hp_l54, hp_l55, hp_l56, hp_l57, hp_l58, hp_l59, hp_l60, hp_l61, hp_l62, hp_l63, hp_l64, hp_l65, hp_l66, hp_l67, hp_l68, hp_l69, hp_l70, hp_l71, hp_l72, hp_l73, hp_l74, hp_l75, hp_l76, hp_l77, hp_l78, hp_l79, hp_l80, hp_l81, hp_l82, hp_l83, hp_l84, hp_l85, hp_l86, hp_l87, hp_l88, hp_l89, hp_l90, hp_l91, hp_l92, hp_l93, hp_l94, hp_l95, hp_l96, hp_l97, hp_l98, hp_l99, hp_l100, hp_l101, hp_l102, hp_l103, hp_l104, hp_l105, hp_l106, hp_l107, hp_l108, hp_l109, hp_l110, hp_l111, hp_l112, hp_l113, hp_l114, hp_l115, hp_l116, hp_l117, hp_l118, hp_l119, hp_l120, hp_l121, hp_l122, hp_l123, hp_l124, hp_l125, hp_l126, hp_l127, hp_l141, hp_l142, hp_l150, hp_l151, hp_l152, hp_l153, hp_l251, hp_l255, hp_l256, hp_l300, hp_l432, hp_l864, hp_l1000, hp_l1600, hp_l1700, hp_l2304, hp_l2916, hp_l3000, hp_l9999, hp_l10000, nI_add, pk_mul, nI_clamp, hl_lt, hl_le, hl_eq, hl_nIb, hl_nsub, hp_eqm, hp_meq, hp_ltm, hp_mlt, hp_lem, hp_mle, hp_addm, hp_meqm, hp_mlem, hp_withinE, hp_within0, if_pos, if_neg, Option.bind_some, hp_let, Sum.elim_inl, Sum.elim_inr, hp_s01, hp_s11, hp_s2, true_and, and_true, if_true, if_false, not_true_eq_false, not_false_eq_true, reduceCtorEq] <;> omega)
        rw [hx_failed0 z5, if_pos rfl, q3, show (10 : Int32) = nI 10 from rfl, hp_withinT (show G 0 2 < 10 by omega) (by decide), if_neg (show ¬ (1 : Int32) = 0 by decide), if_pos bb4, nI_clamp (by omega), hp_sn (by omega), q3, if_pos bb4, nI_clamp (by omega), hp_sn (by omega), hp_sn (by omega), q3, if_pos bb4, nI_clamp (by omega), hp_sn (by omega), hp_sn (by omega), hp_sn (by omega), q3, if_pos bb4, nI_clamp (by omega), hp_let, hp_s1, hp_sn (by omega), hp_sn (by omega), hp_sn (by omega), q3, nI_1]
        refine ⟨_, _, rfl, rfl, ((((((GX5.tr s3).mono hx_FD_TD).si (.inr ⟨by omega, by omega⟩)).si (.inr ⟨by omega, by omega⟩)).si (.inr ⟨by omega, by omega⟩)).sl (.inr ⟨by omega, by omega⟩)).si (.inr ⟨by omega, by omega⟩), FM7, e7, .inl ⟨s5.fr (fun f hf => by rw [hp_sn (by omega), hp_s1, hp_sn (by omega), hp_sn (by omega), hp_sn (by omega)]) (fun f hf => rfl), hp_addP G c m l, hp_addQ (G 0 2) P u d st, z, ?_, hz, ?_, ?_⟩⟩
        · obtain ⟨wg, wp, w3, ⟨⟨x1, x2, x3, x4, x5⟩, x6, x7, x8, x9⟩, xp, ⟨⟨y1, y2, y3, y4, y5⟩, y6, y7, y8, y9⟩, mp⟩ := D5
          have rd : ∀ q f, ¬ (q = 64 ∧ f < 20) → ¬ (q = 64 ∧ f = 29) → ¬ (q = 78 ∧ (f = 15 * G 0 2 ∨ f = 15 * G 0 2 + 1 ∨ f = 15 * G 0 2 + 2)) → ¬ (q = 75 ∧ f = 0) → τ7.1 q f = τ5.1 q f := fun q f u1 u2 u3 u4 => by
            rw [s4.i (by unfold hm_FD; omega), hp_sn (by omega), hp_sn (by omega), hp_sn (by omega), hp_sn (by omega), hp_s1]
          have rdl : ∀ f, f ≠ G 0 2 → τ7.2 77 f = τ5.2 77 f := fun f u => by
            rw [s4.l (by unfold hm_FD; omega), hp_s2, hp_s2, hp_s2, hp_s2, hp_sln (by omega)]
          refine ⟨hp_addP_wg wg w3 h10 hc ho h1 h6 hl, hp_addQ_wp wp hu h7 h8 h9, ?_, ⟨⟨?_, ?_, ?_, ?_, ?_⟩, ?_, ?_, ?_, ?_⟩, ?_, ⟨⟨?_, ?_, ?_, ?_, ?_⟩, ?_, ?_, ?_, ?_⟩, ?_⟩
          · rw [hp_addP_0 (by omega)]; exact w3
          · rw [hp_addP_0 (by omega), hp_sn (by omega), hp_s1, hp_sn (by omega), hp_sn (by omega), hp_sn (by omega)]; exact x1
          · rw [hp_addP_0 (by omega), hp_sn (by omega), hp_s1, hp_sn (by omega), hp_sn (by omega), hp_sn (by omega)]; exact x2
          · rw [hp_addP_02, hp_s01]
          · rw [hp_addP_0 (by omega), hp_sn (by omega), hp_s1, hp_sn (by omega), hp_sn (by omega), hp_sn (by omega)]; exact x4
          · rw [hp_addP_0 (by omega), hp_sn (by omega), hp_s1, hp_sn (by omega), hp_sn (by omega), hp_sn (by omega)]; exact x5
          · rw [hp_addP_f (by omega), hp_s2, hp_sln (by omega)]; exact x6
          · rw [hp_addP_02]
            intro p hp
            rw [hp_addP_5, hp_addP_2]
            by_cases e : p = G 0 2
            · rw [if_pos e, if_pos e, e, hp_addP_l, hp_sn (by omega), hp_s1, hp_sn (by omega), hp_sn (by omega), hp_s01, hp_sn (by omega), hp_s1, hp_sn (by omega), hp_s01]
              exact ⟨rfl, rfl⟩
            · rw [if_neg e, if_neg e, hp_addP_f (by omega), hp_sn (by omega), hp_s1, hp_sn (by omega), hp_sn (by omega), hp_sn (by omega), hp_sn (by omega), hp_s1, hp_sn (by omega), hp_sn (by omega), hp_sn (by omega)]
              exact x7 p (by omega)
          · rw [hp_addP_0 (by omega)]
            intro p hp
            rw [hp_addP_f (by omega), hp_addP_f (by omega), hp_addP_f (by omega), hp_sn (by omega), hp_s1, hp_sn (by omega), hp_sn (by omega), hp_sn (by omega), hp_s2, hp_sln (by omega), hp_sln (by omega)]
            exact x8 p hp
          · rw [hp_addP_0 (by omega)]
            intro p hp
            rw [hp_addP_f (by omega), hp_addP_f (by omega), hp_sn (by omega), hp_s1, hp_sn (by omega), hp_sn (by omega), hp_sn (by omega), hp_sn (by omega), hp_s1, hp_sn (by omega), hp_sn (by omega), hp_sn (by omega)]
            exact x9 p hp
          · intro p hp
            rw [hp_addP_02] at hp
            rw [hp_addQ_0, hp_addQ_1, hp_addQ_2]
            by_cases e : p = G 0 2
            · rw [if_pos e, if_pos e, if_pos e, e, hp_sn (by omega), hp_s1, hp_s01, hp_s2, hp_s11]
              exact ⟨rfl, rfl⟩
            · rw [if_neg e, if_neg e, if_neg e, hp_sn (by omega), hp_s1, hp_sn (by omega), hp_sn (by omega), hp_sn (by omega), hp_s2, hp_sln (by omega)]
              exact xp p (by omega)
          · rw [hp_addP_0 (by omega), rd _ _ (by omega) (by omega) (by omega) (by omega)]; exact y1
          · rw [hp_addP_0 (by omega), rd _ _ (by omega) (by omega) (by omega) (by omega)]; exact y2
          · rw [hp_addP_02, s4.i (by unfold hm_FD; omega), hp_s01]
          · rw [hp_addP_0 (by omega), rd _ _ (by omega) (by omega) (by omega) (by omega)]; exact y4
          · rw [hp_addP_0 (by omega), rd _ _ (by omega) (by omega) (by omega) (by omega)]; exact y5
          · rw [hp_addP_f (by omega)]
            intro k hk
            rw [rd _ _ (by omega) (by omega) (by omega) (by omega)]
            exact y6 k hk
          · rw [hp_addP_02]
            intro p hp
            rw [hp_addP_5]
            by_cases e : p = G 0 2
            · rw [if_pos e, e, hp_addP_l, Nat.mul_zero, Nat.zero_add, s4.l (by unfold hm_FD; omega), hp_s2, hp_s2, hp_s2, hp_s2, hp_s11]
            · rw [if_neg e, hp_addP_f (by omega), rdl _ (by omega)]
              exact y7 p (by omega)
          · rw [hp_addP_0 (by omega)]
            intro p hp
            rw [hp_addP_f (by omega), hp_addP_f (by omega), hp_addP_f (by omega), rdl _ (by omega)]
            refine ⟨(y8 p hp).1, fun k hk => ?_⟩
            rw [rd _ _ (by omega) (by omega) (by omega) (by omega)]
            exact (y8 p hp).2 k hk
          · rw [hp_addP_0 (by omega)]
            intro p hp
            rw [hp_addP_f (by omega), hp_addP_f (by omega), rd _ _ (by omega) (by omega) (by omega) (by omega), rd _ _ (by omega) (by omega) (by omega) (by omega)]
            exact y9 p hp
          · intro p hp
            rw [hp_addP_02] at hp
            rw [hp_addP_2, hp_addQ_0, hp_addQ_1, hp_addQ_2]
            by_cases e : p = G 0 2
            · rw [if_pos e, if_pos e, if_pos e, if_pos e, e]
              refine ⟨?_, ?_, ?_, fun k hk => ?_⟩
              · rw [s4.i (by unfold hm_FD; omega), hp_sn (by omega), hp_sn (by omega), hp_sn (by omega), Nat.zero_add, hp_s01]
              · rw [s4.i (by unfold hm_FD; omega), hp_sn (by omega), hp_sn (by omega), show 0 + 1 + 15 * G 0 2 = 15 * G 0 2 + 1 by omega, hp_s01]
              · rw [s4.i (by unfold hm_FD; omega), hp_sn (by omega), show 0 + 2 + 15 * G 0 2 = 15 * G 0 2 + 2 by omega, hp_s01]
              · rw [rd _ _ (by omega) (by omega) (by omega) (by omega), show 0 + 3 + 15 * G 0 2 + k = 15 * G 0 2 + 3 + k by omega]
                exact h11 k hk
            · rw [if_neg e, if_neg e, if_neg e, if_neg e]
              have h12 := (wp p (by omega)).2.2.1
              refine ⟨?_, ?_, ?_, fun k hk => ?_⟩
              · rw [rd _ _ (by omega) (by omega) (by omega) (by omega)]; exact (mp p (by omega)).1
              · rw [rd _ _ (by omega) (by omega) (by omega) (by omega)]; exact (mp p (by omega)).2.1
              · rw [rd _ _ (by omega) (by omega) (by omega) (by omega)]; exact (mp p (by omega)).2.2.1
              · rw [rd _ _ (by omega) (by omega) (by omega) (by omega)]; exact (mp p (by omega)).2.2.2 k hk
        · rw [hp_sn (by omega), hp_s1, hp_sn (by omega), hp_sn (by omega), hp_sn (by omega), (GX5.tr s3).i (by unfold hx_FD; omega)]
          exact w1
        · rw [s4.i (by unfold hm_FD; omega), hp_sn (by omega), hp_sn (by omega), hp_sn (by omega), hp_sn (by omega), hp_s1, GM5.i (by unfold hm_FS hm_FD; omega)]
          exact w2
      · rw [hx_failed1 s5.x.1, if_neg (show ¬ (1 : Int32) = 0 by decide)]
        exact ⟨_, _, rfl, rfl, (GX5.tr s3).mono hx_FD_TD, FM7, e7, .inr s5⟩
    · obtain ⟨z3, z4⟩ := e5.x
      rw [if_neg z4]
      obtain ⟨r1, r2⟩ := q_failN (f := 1) (p := σ5.1 3 2) e5
      rw [hx_sign_no e5, Option.bind_some, hx_failed1 r1.x.1, if_neg (show ¬ (1 : Int32) = 0 by decide)]
      exact dead _ _ r1 ((GX5.tr r2).mono hx_FD_TD) FM5 e29
  · obtain ⟨r1, r2⟩ := q_failN (f := 1) (p := σ3.1 3 2) c5
    rw [hx_word_no c5, Option.bind_some, hm_asks_no c5.x.2, Option.bind_some, hm_steps_no c5.x.2, Option.bind_some, if_neg c5.x.2]
    generalize f_Rd_fail 1 (σ3.1 3 2) σ3 = σ4 at r1 r2 ⊢
    obtain ⟨s1, s2⟩ := q_failN (f := 1) (p := σ4.1 3 2) r1
    rw [hx_steps_no r1, Option.bind_some]
    generalize f_Rd_fail 1 (σ4.1 3 2) σ4 = σ5 at s1 s2 ⊢
    obtain ⟨t1, t2⟩ := q_failN (f := 1) (p := σ5.1 3 2) s1
    dsimp only
    rw [hx_sign_no s1, Option.bind_some, hx_failed1 t1.x.1, if_neg (show ¬ (1 : Int32) = 0 by decide)]
    exact dead _ _ t1 ((((GX3.tr r2).tr s2).tr t2).mono hx_FD_TD) (GM3.mono hm_FD_TD) (GM3.i (by unfold hm_FD; omega))
theorem q_persS (A : f_Rd_advance σ = some σ1) (FA : hp_fr hx_RD σ σ1) (h4 : σ.1 3 4 = 0) (KK : hm_k τ1) (T : hx_t n b σ1) (R : hm_r n b τ1) (H : q_ok n b σ1 τ1) (D : q_D G P σ1 τ1) (hw : z ≤ 20) (w1 : σ.1 24 2 = nI z) (w2 : τ1.1 64 22 = nI z) : ∃ σ' τ', f_Tl_tellPerson σ = some σ' ∧ (f_M_personTold (σ.1 3 2) τ1).bind f_M_statementTold_j98 = some τ' ∧ hp_fr hx_TD σ σ' ∧ hp_fr hm_TD τ1 τ' ∧ τ'.1 64 29 = τ1.1 64 29 + 1 ∧ q_T n b σ' τ' := by
  have h5 := H.x.2
  have hnp := D.1.np
  have x3 : σ.1 14 3 = nI (G 0 2) := by
    rw [← FA.i (show ¬ hx_RD 14 3 by unfold hx_RD; omega)]
    exact D.2.2.2.1.1.2.2.1
  have m0 : τ1.1 75 0 = nI (G 0 2) := D.2.2.2.2.2.1.1.2.2.1
  have dead : ∀ σa τa, q_no σa τa → hp_fr hx_TD σ σa → hp_fr hm_TD τ1 τa → τa.1 64 29 = τ1.1 64 29 → ∃ σ' τ', some σa = some σ' ∧ (some τa).bind f_M_statementTold_j98 = some τ' ∧ hp_fr hx_TD σ σ' ∧ hp_fr hm_TD τ1 τ' ∧ τ'.1 64 29 = τ1.1 64 29 + 1 ∧ q_T n b σ' τ' := by
    intro σa τa g1 g2 g3 g4
    unfold f_M_statementTold_j98
    rw [Option.bind_some, hm_sign_no g1.x.2, Option.bind_some]
    exact ⟨_, _, rfl, rfl, g2, g3.si (.inr (.inl ⟨rfl, by omega⟩)), by rw [hp_s01, g4], .inr (g1.fr (fun f hf => rfl) (fun f hf => hp_sn (by omega)))⟩
  have dead83 : ∀ σa τa x y v0 v1 v2, q_no σa τa → hp_fr hx_TD σ σa → hp_fr hm_TD τ1 τa → τa.1 64 29 = τ1.1 64 29 → ∃ σ' τ', f_Tl_tellPerson_j83 x y σa = some σ' ∧ (f_M_personTold_j73 v0 v1 v2 τa).bind f_M_statementTold_j98 = some τ' ∧ hp_fr hx_TD σ σ' ∧ hp_fr hm_TD τ1 τ' ∧ τ'.1 64 29 = τ1.1 64 29 + 1 ∧ q_T n b σ' τ' := by
    intro σa τa x y v0 v1 v2 g1 g2 g3 g4
    obtain ⟨σb, s1, s2, s3⟩ := hx_j83_no g1 x y
    rw [s1, hm_j73_no g1.x.2]
    exact dead _ _ s3 (g2.tr (s2.mono hx_FD_TD)) g3 g4
  unfold f_Tl_tellPerson f_Tl_startsOneOf f_M_personTold f_M_isFull f_M_isFull_j23
  have h60 : hl_b (0 : Int32) 6 := by decide
  rw [x3, if_pos h5, if_pos h60, show (0 : Int32).toNatClampNeg = 0 from rfl, m0]
  by_cases e : G 0 2 = 10
  · obtain ⟨r1, r2, r3⟩ := q_fail0 (σ := σ) (τ := τ1) (f := 5) (p := σ.1 3 2) h4 h5 (by decide)
    have n1 : ¬ nI (G 0 2) < 10 := by rw [e]; decide
    rw [if_neg n1, Option.bind_some, if_pos rfl, if_pos (show nI (G 0 2) = 10 by rw [e]; rfl), if_neg r1.x.2, Option.bind_some, if_neg (show ¬ (1 : Int32) = 0 by decide)]
    exact dead _ _ r1 (r2.mono hx_FD_TD) (r3.mono hm_FD_TD) (r3.i (by unfold hm_FD; omega))
  · have n1 : nI (G 0 2) < 10 := nI_lt (show G 0 2 < 10 by omega) (by decide)
    have n2 : ¬ nI (G 0 2) = 10 := by first | omega | (simp (disch := first | assumption | omega) only [↓hp_neg1, hp_l0, hp_l1, hp_l2, hp_l3, hp_l4, hp_l5, hp_l6, hp_l7, hp_l8, hp_l9, hp_l10, hp_l11, hp_l12, hp_l13, hp_l14, hp_l15, hp_l16, hp_l17, hp_l18, hp_l19, hp_l20, hp_l21, hp_l22, hp_l23, hp_l24, hp_l25, hp_l26, hp_l27, hp_l28, hp_l29, hp_l30, hp_l31, hp_l32, hp_l33, hp_l34, hp_l35, hp_l36, hp_l37, hp_l38, hp_l39, hp_l40, hp_l41, hp_l42, hp_l43, hp_l44, hp_l45, hp_l46, hp_l47, hp_l48, hp_l49, hp_l50, hp_l51, hp_l52, hp_l53, hp_l54, hp_l55, hp_l56, hp_l57, hp_l58, hp_l59, hp_l60, hp_l61, hp_l62, hp_l63, hp_l64, hp_l65, hp_l66, hp_l67, hp_l68, hp_l69, hp_l70, hp_l71, hp_l72, hp_l73, hp_l74, hp_l75, hp_l76, hp_l77, hp_l78, hp_l79, hp_l80, hp_l81, hp_l82, hp_l83, hp_l84, hp_l85, hp_l86, hp_l87, hp_l88, hp_l89, hp_l90, hp_l91, hp_l92, hp_l93, hp_l94, hp_l95, hp_l96, hp_l97, hp_l98, hp_l99, hp_l100, hp_l101, hp_l102, hp_l103, hp_l104, hp_l105, hp_l106, hp_l107, hp_l108, hp_l109, hp_l110, hp_l111, hp_l112, hp_l113, hp_l114, hp_l115, hp_l116, hp_l117, hp_l118, hp_l119, hp_l120, hp_l121, hp_l122, hp_l123, hp_l124, hp_l125, hp_l126, hp_l127, hp_l141, hp_l142, hp_l150, hp_l151, hp_l152, hp_l153, hp_l251, hp_l255, hp_l256, hp_l300, hp_l432, hp_l864, hp_l1000, hp_l1600, hp_l1700, hp_l2304, hp_l2916, hp_l3000, hp_l9999, hp_l10000, nI_add, pk_mul, nI_clamp, hl_lt, hl_le, hl_eq, hl_nIb, hl_nsub, hp_eqm, hp_meq, hp_ltm, hp_mlt, hp_lem, hp_mle, hp_addm, hp_meqm, hp_mlem, hp_withinE, hp_within0, if_pos, if_neg, Option.bind_some, hp_let, Sum.elim_inl, Sum.elim_inr, hp_s01, hp_s11, hp_s2, true_and, and_true, if_true, if_false, not_true_eq_false, not_false_eq_true, reduceCtorEq] <;> omega)
    rw [if_pos n1, A, Option.bind_some, Option.bind_some, if_neg (show ¬ (1 : Int32) = 0 by decide), if_neg n2, if_pos h5, Option.bind_some, if_pos rfl, if_pos h60, m0]
    obtain ⟨x, y, σ2, τ2, a1, a2, a3, a4, a5, a6⟩ := q_newName (G := G) (P := P) KK T R (.inl H) (fun _ => D)
    have T2 : hx_t n b σ2 := T.fr a3 (by unfold hx_FD; omega) (fun k => by unfold hx_FD; omega)
    have R2 : hm_r n b τ2 := R.fr a4 (by unfold hm_FD; omega) (fun k => by unfold hm_FD; omega)
    have K2 : hm_k τ2 := KK.fr a4 (fun q f h => by have := h.1; omega)
    obtain ⟨σ3, τ3, b1, b2, b3, b4, b5⟩ := q_want (j := 12) (v := 69) (W := hp_W 3) (by decide +kernel) (K2 3 (by omega)) (hp_WL (by omega)) (by omega) T2 R2 a5
    have T3 : hx_t n b σ3 := T2.fr b3 (by unfold hx_FD; omega) (fun k => by unfold hx_FD; omega)
    have R3 : hm_r n b τ3 := R2.fr b4 (by unfold hm_FD; omega) (fun k => by unfold hm_FD; omega)
    have D3 := (D.fr0 a3 a4).fr0 b3 b4
    obtain ⟨xc, yc, σ4, τ4, c1, c2, c3, c4, c5, c6⟩ := q_cell D3 T3 R3 b5
    have T4 : hx_t n b σ4 := T3.fr c3 (by unfold hx_FD; omega) (fun k => by unfold hx_FD; omega)
    have R4 : hm_r n b τ4 := R3.fr c4 (by unfold hm_FD; omega) (fun k => by unfold hm_FD; omega)
    have D4 := D3.fr0 c3 c4
    have GX : hp_fr hx_FD σ1 σ4 := (a3.tr b3).tr c3
    have GM : hp_fr hm_FD τ1 τ4 := (a4.tr b4).tr c4
    have K4 : hm_k τ4 := KK.fr GM (fun q f h => by have := h.1; omega)
    have FX4 : hp_fr hx_TD σ σ4 := (FA.mono hx_RD_TD).tr (GX.mono hx_FD_TD)
    have FM4 : hp_fr hm_TD τ1 τ4 := GM.mono hm_FD_TD
    have e29 : τ4.1 64 29 = τ1.1 64 29 := GM.i (by unfold hm_FD; omega)
    rw [a1, a2, Option.bind_some, Option.bind_some]
    dsimp only
    rw [b1, b2, Option.bind_some, Option.bind_some, c1, c2, Option.bind_some, Option.bind_some]
    dsimp only
    rcases c5 with c5 | c5
    · obtain ⟨z1, z2⟩ := c5.x
      obtain ⟨c, hc, rfl, rfl, e9⟩ := c6 z1
      have hC := D.1.C
      have nb : hl_b (nI c) 108 := by first | omega | (simp (disch := first | assumption | omega) only [↓hp_neg1, hp_l0, hp_l1, hp_l2, hp_l3, hp_l4, hp_l5, hp_l6, hp_l7, hp_l8, hp_l9, hp_l10, hp_l11, hp_l12, hp_l13, hp_l14, hp_l15, hp_l16, hp_l17, hp_l18, hp_l19, hp_l20, hp_l21, hp_l22, hp_l23, hp_l24, hp_l25, hp_l26, hp_l27, hp_l28, hp_l29, hp_l30, hp_l31, hp_l32, hp_l33, hp_l34, hp_l35, hp_l36, hp_l37, hp_l38, hp_l39, hp_l40, hp_l41, hp_l42, hp_l43, hp_l44, hp_l45, hp_l46, hp_l47, hp_l48, hp_l49, hp_l50, hp_l51, hp_l52, hp_l53, hp_l54, hp_l55, hp_l56, hp_l57, hp_l58, hp_l59, hp_l60, hp_l61, hp_l62, hp_l63, hp_l64, hp_l65, hp_l66, hp_l67, hp_l68, hp_l69, hp_l70, hp_l71, hp_l72, hp_l73, hp_l74, hp_l75, hp_l76, hp_l77, hp_l78, hp_l79, hp_l80, hp_l81, hp_l82, hp_l83, hp_l84, hp_l85, hp_l86, hp_l87, hp_l88, hp_l89, hp_l90, hp_l91, hp_l92, hp_l93, hp_l94, hp_l95, hp_l96, hp_l97, hp_l98, hp_l99, hp_l100, hp_l101, hp_l102, hp_l103, hp_l104, hp_l105, hp_l106, hp_l107, hp_l108, hp_l109, hp_l110, hp_l111, hp_l112, hp_l113, hp_l114, hp_l115, hp_l116, hp_l117, hp_l118, hp_l119, hp_l120, hp_l121, hp_l122, hp_l123, hp_l124, hp_l125, hp_l126, hp_l127, hp_l141, hp_l142, hp_l150, hp_l151, hp_l152, hp_l153, hp_l251, hp_l255, hp_l256, hp_l300, hp_l432, hp_l864, hp_l1000, hp_l1600, hp_l1700, hp_l2304, hp_l2916, hp_l3000, hp_l9999, hp_l10000, nI_add, pk_mul, nI_clamp, hl_lt, hl_le, hl_eq, hl_nIb, hl_nsub, hp_eqm, hp_meq, hp_ltm, hp_mlt, hp_lem, hp_mle, hp_addm, hp_meqm, hp_mlem, hp_withinE, hp_within0, if_pos, if_neg, Option.bind_some, hp_let, Sum.elim_inl, Sum.elim_inr, hp_s01, hp_s11, hp_s2, true_and, and_true, if_true, if_false, not_true_eq_false, not_false_eq_true, reduceCtorEq] <;> omega)
      have v76 : τ4.1 76 c = nI (G 1 c) := by
        have := D4.2.2.2.2.2.1.2.1 c (by omega)
        rw [Nat.mul_zero, Nat.zero_add] at this
        exact this
      have hwl := D.1.wall c
      rw [hx_failed0 z1, if_pos rfl, if_pos z2, hx_open_d D4 hc, if_pos nb, nI_clamp (by omega), v76]
      obtain ⟨r1, r2, r3⟩ := q_fail0 (σ := σ4) (τ := τ4) (f := 2) (p := σ4.1 3 6) z1 z2 (by decide)
      have bad : ∃ σ' τ', f_Tl_tellPerson_j68 x (nI c) σ4 = some σ' ∧ (f_M_personTold_j64 (nI (G 0 2)) y (nI c) τ4).bind f_M_statementTold_j98 = some τ' ∧ hp_fr hx_TD σ σ' ∧ hp_fr hm_TD τ1 τ' ∧ τ'.1 64 29 = τ1.1 64 29 + 1 ∧ q_T n b σ' τ' := by
        unfold f_Tl_tellPerson_j68 f_M_personTold_j64
        rw [← e9]
        exact dead83 _ _ _ _ _ _ _ r1 (FX4.tr (r2.mono hx_FD_TD)) (FM4.tr (r3.mono hm_FD_TD)) (by rw [r3.i (by unfold hm_FD; omega)]; exact e29)
      by_cases ho : G 1 c = 0
      · rw [if_pos ho, if_neg (show ¬ (1 : Int32) = 0 by decide), if_pos (show nI (G 1 c) = 0 by rw [ho]; rfl)]
        obtain ⟨u, u1, u2, u3⟩ := q_told D4 hc
        rw [u1, u2, Option.bind_some, Option.bind_some]
        rcases u3 with ⟨rfl, u4⟩ | rfl
        · rw [if_pos rfl, if_pos rfl]
          have ok2 : σ2.1 3 4 = 0 := by
            rcases a5 with h | h
            · exact h.x.1
            · exfalso
              have g1 := hx_word_no h 12
              rw [b1] at g1
              have g2 : σ3 = f_Rd_fail 1 (σ2.1 3 2) σ2 := Option.some.inj g1
              have g3 := (q_failN (f := 1) (p := σ2.1 3 2) h).1
              rw [← g2] at g3
              unfold f_Tl_wantCell at c1
              rw [hx_num_no g3, Option.bind_some] at c1
              have g4 := (q_failN (f := 1) (p := σ3.1 3 2) g3).1
              generalize f_Rd_fail 1 (σ3.1 3 2) σ3 = σ9 at c1 g4
              dsimp only at c1
              rw [hx_num_no g4, Option.bind_some] at c1
              have g5 := (q_failN (f := 1) (p := σ9.1 3 2) g4).1
              dsimp only at c1
              rw [hx_failed1 g5.x.1, if_neg (show ¬ (1 : Int32) = 0 by decide)] at c1
              have g6 : f_Rd_fail 1 (σ9.1 3 2) σ9 = σ4 := congrArg Prod.snd (Option.some.inj c1)
              rw [g6] at g5
              exact g5.x.1 z1
          obtain ⟨-, m, l, l1, l2, l3, rfl, rfl⟩ := a6 ok2
          obtain ⟨σ', τ', s1, s2, s3, s4, s5, s6⟩ := q_persEnd (z := z) K4 T4 R4 c5 D4 (by omega) hc ho l1 l2 l3 hw (by rw [GX.i (by unfold hx_FD; omega), FA.i (by unfold hx_RD; omega)]; exact w1) (by rw [GM.i (by unfold hm_FD; omega)]; exact w2)
          exact ⟨σ', τ', s1, s2, FX4.tr s3, FM4.tr s4, by rw [s5, e29], s6⟩
        · rw [if_neg (show ¬ (1 : Int32) = 0 by decide), if_neg (show ¬ (1 : Int32) = 0 by decide)]
          exact bad
      · have n3 : ¬ nI (G 1 c) = 0 := by first | omega | (simp (disch := first | assumption | omega) only [↓hp_neg1, hp_l0, hp_l1, hp_l2, hp_l3, hp_l4, hp_l5, hp_l6, hp_l7, hp_l8, hp_l9, hp_l10, hp_l11, hp_l12, hp_l13, hp_l14, hp_l15, hp_l16, hp_l17, hp_l18, hp_l19, hp_l20, hp_l21, hp_l22, hp_l23, hp_l24, hp_l25, hp_l26, hp_l27, hp_l28, hp_l29, hp_l30, hp_l31, hp_l32, hp_l33, hp_l34, hp_l35, hp_l36, hp_l37, hp_l38, hp_l39, hp_l40, hp_l41, hp_l42, hp_l43, hp_l44, hp_l45, hp_l46, hp_l47, hp_l48, hp_l49, hp_l50, hp_l51, hp_l52, hp_l53, hp_l54, hp_l55, hp_l56, hp_l57, hp_l58, hp_l59, hp_l60, hp_l61, hp_l62, hp_l63, hp_l64, hp_l65, hp_l66, hp_l67, hp_l68, hp_l69, hp_l70, hp_l71, hp_l72, hp_l73, hp_l74, hp_l75, hp_l76, hp_l77, hp_l78, hp_l79, hp_l80, hp_l81, hp_l82, hp_l83, hp_l84, hp_l85, hp_l86, hp_l87, hp_l88, hp_l89, hp_l90, hp_l91, hp_l92, hp_l93, hp_l94, hp_l95, hp_l96, hp_l97, hp_l98, hp_l99, hp_l100, hp_l101, hp_l102, hp_l103, hp_l104, hp_l105, hp_l106, hp_l107, hp_l108, hp_l109, hp_l110, hp_l111, hp_l112, hp_l113, hp_l114, hp_l115, hp_l116, hp_l117, hp_l118, hp_l119, hp_l120, hp_l121, hp_l122, hp_l123, hp_l124, hp_l125, hp_l126, hp_l127, hp_l141, hp_l142, hp_l150, hp_l151, hp_l152, hp_l153, hp_l251, hp_l255, hp_l256, hp_l300, hp_l432, hp_l864, hp_l1000, hp_l1600, hp_l1700, hp_l2304, hp_l2916, hp_l3000, hp_l9999, hp_l10000, nI_add, pk_mul, nI_clamp, hl_lt, hl_le, hl_eq, hl_nIb, hl_nsub, hp_eqm, hp_meq, hp_ltm, hp_mlt, hp_lem, hp_mle, hp_addm, hp_meqm, hp_mlem, hp_withinE, hp_within0, if_pos, if_neg, Option.bind_some, hp_let, Sum.elim_inl, Sum.elim_inr, hp_s01, hp_s11, hp_s2, true_and, and_true, if_true, if_false, not_true_eq_false, not_false_eq_true, reduceCtorEq] <;> omega)
        rw [if_neg ho, if_pos rfl, if_neg n3]
        exact bad
    · obtain ⟨z1, z2⟩ := c5.x
      rw [hx_failed1 z1, if_neg (show ¬ (1 : Int32) = 0 by decide), if_neg z2]
      exact dead83 _ _ _ _ _ _ _ c5 FX4 FM4 e29
end PERS
