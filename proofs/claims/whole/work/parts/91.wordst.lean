/-! statements, both in step: a word -/
def hp_addW (G : hp_G) (m : Nat) (l L : Nat → Nat) : hp_G := fun i k => if i = 0 ∧ k = 3 then G 0 3 + 1 else if i = 6 ∧ k = G 0 3 then m else if i = 20 + G 0 3 then l k else if i = 30 + G 0 3 then L k else G i k
section WST
variable {G P : hp_G} {σ τ σ' τ' σ1 τ1 υ : hl_M} {n a s t k c j v z m m' w d u N p i : Nat} {b l l' st L : Nat → Nat} {x y v3 : Int64} {nm : Int32}
theorem hp_addW_f {i : Nat} (h : i ≠ 0 ∧ i ≠ 6 ∧ i ≠ 20 + G 0 3 ∧ i ≠ 30 + G 0 3) : hp_addW G m l L i = G i := by
  funext k
  unfold hp_addW
  rw [if_neg (by omega), if_neg (by omega), if_neg (by omega), if_neg (by omega)]
theorem hp_addW_0 (h : k ≠ 3) : hp_addW G m l L 0 k = G 0 k := by
  unfold hp_addW
  rw [if_neg (by omega), if_neg (by omega), if_neg (by omega), if_neg (by omega)]
theorem hp_addW_03 : hp_addW G m l L 0 3 = G 0 3 + 1 := if_pos ⟨rfl, rfl⟩
theorem hp_addW_6 : hp_addW G m l L 6 k = if k = G 0 3 then m else G 6 k := by
  unfold hp_addW
  by_cases e : k = G 0 3
  · rw [if_neg (by omega), if_pos ⟨rfl, e⟩, if_pos e]
  · rw [if_neg (by omega), if_neg (fun z => e z.2), if_neg (by omega), if_neg (by omega), if_neg e]
theorem hp_addW_l : hp_addW G m l L (20 + G 0 3) = l := by
  funext k
  unfold hp_addW
  rw [if_neg (by omega), if_neg (by omega), if_pos rfl]
theorem hp_addW_L : hp_addW G m l L (30 + G 0 3) = L := by
  funext k
  unfold hp_addW
  rw [if_neg (by omega), if_neg (by omega), if_neg (by omega), if_pos rfl]
theorem hp_addW_C : hp_C (hp_addW G m l L) = hp_C G := by
  unfold hp_C
  rw [hp_addW_0 (by omega), hp_addW_0 (by omega)]
theorem hp_addW_wg (H : hp_wg G) (h3 : 3 ≤ G 0 0) (h : G 0 3 < 8) (h1 : 1 ≤ m) (h6 : m ≤ 6) (hl : ∀ k, k < m → 1 ≤ l k ∧ l k ≤ 26) (hL : ∀ c, L c ≤ 2 ∧ (hp_C G ≤ c → L c = 0)) (c1 : 1 ≤ fb_ct (fun k => decide (0 < L k)) 54) (c8 : fb_ct (fun k => decide (0 < L k)) 54 ≤ 8) : hp_wg (hp_addW G m l L) := by
  obtain ⟨a1, a2, a3, a4, a5, a6, a7, a8⟩ := H
  unfold hp_wg
  rw [hp_addW_C, hp_addW_f (i := 1) (by omega), hp_addW_f (i := 2) (by omega), hp_addW_f (i := 3) (by omega), hp_addW_f (i := 4) (by omega), hp_addW_f (i := 5) (by omega), hp_addW_0 (k := 0) (by omega), hp_addW_0 (k := 1) (by omega), hp_addW_0 (k := 2) (by omega), hp_addW_0 (k := 4) (by omega), hp_addW_03]
  refine ⟨?_, ⟨a2.1, by omega, a2.2.2⟩, a3, a4, fun h hh => ⟨by have := (a5 h hh).1; omega, (a5 h hh).2⟩, fun p hp => ?_, fun w hw => ?_, fun w hw => ?_⟩
  · rcases a1 with ⟨z, _⟩ | z
    · omega
    · exact .inr z
  · rw [hp_addW_f (by omega)]; exact a6 p hp
  · rw [hp_addW_6]
    by_cases e : w = G 0 3
    · rw [if_pos e, e, hp_addW_l]; exact ⟨h1, h6, hl⟩
    · rw [if_neg e, hp_addW_f (by omega)]; exact a7 w (by omega)
  · by_cases e : w = G 0 3
    · rw [e, hp_addW_L]; exact ⟨hL, c1, c8⟩
    · rw [hp_addW_f (by omega)]; exact a8 w (by omega)
theorem hx_cell_no (H : q_no σ τ) : ∃ x σ', f_Tl_wantCell σ = some (x, σ') ∧ hp_fr hx_FD σ σ' ∧ q_no σ' τ := by
  obtain ⟨r1, r2⟩ := q_failN (f := 1) (p := σ.1 3 2) H
  unfold f_Tl_wantCell
  rw [hx_num_no H, Option.bind_some]
  generalize f_Rd_fail 1 (σ.1 3 2) σ = σ1 at r1 r2 ⊢
  obtain ⟨s1, s2⟩ := q_failN (f := 1) (p := σ1.1 3 2) r1
  dsimp only
  rw [hx_num_no r1, Option.bind_some]
  dsimp only
  rw [hx_failed1 s1.x.1, if_neg (show ¬ (1 : Int32) = 0 by decide)]
  exact ⟨_, _, rfl, r2.tr s2, s1⟩
theorem hx_j54_no (H : q_no σ τ) : ∃ σ', f_Tl_tellWord_j54 nm x y (nI i) σ = some (.inl (x, y, nI (i + 1), σ')) ∧ hp_fr hx_FD σ σ' ∧ q_no σ' τ := by
  obtain ⟨r1, r2⟩ := q_failN (f := 1) (p := σ.1 3 2) H
  unfold f_Tl_tellWord_j54
  rw [hx_word_no H, Option.bind_some]
  generalize f_Rd_fail 1 (σ.1 3 2) σ = σ1 at r1 r2 ⊢
  obtain ⟨xc, σ2, s1, s2, s3⟩ := hx_cell_no r1
  rw [s1, Option.bind_some]
  dsimp only
  rw [hx_failed1 s3.x.1, if_neg (show ¬ (1 : Int32) = 0 by decide)]
  unfold f_Tl_tellWord_j105
  obtain ⟨t1, t2⟩ := q_failN (f := 1) (p := σ2.1 3 2) s3
  rw [hx_word_no s3, Option.bind_some]
  generalize f_Rd_fail 1 (σ2.1 3 2) σ2 = σ3 at t1 t2 ⊢
  obtain ⟨u1, u2⟩ := q_failN (f := 1) (p := σ3.1 3 2) t1
  rw [hx_num_no t1, Option.bind_some]
  dsimp only
  rw [if_neg (show ¬ (-1 : Int32) = 1 by decide), if_neg (show ¬ (-1 : Int32) = 2 by decide), nI_1]
  exact ⟨_, rfl, ((r2.tr s2).tr t2).tr u2, u1⟩
theorem hm_lit_no (h : ¬ τ.1 64 5 = 0) (x : Int32) : f_M_litTold x τ = some τ := by
  unfold f_M_litTold f_M_litTold_j43
  rw [hm_asks_no h, Option.bind_some, hm_cell_no h, Option.bind_some, if_neg h, hm_asks_no h, Option.bind_some, hm_num_no h, Option.bind_some, if_neg h]
theorem hm_clearW (hw : w < 8) (y : Int64) : ∃ τ', hl_lp (f_M_wordTold_L27 (nI w) y) hl_big (0, τ) = some τ' ∧ hp_fr (fun q f => q = 79 ∧ 54 * w ≤ f ∧ f < 54 * w + 54) τ τ' ∧ ∀ c, c < 54 → τ'.1 79 (54 * w + c) = 0 := by
  refine hp_inv (b := f_M_wordTold_L27 (nI w) y) (s := (0, τ)) 54 (fun j s => s.1 = nI j ∧ hp_fr (fun q f => q = 79 ∧ 54 * w ≤ f ∧ f < 54 * w + 54) τ s.2 ∧ ∀ c, c < j → s.2.1 79 (54 * w + c) = 0) (fun τ' => hp_fr (fun q f => q = 79 ∧ 54 * w ≤ f ∧ f < 54 * w + 54) τ τ' ∧ ∀ c, c < 54 → τ'.1 79 (54 * w + c) = 0) (by omega) ⟨rfl, .rf, fun c hc => by omega⟩ ?_ ?_
  · rintro j ⟨q, υ⟩ hj ⟨a1, a2, a3⟩
    dsimp only at a1 a2 a3
    subst a1
    have n1 : ¬ (54 : Int32) ≤ nI j := by first | omega | (simp (disch := first | assumption | omega) only [↓hp_neg1, hp_l0, hp_l1, hp_l2, hp_l3, hp_l4, hp_l5, hp_l6, hp_l7, hp_l8, hp_l9, hp_l10, hp_l11, hp_l12, hp_l13, hp_l14, hp_l15, hp_l16, hp_l17, hp_l18, hp_l19, hp_l20, hp_l21, hp_l22, hp_l23, hp_l24, hp_l25, hp_l26, hp_l27, hp_l28, hp_l29, hp_l30, hp_l31, hp_l32, hp_l33, hp_l34, hp_l35, hp_l36, hp_l37, hp_l38, hp_l39, hp_l40, hp_l41, hp_l42, hp_l43, hp_l44, hp_l45, hp_l46, hp_l47, hp_l48, hp_l49, hp_l50, hp_l51, hp_l52, hp_l53, hp_l54, hp_l55, hp_l56, hp_l57, hp_l58, hp_l59, hp_l60, hp_l61, hp_l62, hp_l63, hp_l64, hp_l65, hp_l66, hp_l67, hp_l68, hp_l69, hp_l70, hp_l71, hp_l72, hp_l73, hp_l74, hp_l75, hp_l76, hp_l77, hp_l78, hp_l79, hp_l80, hp_l81, hp_l82, hp_l83, hp_l84, hp_l85, hp_l86, hp_l87, hp_l88, hp_l89, hp_l90, hp_l91, hp_l92, hp_l93, hp_l94, hp_l95, hp_l96, hp_l97, hp_l98, hp_l99, hp_l100, hp_l101, hp_l102, hp_l103, hp_l104, hp_l105, hp_l106, hp_l107, hp_l108, hp_l109, hp_l110, hp_l111, hp_l112, hp_l113, hp_l114, hp_l115, hp_l116, hp_l117, hp_l118, hp_l119, hp_l120, hp_l121, hp_l122, hp_l123, hp_l124, hp_l125, hp_l126, hp_l127, hp_l141, hp_l142, hp_l150, hp_l151, hp_l152, hp_l153, hp_l251, hp_l255, hp_l256, hp_l300, hp_l432, hp_l864, hp_l1000, hp_l1600, hp_l1700, hp_l2304, hp_l2916, hp_l3000, hp_l9999, hp_l10000, nI_add, pk_mul, nI_clamp, hl_lt, hl_le, hl_eq, hl_nIb, hl_nsub, hp_eqm, hp_meq, hp_ltm, hp_mlt, hp_lem, hp_mle, hp_addm, hp_meqm, hp_mlem, hp_withinE, hp_within0, if_pos, if_neg, Option.bind_some, hp_let, Sum.elim_inl, Sum.elim_inr, hp_s01, hp_s11, hp_s2, true_and, and_true, if_true, if_false, not_true_eq_false, not_false_eq_true, reduceCtorEq] <;> omega)
    have e54 : (54 * nI w + nI j : Int32) = nI (54 * w + j) := by rw [show (54 : Int32) = nI 54 from rfl, pk_mul, nI_add]
    have nb : hl_b (nI (54 * w + j)) 864 := by first | omega | (simp (disch := first | assumption | omega) only [↓hp_neg1, hp_l0, hp_l1, hp_l2, hp_l3, hp_l4, hp_l5, hp_l6, hp_l7, hp_l8, hp_l9, hp_l10, hp_l11, hp_l12, hp_l13, hp_l14, hp_l15, hp_l16, hp_l17, hp_l18, hp_l19, hp_l20, hp_l21, hp_l22, hp_l23, hp_l24, hp_l25, hp_l26, hp_l27, hp_l28, hp_l29, hp_l30, hp_l31, hp_l32, hp_l33, hp_l34, hp_l35, hp_l36, hp_l37, hp_l38, hp_l39, hp_l40, hp_l41, hp_l42, hp_l43, hp_l44, hp_l45, hp_l46, hp_l47, hp_l48, hp_l49, hp_l50, hp_l51, hp_l52, hp_l53, hp_l54, hp_l55, hp_l56, hp_l57, hp_l58, hp_l59, hp_l60, hp_l61, hp_l62, hp_l63, hp_l64, hp_l65, hp_l66, hp_l67, hp_l68, hp_l69, hp_l70, hp_l71, hp_l72, hp_l73, hp_l74, hp_l75, hp_l76, hp_l77, hp_l78, hp_l79, hp_l80, hp_l81, hp_l82, hp_l83, hp_l84, hp_l85, hp_l86, hp_l87, hp_l88, hp_l89, hp_l90, hp_l91, hp_l92, hp_l93, hp_l94, hp_l95, hp_l96, hp_l97, hp_l98, hp_l99, hp_l100, hp_l101, hp_l102, hp_l103, hp_l104, hp_l105, hp_l106, hp_l107, hp_l108, hp_l109, hp_l110, hp_l111, hp_l112, hp_l113, hp_l114, hp_l115, hp_l116, hp_l117, hp_l118, hp_l119, hp_l120, hp_l121, hp_l122, hp_l123, hp_l124, hp_l125, hp_l126, hp_l127, hp_l141, hp_l142, hp_l150, hp_l151, hp_l152, hp_l153, hp_l251, hp_l255, hp_l256, hp_l300, hp_l432, hp_l864, hp_l1000, hp_l1600, hp_l1700, hp_l2304, hp_l2916, hp_l3000, hp_l9999, hp_l10000, nI_add, pk_mul, nI_clamp, hl_lt, hl_le, hl_eq, hl_nIb, hl_nsub, hp_eqm, hp_meq, hp_ltm, hp_mlt, hp_lem, hp_mle, hp_addm, hp_meqm, hp_mlem, hp_withinE, hp_within0, if_pos, if_neg, Option.bind_some, hp_let, Sum.elim_inl, Sum.elim_inr, hp_s01, hp_s11, hp_s2, true_and, and_true, if_true, if_false, not_true_eq_false, not_false_eq_true, reduceCtorEq] <;> omega)
    left
    unfold f_M_wordTold_L27
    dsimp only
    rw [if_neg n1, e54, if_pos nb, nI_clamp (by omega), nI_1]
    refine ⟨_, rfl, rfl, a2.si ⟨rfl, by omega, by omega⟩, fun c hc => ?_⟩
    dsimp only
    by_cases e : c = j
    · rw [e, hp_s01]
    · rw [hp_sn (by omega)]; exact a3 c (by omega)
  · rintro ⟨q, υ⟩ ⟨a1, a2, a3⟩
    dsimp only at a1 a2 a3
    subst a1
    unfold f_M_wordTold_L27
    dsimp only
    rw [if_pos (by decide)]
    exact ⟨_, rfl, a2, a3⟩
theorem q_wordS (A : f_Rd_advance σ = some σ1) (FA : hp_fr hx_RD σ σ1) (h4 : σ.1 3 4 = 0) (KK : hm_k τ1) (T : hx_t n b σ1) (R : hm_r n b τ1) (H : q_ok n b σ1 τ1) (D : q_D G P σ1 τ1) (hw : z ≤ 20) (w1 : σ.1 24 2 = nI z) (w2 : τ1.1 64 22 = nI z) : ∃ σ' τ', f_Tl_tellWord σ = some σ' ∧ (f_M_wordTold (σ.1 3 2) τ1).bind f_M_statementTold_j98 = some τ' ∧ hp_fr hx_TD σ σ' ∧ hp_fr hm_TD τ1 τ' ∧ τ'.1 64 29 = τ1.1 64 29 + 1 ∧ q_T n b σ' τ' := by
  have h5 := H.x.2
  have hnw := D.1.nw
  have x8 : σ.1 14 8 = nI (G 0 3) := by
    rw [← FA.i (show ¬ hx_RD 14 8 by unfold hx_RD; omega)]
    exact D.2.2.2.1.1.2.2.2.1
  have m1 : τ1.1 75 1 = nI (G 0 3) := D.2.2.2.2.2.1.1.2.2.2.1
  have dead : ∀ σa τa, q_no σa τa → hp_fr hx_TD σ σa → hp_fr hm_TD τ1 τa → τa.1 64 29 = τ1.1 64 29 → ∃ σ' τ', some σa = some σ' ∧ (some τa).bind f_M_statementTold_j98 = some τ' ∧ hp_fr hx_TD σ σ' ∧ hp_fr hm_TD τ1 τ' ∧ τ'.1 64 29 = τ1.1 64 29 + 1 ∧ q_T n b σ' τ' := by
    intro σa τa g1 g2 g3 g4
    unfold f_M_statementTold_j98
    rw [Option.bind_some, hm_sign_no g1.x.2, Option.bind_some]
    exact ⟨_, _, rfl, rfl, g2, g3.si (.inr (.inl ⟨rfl, by omega⟩)), by rw [hp_s01, g4], .inr (g1.fr (fun f hf => rfl) (fun f hf => hp_sn (by omega)))⟩
  unfold f_Tl_tellWord f_Tl_startsOneOf f_M_wordTold f_M_isFull f_M_isFull_j23
  have h61 : hl_b (1 : Int32) 6 := by decide
  rw [x8, if_pos h5, if_pos h61, show (1 : Int32).toNatClampNeg = 1 from rfl, m1]
  by_cases e : G 0 3 = 8
  · obtain ⟨r1, r2, r3⟩ := q_fail0 (σ := σ) (τ := τ1) (f := 5) (p := σ.1 3 2) h4 h5 (by decide)
    have n1 : ¬ nI (G 0 3) < 8 := by rw [e]; decide
    rw [if_neg n1, Option.bind_some, if_pos rfl, if_pos (show nI (G 0 3) = 8 by rw [e]; rfl), if_neg r1.x.2, Option.bind_some, if_neg (show ¬ (1 : Int32) = 0 by decide)]
    exact dead _ _ r1 (r2.mono hx_FD_TD) (r3.mono hm_FD_TD) (r3.i (by unfold hm_FD; omega))
  · have n1 : nI (G 0 3) < 8 := nI_lt (show G 0 3 < 8 by omega) (by decide)
    have n2 : ¬ nI (G 0 3) = 8 := by first | omega | (simp (disch := first | assumption | omega) only [↓hp_neg1, hp_l0, hp_l1, hp_l2, hp_l3, hp_l4, hp_l5, hp_l6, hp_l7, hp_l8, hp_l9, hp_l10, hp_l11, hp_l12, hp_l13, hp_l14, hp_l15, hp_l16, hp_l17, hp_l18, hp_l19, hp_l20, hp_l21, hp_l22, hp_l23, hp_l24, hp_l25, hp_l26, hp_l27, hp_l28, hp_l29, hp_l30, hp_l31, hp_l32, hp_l33, hp_l34, hp_l35, hp_l36, hp_l37, hp_l38, hp_l39, hp_l40, hp_l41, hp_l42, hp_l43, hp_l44, hp_l45, hp_l46, hp_l47, hp_l48, hp_l49, hp_l50, hp_l51, hp_l52, hp_l53, hp_l54, hp_l55, hp_l56, hp_l57, hp_l58, hp_l59, hp_l60, hp_l61, hp_l62, hp_l63, hp_l64, hp_l65, hp_l66, hp_l67, hp_l68, hp_l69, hp_l70, hp_l71, hp_l72, hp_l73, hp_l74, hp_l75, hp_l76, hp_l77, hp_l78, hp_l79, hp_l80, hp_l81, hp_l82, hp_l83, hp_l84, hp_l85, hp_l86, hp_l87, hp_l88, hp_l89, hp_l90, hp_l91, hp_l92, hp_l93, hp_l94, hp_l95, hp_l96, hp_l97, hp_l98, hp_l99, hp_l100, hp_l101, hp_l102, hp_l103, hp_l104, hp_l105, hp_l106, hp_l107, hp_l108, hp_l109, hp_l110, hp_l111, hp_l112, hp_l113, hp_l114, hp_l115, hp_l116, hp_l117, hp_l118, hp_l119, hp_l120, hp_l121, hp_l122, hp_l123, hp_l124, hp_l125, hp_l126, hp_l127, hp_l141, hp_l142, hp_l150, hp_l151, hp_l152, hp_l153, hp_l251, hp_l255, hp_l256, hp_l300, hp_l432, hp_l864, hp_l1000, hp_l1600, hp_l1700, hp_l2304, hp_l2916, hp_l3000, hp_l9999, hp_l10000, nI_add, pk_mul, nI_clamp, hl_lt, hl_le, hl_eq, hl_nIb, hl_nsub, hp_eqm, hp_meq, hp_ltm, hp_mlt, hp_lem, hp_mle, hp_addm, hp_meqm, hp_mlem, hp_withinE, hp_within0, if_pos, if_neg, Option.bind_some, hp_let, Sum.elim_inl, Sum.elim_inr, hp_s01, hp_s11, hp_s2, true_and, and_true, if_true, if_false, not_true_eq_false, not_false_eq_true, reduceCtorEq] <;> omega)
    rw [if_pos n1, A, Option.bind_some, Option.bind_some, if_neg (show ¬ (1 : Int32) = 0 by decide), if_neg n2, if_pos h5, Option.bind_some, if_pos rfl, if_pos h61, m1]
    obtain ⟨x, y, σ2, τ2, a1, a2, a3, a4, a5, a6⟩ := q_newName (G := G) (P := P) KK T R (.inl H) (fun _ => D)
    have T2 : hx_t n b σ2 := T.fr a3 (by unfold hx_FD; omega) (fun k => by unfold hx_FD; omega)
    have R2 : hm_r n b τ2 := R.fr a4 (by unfold hm_FD; omega) (fun k => by unfold hm_FD; omega)
    have K2 : hm_k τ2 := KK.fr a4 (fun q f h => by have := h.1; omega)
    have D2 := D.fr0 a3 a4
    obtain ⟨τ3, k1, k2, k3⟩ := hm_clearW (τ := τ2) (w := G 0 3) (by omega) y
    have M3 : hp_fr (hm_FW (G 0 3)) τ1 τ3 := (a4.mono (fun q f h => .inl h)).tr (k2.mono (fun q f h => .inr h))
    have toTD : ∀ q f, hm_FW (G 0 3) q f → hm_TD q f := fun q f h => by unfold hm_TD; rcases h with h | h; exact .inl h; exact .inr (.inr (.inr (.inr (.inr (.inr (.inl (by omega)))))))
    have toDD : ∀ q f, hm_FW (G 0 3) q f → hm_DD G q f := fun q f h => by unfold hm_DD; rcases h with h | h; exact .inl h; exact .inr (.inr (.inl (by omega)))
    have FX2 : hp_fr hx_TD σ σ2 := (FA.mono hx_RD_TD).tr (a3.mono hx_FD_TD)
    rw [a1, a2, Option.bind_some, Option.bind_some]
    dsimp only
    rw [k1, Option.bind_some]
    have e29 : ∀ τa, hp_fr (hm_FW (G 0 3)) τ1 τa → τa.1 64 29 = τ1.1 64 29 := fun τa F => F.i (by unfold hm_FW hm_FD; omega)
    rcases a5 with a5 | a5
    · obtain ⟨z1, z2⟩ := a5.x
      obtain ⟨-, m, l, l1, l2, l3, rfl, rfl⟩ := a6 z1
      have D3 : q_D G P σ2 τ3 := D2.fr .rf (k2.mono (fun q f h => toDD q f (.inr h)))
      have K3 : hm_k τ3 := K2.fr k2 (fun q f h => by have := h.1; omega)
      have R3 : hm_r n b τ3 := R2.fr k2 (by omega) (fun k => by omega)
      have H3 : q_ok n b σ2 τ3 := a5.fr (fun f hf => rfl) (fun f hf => k2.i (by omega))
      have Q3 : q_L G (G 0 3) (fun _ => 0) 0 0 τ3 := ⟨hp_bs.zero.cong (fun k hk => rfl), hp_bs.zero.cong (fun k hk => rfl), fun c => ⟨Nat.zero_le _, fun _ => rfl⟩, fun c hc => k3 c hc⟩
      obtain ⟨x', y', σ3, τ4, g1, g2, g3, g4, g5⟩ := q_litT (nm := nI (hp_nw l m)) (i := 0) K3 T2 R3 H3 D3 (show G 0 3 < 8 by omega) (by omega) Q3
      have bdX : f_Tl_tellWord_L30 (nI (hp_nw l m)) (0, 0, 0, σ2) = some (.inl (x', y', nI 1, σ3)) := by
        unfold f_Tl_tellWord_L30
        dsimp only
        rw [if_neg (by decide), if_pos rfl]
        exact g1
      have LX : hl_lp (f_Tl_tellWord_L30 (nI (hp_nw l m))) hl_big (0, 0, 0, σ2) = hl_lp (f_Tl_tellWord_L30 (nI (hp_nw l m))) 999999 (x', y', nI 1, σ3) := hl_lp_s (n := 999999) bdX
      have LM : hl_lp (f_M_wordTold_L56 (nI (G 0 3)) (lN (hp_n27 l m))) hl_big (0, τ3) = if τ4.1 64 5 = 0 then hm_mk (nI (G 0 3)) (lN (hp_n27 l m)) 999999 1 τ4 else some τ4 := hm_L56 (i := 0) (by omega) 999999 g2
      have main : ∃ xx yy σ5 τ5, hl_lp (f_Tl_tellWord_L30 (nI (hp_nw l m))) hl_big (0, 0, 0, σ2) = some (xx, yy, σ5) ∧ hl_lp (f_M_wordTold_L56 (nI (G 0 3)) (lN (hp_n27 l m))) hl_big (0, τ3) = some τ5 ∧ hp_fr hx_FD σ2 σ5 ∧ hp_fr (hm_FW (G 0 3)) τ3 τ5 ∧ q_F n b G (G 0 3) xx yy σ5 τ5 := by
        rw [LX, LM]
        rcases g5 with ⟨g5, c, u, hc, h0, hu, Q4⟩ | g5
        · rw [if_pos g5.x.2]
          have hC := D.1.C
          have ct2 := hp_Lu (c := c) (f := fun _ => 0) hu h0
          have ct0 : fb_ct (fun k => decide (0 < (fun _ : Nat => 0) k)) 54 = 0 := fb_ct_zero.mpr (fun k hk => rfl)
          rw [if_pos (show c < 54 by omega), ct0, Nat.zero_add] at ct2
          obtain ⟨x'', y'', σ'', τ'', s1, s2, s3, s4, s5⟩ := q_litLoop (n := n) (b := b) (G := G) (P := P) (nm := nI (hp_nw l m)) (v3 := lN (hp_n27 l m)) (show G 0 3 < 8 by omega) 7 1 rfl (by omega) 999999 999999 (by omega) (by omega) x' y' σ3 τ4 _ (K3.fr g4 (fun q f h => by unfold hm_FW hm_FD at h; omega)) (T2.fr g3 (by unfold hx_FD; omega) (fun k => by unfold hx_FD; omega)) (R3.fr g4 (by unfold hm_FW hm_FD; omega) (fun k => by unfold hm_FW hm_FD; omega)) g5 (D3.fr (g3.mono hx_FD_DD) (g4.mono toDD)) rfl Q4 ct2
          exact ⟨x'', y'', σ'', τ'', s1, s2, g3.tr s3, g4.tr s4, s5⟩
        · rw [if_neg g5.x.2, hl_lp_e (n := 999998) (hx_L30_no (i := 1) (by omega) (by omega) g5)]
          exact ⟨_, _, _, _, rfl, rfl, g3, g4, .inr (.inl g5)⟩
      obtain ⟨xx, yy, σ5, τ5, p1, p2, p3, p4, p5⟩ := main
      have GX5 : hp_fr hx_FD σ1 σ5 := a3.tr p3
      have FX5 : hp_fr hx_TD σ σ5 := FX2.tr (p3.mono hx_FD_TD)
      have M5 : hp_fr (hm_FW (G 0 3)) τ1 τ5 := M3.tr p4
      have T5 : hx_t n b σ5 := T2.fr p3 (by unfold hx_FD; omega) (fun k => by unfold hx_FD; omega)
      have R5 : hm_r n b τ5 := R3.fr p4 (by unfold hm_FW hm_FD; omega) (fun k => by unfold hm_FW hm_FD; omega)
      rw [p1, p2, Option.bind_some, Option.bind_some]
      dsimp only
      rcases p5 with ⟨L, p5, Q5, ct1, ct8⟩ | p5 | ⟨σ6, p6, p7, p5⟩
      · obtain ⟨z3, z4⟩ := p5.x
        have q1 : τ5.1 75 1 = nI (G 0 3) := by
          rw [M5.i (by unfold hm_FW hm_FD; omega)]
          exact m1
        have bb1 : hl_b (nI (10 + G 0 3)) 40 := by first | omega | (simp (disch := first | assumption | omega) only [↓hp_neg1, hp_l0, hp_l1, hp_l2, hp_l3, hp_l4, hp_l5, hp_l6, hp_l7, hp_l8, hp_l9, hp_l10, hp_l11, hp_l12, hp_l13, hp_l14, hp_l15, hp_l16, hp_l17, hp_l18, hp_l19, hp_l20, hp_l21, hp_l22, hp_l23, hp_l24, hp_l25, hp_l26, hp_l27, hp_l28, hp_l29, hp_l30, hp_l31, hp_l32, hp_l33, hp_l34, hp_l35, hp_l36, hp_l37, hp_l38, hp_l39, hp_l40, hp_l41, hp_l42, hp_l43, hp_l44, hp_l45, hp_l46, hp_l47, hp_l48, hp_l49, hp_l50, hp_l51, hp_l52, hp_l53, hp_l54, hp_l55, hp_l56, hp_l57, hp_l58, hp_l59, hp_l60, hp_l61, hp_l62, hp_l63, hp_l64, hp_l65, hp_l66, hp_l67, hp_l68, hp_l69, hp_l70, hp_l71, hp_l72, hp_l73, hp_l74, hp_l75, hp_l76, hp_l77, hp_l78, hp_l79, hp_l80, hp_l81, hp_l82, hp_l83, hp_l84, hp_l85, hp_l86, hp_l87, hp_l88, hp_l89, hp_l90, hp_l91, hp_l92, hp_l93, hp_l94, hp_l95, hp_l96, hp_l97, hp_l98, hp_l99, hp_l100, hp_l101, hp_l102, hp_l103, hp_l104, hp_l105, hp_l106, hp_l107, hp_l108, hp_l109, hp_l110, hp_l111, hp_l112, hp_l113, hp_l114, hp_l115, hp_l116, hp_l117, hp_l118, hp_l119, hp_l120, hp_l121, hp_l122, hp_l123, hp_l124, hp_l125, hp_l126, hp_l127, hp_l141, hp_l142, hp_l150, hp_l151, hp_l152, hp_l153, hp_l251, hp_l255, hp_l256, hp_l300, hp_l432, hp_l864, hp_l1000, hp_l1600, hp_l1700, hp_l2304, hp_l2916, hp_l3000, hp_l9999, hp_l10000, nI_add, pk_mul, nI_clamp, hl_lt, hl_le, hl_eq, hl_nIb, hl_nsub, hp_eqm, hp_meq, hp_ltm, hp_mlt, hp_lem, hp_mle, hp_addm, hp_meqm, hp_mlem, hp_withinE, hp_within0, if_pos, if_neg, Option.bind_some, hp_let, Sum.elim_inl, Sum.elim_inr, hp_s01, hp_s11, hp_s2, true_and, and_true, if_true, if_false, not_true_eq_false, not_false_eq_true, reduceCtorEq] <;> omega)
        rw [if_pos z4, show (10 : Int32) = nI 10 from rfl, nI_add, if_pos bb1, if_pos h61, if_pos h61, nI_clamp (by omega), hp_s1, q1, nI_1, Option.bind_some]
        have H6 : q_ok n b σ5 (hl_si (hl_sl τ5 77 (10 + G 0 3) (lN (hp_n27 l m))) 75 1 (nI (G 0 3 + 1))) := p5.fr (fun f hf => rfl) (fun f hf => by rw [hp_sn (by omega), hp_s1])
        have R6' : hm_r n b (hl_sl τ5 77 (10 + G 0 3) (lN (hp_n27 l m))) := R5
        have R6 : hm_r n b (hl_si (hl_sl τ5 77 (10 + G 0 3) (lN (hp_n27 l m))) 75 1 (nI (G 0 3 + 1))) := R6'.si (by omega)
        obtain ⟨σ7, τ7, s1, s2, s3, s4, s5, s6⟩ := q_j98 T5 R6 (.inl H6)
        have FM7 : hp_fr hm_TD τ1 τ7 := (((M5.mono toTD).sl (.inr (.inr (.inr (.inr (.inl ⟨rfl, by omega⟩)))))).si (.inr (.inr (.inl ⟨rfl, by omega⟩)))).tr (s4.mono hm_D29)
        have e7 : τ7.1 64 29 = τ1.1 64 29 + 1 := by rw [s6, hp_sn (by omega), hp_s1, e29 τ5 M5]
        rw [s1, s2, Option.bind_some]
        rcases s5 with s5 | s5
        · obtain ⟨z5, z6⟩ := s5.x
          have D5 : q_D G P σ7 τ5 := D.fr ((GX5.tr s3).mono hx_FD_DD) (M5.mono toDD)
          have q8 : σ7.1 14 8 = nI (G 0 3) := D5.2.2.2.1.1.2.2.2.1
          have bb4 : hl_b (nI (G 0 3)) 8 := by first | omega | (simp (disch := first | assumption | omega) only [↓hp_neg1, hp_l0, hp_l1, hp_l2, hp_l3, hp_l4, hp_l5, hp_l6, hp_l7, hp_l8, hp_l9, hp_l10, hp_l11, hp_l12, hp_l13, hp_l14, hp_l15, hp_l16, hp_l17, hp_l18, hp_l19, hp_l20, hp_l21, hp_l22, hp_l23, hp_l24, hp_l25, hp_l26, hp_l27, hp_l28, hp_l29, hp_l30, hp_l31, hp_l32, hp_l33, hp_l34, hp_l35, hp_l36, hp_l37, hp_l38, hp_l39, hp_l40, hp_l41, hp_l42, hp_l43, hp_l44, hp_l45, hp_l46, hp_l47, hp_l48, hp_l49, hp_l50, hp_l51, hp_l52, hp_l53, hp_l54, hp_l55, hp_l56, hp_l57, hp_l58, hp_l59, hp_l60, hp_l61, hp_l62, hp_l63, hp_l64, hp_l65, hp_l66, hp_l67, hp_l68, hp_l69, hp_l70, hp_l71, hp_l72, hp_l73, hp_l74, hp_l75, hp_l76, hp_l77, hp_l78, hp_l79, hp_l80, hp_l81, hp_l82, hp_l83, hp_l84, hp_l85, hp_l86, hp_l87, hp_l88, hp_l89, hp_l90, hp_l91, hp_l92, hp_l93, hp_l94, hp_l95, hp_l96, hp_l97, hp_l98, hp_l99, hp_l100, hp_l101, hp_l102, hp_l103, hp_l104, hp_l105, hp_l106, hp_l107, hp_l108, hp_l109, hp_l110, hp_l111, hp_l112, hp_l113, hp_l114, hp_l115, hp_l116, hp_l117, hp_l118, hp_l119, hp_l120, hp_l121, hp_l122, hp_l123, hp_l124, hp_l125, hp_l126, hp_l127, hp_l141, hp_l142, hp_l150, hp_l151, hp_l152, hp_l153, hp_l251, hp_l255, hp_l256, hp_l300, hp_l432, hp_l864, hp_l1000, hp_l1600, hp_l1700, hp_l2304, hp_l2916, hp_l3000, hp_l9999, hp_l10000, nI_add, pk_mul, nI_clamp, hl_lt, hl_le, hl_eq, hl_nIb, hl_nsub, hp_eqm, hp_meq, hp_ltm, hp_mlt, hp_lem, hp_mle, hp_addm, hp_meqm, hp_mlem, hp_withinE, hp_within0, if_pos, if_neg, Option.bind_some, hp_let, Sum.elim_inl, Sum.elim_inr, hp_s01, hp_s11, hp_s2, true_and, and_true, if_true, if_false, not_true_eq_false, not_false_eq_true, reduceCtorEq] <;> omega)
          rw [hx_failed0 z5, if_pos rfl, q8, show (8 : Int32) = nI 8 from rfl, hp_withinT (show G 0 3 < 8 by omega) (by decide), if_neg (show ¬ (1 : Int32) = 0 by decide), if_pos bb4, nI_clamp (by omega), hp_sn (by omega), q8, if_pos bb4, nI_clamp (by omega), hp_s1, hp_sn (by omega), q8, if_pos bb4, nI_clamp (by omega), hp_let, hp_s1, hp_s1, hp_sn (by omega), q8, nI_1]
          refine ⟨_, _, rfl, rfl, (((((FX5.tr (s3.mono hx_FD_TD)).si (.inr ⟨by omega, by omega⟩)).sl (.inr ⟨by omega, by omega⟩)).sl (.inr ⟨by omega, by omega⟩)).si (.inr ⟨by omega, by omega⟩)), FM7, e7, .inl ⟨s5.fr (fun f hf => by rw [hp_sn (by omega), hp_s1, hp_s1, hp_sn (by omega)]) (fun f hf => rfl), hp_addW G m l L, P, z, ?_, hw, ?_, ?_⟩⟩
          · obtain ⟨wg, wp, w3, ⟨⟨x1, x2, x3, x4, x5⟩, x6, x7, x8, x9⟩, xp, ⟨⟨y1, y2, y3, y4, y5⟩, y6, y7, y8, y9⟩, mp⟩ := D5
            obtain ⟨t1, t2, t3, t4⟩ := Q5
            have hnp := wg.np
            have rd : ∀ q f, ¬ (q = 64 ∧ f < 20) → ¬ (q = 64 ∧ f = 29) → ¬ (q = 75 ∧ f = 1) → τ7.1 q f = τ5.1 q f := fun q f u1 u2 u3 => by
              rw [s4.i (by unfold hm_FD; omega), hp_sn (by omega), hp_s1]
            have rdl : ∀ f, f ≠ 10 + G 0 3 → τ7.2 77 f = τ5.2 77 f := fun f u => by
              rw [s4.l (by unfold hm_FD; omega), hp_s2, hp_sln (by omega)]
            refine ⟨hp_addW_wg wg w3 (by omega) l1 l2 l3 t3 ct1 ct8, ?_, ?_, ⟨⟨?_, ?_, ?_, ?_, ?_⟩, ?_, ?_, ?_, ?_⟩, ?_, ⟨⟨?_, ?_, ?_, ?_, ?_⟩, ?_, ?_, ?_, ?_⟩, ?_⟩
            · unfold hp_wp
              rw [hp_addW_0 (by omega)]
              exact wp
            · rw [hp_addW_0 (by omega)]; exact w3
            · rw [hp_addW_0 (by omega), hp_sn (by omega), hp_s1, hp_s1, hp_sn (by omega)]; exact x1
            · rw [hp_addW_0 (by omega), hp_sn (by omega), hp_s1, hp_s1, hp_sn (by omega)]; exact x2
            · rw [hp_addW_0 (by omega), hp_sn (by omega), hp_s1, hp_s1, hp_sn (by omega)]; exact x3
            · rw [hp_addW_03, hp_s01]
            · rw [hp_addW_0 (by omega), hp_sn (by omega), hp_s1, hp_s1, hp_sn (by omega)]; exact x5
            · rw [hp_addW_f (by omega), hp_s2, hp_sln (by omega), hp_sln (by omega)]; exact x6
            · rw [hp_addW_0 (by omega)]
              intro p hp
              rw [hp_addW_f (by omega), hp_addW_f (by omega), hp_addW_f (by omega), hp_sn (by omega), hp_s1, hp_s1, hp_sn (by omega), hp_sn (by omega), hp_s1, hp_s1, hp_sn (by omega)]
              exact x7 p hp
            · rw [hp_addW_03]
              intro p hp
              rw [hp_addW_6]
              by_cases e : p = G 0 3
              · rw [if_pos e, e, hp_addW_l, hp_addW_L, hp_sn (by omega), hp_s1, hp_s1, hp_s01, hp_s2, hp_sln (by omega), hp_s11, hp_s11]
                exact ⟨rfl, t1, t2⟩
              · rw [if_neg e, hp_addW_f (by omega), hp_addW_f (by omega), hp_sn (by omega), hp_s1, hp_s1, hp_sn (by omega), hp_s2, hp_sln (by omega), hp_sln (by omega), hp_s2, hp_sln (by omega), hp_sln (by omega)]
                exact x8 p (by omega)
            · rw [hp_addW_0 (by omega)]
              intro p hp
              rw [hp_addW_f (by omega), hp_addW_f (by omega), hp_sn (by omega), hp_s1, hp_s1, hp_sn (by omega), hp_sn (by omega), hp_s1, hp_s1, hp_sn (by omega)]
              exact x9 p hp
            · intro p hp
              rw [hp_addW_0 (by omega)] at hp
              rw [hp_sn (by omega), hp_s1, hp_s1, hp_sn (by omega), hp_s2, hp_sln (by omega), hp_sln (by omega)]
              exact xp p hp
            · rw [hp_addW_0 (by omega), rd _ _ (by omega) (by omega) (by omega)]; exact y1
            · rw [hp_addW_0 (by omega), rd _ _ (by omega) (by omega) (by omega)]; exact y2
            · rw [hp_addW_0 (by omega), rd _ _ (by omega) (by omega) (by omega)]; exact y3
            · rw [hp_addW_03, s4.i (by unfold hm_FD; omega), Nat.mul_zero, Nat.zero_add, hp_s01]
            · rw [hp_addW_0 (by omega), rd _ _ (by omega) (by omega) (by omega)]; exact y5
            · rw [hp_addW_f (by omega)]
              intro k hk
              rw [rd _ _ (by omega) (by omega) (by omega)]
              exact y6 k hk
            · rw [hp_addW_0 (by omega)]
              intro p hp
              rw [hp_addW_f (by omega), hp_addW_f (by omega), rdl _ (by omega)]
              exact y7 p hp
            · rw [hp_addW_03]
              intro p hp
              rw [hp_addW_6]
              by_cases e : p = G 0 3
              · rw [if_pos e, e, hp_addW_l, hp_addW_L, Nat.mul_zero, Nat.zero_add, s4.l (by unfold hm_FD; omega), hp_s2, hp_s11]
                refine ⟨rfl, fun k hk => ?_⟩
                rw [rd _ _ (by omega) (by omega) (by omega), Nat.zero_add]
                exact t4 k hk
              · rw [if_neg e, hp_addW_f (by omega), hp_addW_f (by omega), rdl _ (by omega)]
                refine ⟨(y8 p (by omega)).1, fun k hk => ?_⟩
                rw [rd _ _ (by omega) (by omega) (by omega)]
                exact (y8 p (by omega)).2 k hk
            · rw [hp_addW_0 (by omega)]
              intro p hp
              rw [hp_addW_f (by omega), hp_addW_f (by omega), rd _ _ (by omega) (by omega) (by omega), rd _ _ (by omega) (by omega) (by omega)]
              exact y9 p hp
            · intro p hp
              rw [hp_addW_0 (by omega)] at hp
              rw [hp_addW_f (by omega)]
              refine ⟨?_, ?_, ?_, fun k hk => ?_⟩
              · rw [rd _ _ (by omega) (by omega) (by omega)]; exact (mp p hp).1
              · rw [rd _ _ (by omega) (by omega) (by omega)]; exact (mp p hp).2.1
              · rw [rd _ _ (by omega) (by omega) (by omega)]; exact (mp p hp).2.2.1
              · rw [rd _ _ (by omega) (by omega) (by omega)]; exact (mp p hp).2.2.2 k hk
          · rw [hp_sn (by omega), hp_s1, hp_s1, hp_sn (by omega), (GX5.tr s3).i (by unfold hx_FD; omega), FA.i (by unfold hx_RD; omega)]
            exact w1
          · rw [s4.i (by unfold hm_FD; omega), hp_sn (by omega), hp_s1, M5.i (by unfold hm_FW hm_FD; omega)]
            exact w2
        · rw [hx_failed1 s5.x.1, if_neg (show ¬ (1 : Int32) = 0 by decide)]
          exact ⟨_, _, rfl, rfl, FX5.tr (s3.mono hx_FD_TD), FM7, e7, .inr s5⟩
      · obtain ⟨r1, r2⟩ := q_failN (f := 1) (p := σ5.1 3 2) p5
        rw [hx_sign_no p5, Option.bind_some, hx_failed1 r1.x.1, if_neg (show ¬ (1 : Int32) = 0 by decide), if_neg p5.x.2]
        exact dead _ _ r1 (FX5.tr (r2.mono hx_FD_TD)) (M5.mono toTD) (e29 _ M5)
      · rw [p6, Option.bind_some, hx_failed1 p5.x.1, if_neg (show ¬ (1 : Int32) = 0 by decide), if_neg p5.x.2]
        exact dead _ _ p5 (FX5.tr (p7.mono hx_FD_TD)) (M5.mono toTD) (e29 _ M5)
    · have N3 : q_no σ2 τ3 := a5.fr (fun f hf => rfl) (fun f hf => k2.i (by omega))
      obtain ⟨σ3, g1, g2, g3⟩ := hx_j54_no (nm := x) (x := 0) (y := 0) (i := 0) N3
      have bdX : f_Tl_tellWord_L30 x (0, 0, 0, σ2) = some (.inl (0, 0, nI 1, σ3)) := by
        unfold f_Tl_tellWord_L30
        dsimp only
        rw [if_neg (by decide), if_pos rfl]
        exact g1
      have LX : hl_lp (f_Tl_tellWord_L30 x) hl_big (0, 0, 0, σ2) = hl_lp (f_Tl_tellWord_L30 x) 999999 (0, 0, nI 1, σ3) := hl_lp_s (n := 999999) bdX
      have LM : hl_lp (f_M_wordTold_L56 (nI (G 0 3)) y) hl_big (0, τ3) = if τ3.1 64 5 = 0 then hm_mk (nI (G 0 3)) y 999999 1 τ3 else some τ3 := hm_L56 (i := 0) (by omega) 999999 (hm_lit_no N3.x.2 _)
      obtain ⟨r1, r2⟩ := q_failN (f := 1) (p := σ3.1 3 2) g3
      rw [LX, LM, if_neg N3.x.2, hl_lp_e (n := 999998) (hx_L30_no (i := 1) (by omega) (by omega) g3), Option.bind_some, Option.bind_some, hx_sign_no g3, Option.bind_some, hx_failed1 r1.x.1, if_neg (show ¬ (1 : Int32) = 0 by decide), if_neg N3.x.2]
      exact dead _ _ r1 ((FX2.tr (g2.mono hx_FD_TD)).tr (r2.mono hx_FD_TD)) (M3.mono toTD) (e29 _ M3)
end WST
