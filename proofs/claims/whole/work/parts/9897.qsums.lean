/-! questions: sums by recursion, the model's sums as a whole -/
section QSUMS
variable {σ τ σ' τ' τ1 υ r : hl_M} {n a s t k j v K i d x o bs br cd N : Nat} {b : Nat → Nat} {C CX CM W T Wt l cM pd : List Nat} {w v1 v4 : Int32} {rec : Nat → hl_M → Option hl_M}
theorem hx_take0 : f_Qu_take (N + 1) 0 σ = b_Qu_takeTest (f_Qu_take N) σ := by
  show (if 0 = 0 then b_Qu_takeTest (f_Qu_take N) σ else _) = _
  rw [if_pos rfl]
theorem hx_take1 : f_Qu_take (N + 1) 1 σ = b_Qu_takeFact (f_Qu_take N) σ := by
  show (if 1 = 0 then _ else if 1 = 1 then b_Qu_takeFact (f_Qu_take N) σ else _) = _
  rw [if_neg (by decide), if_pos rfl]
theorem hx_take2 : f_Qu_take (N + 1) 2 σ = b_Qu_takeSum (f_Qu_take N) σ := by
  show (if 2 = 0 then _ else if 2 = 1 then _ else if 2 = 2 then b_Qu_takeSum (f_Qu_take N) σ else _) = _
  rw [if_neg (by decide), if_neg (by decide), if_pos rfl]
theorem hx_take3 : f_Qu_take (N + 1) 3 σ = b_Qu_takePart (f_Qu_take N) σ := by
  show (if 3 = 0 then _ else if 3 = 1 then _ else if 3 = 2 then _ else if 3 = 3 then b_Qu_takePart (f_Qu_take N) σ else _) = _
  rw [if_neg (by decide), if_neg (by decide), if_neg (by decide), if_pos rfl]
theorem hx_take4 : f_Qu_take (N + 1) 4 σ = b_Qu_takePair (f_Qu_take N) σ := by
  show (if 4 = 0 then _ else if 4 = 1 then _ else if 4 = 2 then _ else if 4 = 3 then _ else if 4 = 4 then b_Qu_takePair (f_Qu_take N) σ else _) = _
  rw [if_neg (by decide), if_neg (by decide), if_neg (by decide), if_neg (by decide), if_pos rfl]
theorem q_NOt (h : 4 ≤ N) : q_NO (f_Qu_take N) := fun k hk σ τ H => hx_noT k hk N h σ H
theorem q_SOt (PO : q_PO n b (f_Qu_take N) o) : q_SO n b (f_Qu_take (N + 1)) o := fun σ τ a C W bs v1 B Q hc => by
  rw [hx_take2]
  exact q_takeSum PO σ τ a C W bs v1 B Q hc
theorem q_ROt (ho : o ≤ 6) (SO : o < 6 → q_SO n b (f_Qu_take N) (o + 1)) (h : 4 ≤ N) : q_RO n b (f_Qu_take (N + 1)) o := fun σ τ s C W bs v1 v4 br cd hv T R KQ H Q => by
  rw [hx_take4]
  exact q_takePair ho SO (q_NOt h) hv T R KQ H Q
theorem q_recPart : ∀ e o N, o + e = 6 → 8 + 3 * e ≤ N → q_PO n b (f_Qu_take N) o := by
  intro e
  induction e with
  | zero =>
    intro o N ho hN
    obtain ⟨M, rfl⟩ : ∃ M, N = M + 2 := ⟨N - 2, by omega⟩
    intro σ τ a C W bs v1 B Q
    rw [hx_take3]
    exact q_takePart (by omega) (fun h => by omega) (fun h => by omega) (q_ROt (by omega) (fun h => by omega) (by omega)) (q_NOt (by omega)) σ τ a C W bs v1 B Q
  | succ e ih =>
    intro o N ho hN
    obtain ⟨M, rfl⟩ : ∃ M, N = M + 3 := ⟨N - 3, by omega⟩
    intro σ τ a C W bs v1 B Q
    rw [hx_take3]
    exact q_takePart (by omega) (fun _ => q_SOt (ih (o + 1) (M + 1) (by omega) (by omega))) (fun _ => ih (o + 1) (M + 2) (by omega) (by omega)) (q_ROt (by omega) (fun _ => q_SOt (ih (o + 1) M (by omega) (by omega))) (by omega)) (q_NOt (by omega)) σ τ a C W bs v1 B Q
theorem q_recSum (ho : o ≤ 6) (hN : 9 + 3 * (6 - o) ≤ N) : q_SO n b (f_Qu_take N) o := by
  obtain ⟨M, rfl⟩ : ∃ M, N = M + 1 := ⟨N - 1, by omega⟩
  exact q_SOt (q_recPart (6 - o) o M (by omega) (by omega))
/-- the model's sum stands alone: nothing is wanted that closes it -/
theorem hm_L0b (T : hx_t n b σ) (R : hm_r n b τ) (H : q_os n b s σ τ) (eb : f_M_qBracket τ = some (-1)) : f_M_qGoesOn_L0 τ = some (.inr τ) := by
  unfold f_M_qGoesOn_L0
  rw [if_pos H.x.2, H.look T R, Option.bind_some, eb]
  dsimp only
  by_cases c : hq_ch n b s = 41
  · rw [if_pos c, Option.bind_some, Option.bind_some, Option.bind_some, if_neg (by decide), if_neg (by decide), if_neg (by decide)]
  · rw [if_neg c]
theorem q_qSums (SO : q_SO n b rec o) (hd : hq_hd W (fun x => 10 ≤ x)) (B : q_b n b a σ τ) (Q : q_c C C W o bs a σ τ) (hbs : bs < 2000) : ∃ σ' τ', rec 2 σ = some σ' ∧ f_M_qSums τ = some τ' ∧ hp_fr hx_QD σ σ' ∧ hp_fr hm_QD τ τ' ∧ ((∃ a' l, (a < a' ∧ l.length + a ≤ a') ∧ q_b n b a' σ' τ' ∧ q_c (C ++ l) (C ++ l) W o bs a' σ' τ' ∧ hq_G (3 + 3 * (6 - o)) l) ∨ (q_no σ' τ' ∧ hm_cb τ')) := by
  have hn := B.1.1
  obtain ⟨QX, QM, Qb, Ql⟩ := Q
  have ha := B.2.2.2.2.2
  have F0 : hp_fr (fun q f => q = 64 ∧ f = 76) τ (hl_si τ 64 76 (nI W.length)) := hp_fr.rf.si ⟨rfl, rfl⟩
  have B0 : q_b n b a σ (hl_si τ 64 76 (nI W.length)) := B.fr (.rf (D := fun _ _ => False)) (fun q f h => h.elim) F0 (fun q f h => by omega)
  have Q0 : q_c C C W o W.length a σ (hl_si τ 64 76 (nI W.length)) := ⟨QX, QM.bs' W.length, Nat.le_refl _, Ql⟩
  have hc : hq_ctx W W.length := .inl ⟨rfl, hd⟩
  obtain ⟨σ1, p1, p2, p3⟩ := SO σ _ a C W W.length (nI bs) B0 Q0 hc
  have e76 : τ.1 64 76 = nI bs := QM.2.2.2
  have run : ∀ r, hm_RP n (nI bs) a (hl_si τ 64 76 (nI W.length)) r → hl_lp (f_M_qSums_L15 (nI bs)) hl_big (1, hl_si τ 64 76 (nI W.length)) = some r := by
    intro r hr
    have := hm_L15s (k := 999999) (v1 := nI bs) B0.2.2.2.1.x.2
    exact this.trans (hr 999999 hl_big (by omega) (by unfold hl_big; omega))
  unfold f_M_qSums
  rw [e76, QM.2.1.1]
  rcases p3 with ⟨a2, τ2, l, cM, pd, g1, g2, g3, g4, g5, g6, g7, g8, g9⟩ | ⟨τ2, g1, g2, g3⟩
  · obtain ⟨s, hs, R1, K1, H1, F1, lk, -, nG⟩ := g2.norm
    obtain ⟨gX, gM, gb, gl⟩ := g3
    have ha2 := g2.2.2.2.2.2
    rw [List.length_append] at gl
    have gM1 := gM.fr F1 (fun q f h => by unfold hm_FD at h; omega)
    have eb : f_M_qBracket (hl_si τ2 64 2 (nI s)) = some (-1) := by
      rw [hm_bracket hc g5 gM1 (by omega) (Nat.le_refl _)]
      unfold hq_br
      cases W with
      | nil => rfl
      | cons y V =>
        dsimp only
        rw [if_neg (by rw [List.length_cons]; omega)]
    have rr := run _ (g9 _ (nG (nI bs) _ (hm_RG.stop (hm_L0b g2.1 R1 H1 eb) ((q_G2n g2.1 R1 H1 g6).trans (hm_G3e eb)))))
    obtain ⟨τ5, d1, d2, d3⟩ := hm_dl (P := fun x => 1 ≤ x ∧ x ≤ 4) (body := f_M_qSums_L53 (nI bs)) (o := o) (bs := W.length) (W := W) (fun τ C x W' h5 H hl hw hx τ' hd => by
      have e74 : τ.1 64 74 = nI (W'.length + 1) := H.2.1.1
      have n1 : ¬ nI (W'.length + 1) ≤ nI W.length := by first | omega | (simp (disch := first | assumption | omega) only [↓hp_neg1, hp_l0, hp_l1, hp_l2, hp_l3, hp_l4, hp_l5, hp_l6, hp_l7, hp_l8, hp_l9, hp_l10, hp_l11, hp_l12, hp_l13, hp_l14, hp_l15, hp_l16, hp_l17, hp_l18, hp_l19, hp_l20, hp_l21, hp_l22, hp_l23, hp_l24, hp_l25, hp_l26, hp_l27, hp_l28, hp_l29, hp_l30, hp_l31, hp_l32, hp_l33, hp_l34, hp_l35, hp_l36, hp_l37, hp_l38, hp_l39, hp_l40, hp_l41, hp_l42, hp_l43, hp_l44, hp_l45, hp_l46, hp_l47, hp_l48, hp_l49, hp_l50, hp_l51, hp_l52, hp_l53, hp_l54, hp_l55, hp_l56, hp_l57, hp_l58, hp_l59, hp_l60, hp_l61, hp_l62, hp_l63, hp_l64, hp_l65, hp_l66, hp_l67, hp_l68, hp_l69, hp_l70, hp_l71, hp_l72, hp_l73, hp_l74, hp_l75, hp_l76, hp_l77, hp_l78, hp_l79, hp_l80, hp_l81, hp_l82, hp_l83, hp_l84, hp_l85, hp_l86, hp_l87, hp_l88, hp_l89, hp_l90, hp_l91, hp_l92, hp_l93, hp_l94, hp_l95, hp_l96, hp_l97, hp_l98, hp_l99, hp_l100, hp_l101, hp_l102, hp_l103, hp_l104, hp_l105, hp_l106, hp_l107, hp_l108, hp_l109, hp_l110, hp_l111, hp_l112, hp_l113, hp_l114, hp_l115, hp_l116, hp_l117, hp_l118, hp_l119, hp_l120, hp_l121, hp_l122, hp_l123, hp_l124, hp_l125, hp_l126, hp_l127, hp_l141, hp_l142, hp_l150, hp_l151, hp_l152, hp_l153, hp_l251, hp_l255, hp_l256, hp_l300, hp_l432, hp_l864, hp_l1000, hp_l1600, hp_l1700, hp_l2304, hp_l2916, hp_l3000, hp_l9999, hp_l10000, nI_add, pk_mul, nI_clamp, hl_lt, hl_le, hl_eq, hl_nIb, hl_nsub, hp_eqm, hp_meq, hp_ltm, hp_mlt, hp_lem, hp_mle, hp_addm, hp_meqm, hp_mlem, hp_withinE, hp_within0, if_pos, if_neg, Option.bind_some, hp_let, Sum.elim_inl, Sum.elim_inr, hp_s01, hp_s11, hp_s2, true_and, and_true, if_true, if_false, not_true_eq_false, not_false_eq_true, reduceCtorEq] <;> omega)
      unfold f_M_qSums_L53
      rw [if_pos h5, e74, H.2.2.2, if_neg n1, hd, Option.bind_some]) (fun τ C h5 H hw => by
      unfold f_M_qSums_L53
      rw [if_pos h5, H.2.1.1, H.2.2.2, if_pos (nI_le (Nat.le_refl _) (by omega))]) pd _ cM hl_big g5 H1.x.2 gM1 (by omega) (by omega) (by unfold hl_big; omega)
    have FM : hp_fr hm_QD τ (hl_si τ5 64 76 (nI bs)) := (((((F0.mono (fun q f h => by unfold hm_QD; omega)).tr g7).tr (F1.mono hm_FD_QD)).tr (d2.mono hm_QF_QD))).si (by unfold hm_QD; omega)
    rw [p1, rr, Option.bind_some, d1, Option.bind_some]
    rw [g4] at d3
    have lens : cM.length + pd.length = C.length + l.length := by rw [← List.length_append, g4, List.length_append]
    have B1 : q_b n b s σ1 (hl_si τ2 64 2 (nI s)) := ⟨g2.1, R1, K1, H1.1, H1.2.1, H1.2.2.2⟩
    exact ⟨σ1, _, rfl, rfl, p2, FM, .inl ⟨s, l, ⟨by omega, by omega⟩, B1.fr (.rf (D := fun _ _ => False)) (fun q f h => h.elim) (DM := fun q f => hm_QF q f ∨ (q = 64 ∧ f = 76)) ((d2.mono (fun q f h => .inl h)).si (.inr ⟨rfl, rfl⟩)) (fun q f h => by unfold hm_QF at h; omega), ⟨gX, d3.bs' bs, Qb, by rw [List.length_append]; omega⟩, g8⟩⟩
  · have rr := run _ g3
    have l53 : f_M_qSums_L53 (nI bs) τ2 = some (.inr τ2) := by
      unfold f_M_qSums_L53
      rw [if_neg g1.x.2]
    rw [p1, rr, Option.bind_some, hp_lpe _ l53, Option.bind_some]
    exact ⟨σ1, _, rfl, rfl, p2, ((F0.mono (fun q f h => by unfold hm_QD; omega)).tr g2.1).si (by unfold hm_QD; omega), .inr ⟨g1.z (fun f hf => hp_sn (by omega)), g2.2.fr (hp_fr.rf.si (D := fun q f => q = 64 ∧ f = 76) ⟨rfl, rfl⟩) (by omega)⟩⟩
end QSUMS
