/-! upside down; read, far -/
section WO
variable {G P : hp_G} {σ τ υ : hl_M} {p w c b d m t u : Nat}
theorem hp_rowbit {x : Int64} {q : Nat → Bool} {W H k : Nat} (h : hp_bs x q) (hC : W * H ≤ 54) (hW : 0 < W) (hW9 : W ≤ 9) (hH6 : H ≤ 6) (hk : k < H) :
    hp_bs ((((x.toUInt64 >>> ((nI k * nI W).toInt64.toUInt64 &&& Int64.toUInt64 63)).toInt64) &&& (((1 : Int64) <<< ((nI W).toInt64 &&& 63)) - 1)) <<< ((((nI H - 1) - nI k) * nI W).toInt64 &&& 63)) (fun c => decide (c / W = H - 1 - k) && q (W * (H - 1 - c / W) + c % W)) := by
  obtain ⟨n, h1, rfl, h3⟩ := h
  have hkW : k * W < 54 := by
    have a : (k + 1) * W ≤ H * W := Nat.mul_le_mul_right _ hk
    rw [Nat.add_mul, Nat.mul_comm H W] at a
    omega
  have hjW : (H - 1 - k) * W + W ≤ 54 := by
    have a : (H - 1 - k + 1) * W ≤ H * W := Nat.mul_le_mul_right _ (by omega)
    rw [Nat.add_mul, Nat.mul_comm H W] at a
    omega
  have e1 : ((1 : Int64) <<< ((nI W).toInt64 &&& 63)) - 1 = lN (2 ^ W - 1) := by
    rw [hp_bit1 (by omega), show (1 : Int64) = lN 1 from rfl, lN_sub (Nat.two_pow_pos W)]
  rw [e1, pk_mul, wb_shr (by omega) (by omega), fb_maskL, show (1 : Int32) = nI 1 from rfl, pk_sub (by omega), pk_sub (by omega), pk_mul, wb_shl _ (by omega)]
  have hlt : n / 2 ^ (k * W) % 2 ^ W < 2 ^ W := Nat.mod_lt _ (Nat.two_pow_pos W)
  refine ⟨_, ?_, rfl, ?_⟩
  · have a : (n / 2 ^ (k * W) % 2 ^ W + 1) * 2 ^ ((H - 1 - k) * W) ≤ 2 ^ W * 2 ^ ((H - 1 - k) * W) := Nat.mul_le_mul_right _ hlt
    rw [← Nat.pow_add, Nat.add_mul] at a
    have b : 2 ^ (W + (H - 1 - k) * W) ≤ 2 ^ 54 := Nat.pow_le_pow_right (by decide) (by omega)
    have c : 0 < 2 ^ ((H - 1 - k) * W) := Nat.two_pow_pos _
    omega
  · intro c hc
    have ed := Nat.div_add_mod c W
    have hm : c % W < W := Nat.mod_lt _ hW
    show _ = (decide (c / W = H - 1 - k) && q (W * (H - 1 - c / W) + c % W))
    rw [Nat.mul_comm (n / 2 ^ (k * W) % 2 ^ W), Nat.testBit_two_pow_mul, Nat.testBit_mod_two_pow, Nat.testBit_div_two_pow]
    by_cases e : c / W = H - 1 - k
    · have e2 : c - (H - 1 - k) * W = c % W := by rw [← e, Nat.mul_comm]; omega
      have e3 : c ≥ (H - 1 - k) * W := by rw [← e, Nat.mul_comm]; omega
      have e4 : H - 1 - c / W = k := by rw [e]; omega
      have e5 : c % W + k * W < 54 := by
        have a : (k + 1) * W ≤ H * W := Nat.mul_le_mul_right _ hk
        rw [Nat.add_mul, Nat.mul_comm H W] at a
        omega
      rw [e2, decide_eq_true e3, decide_eq_true hm, decide_eq_true e, e4, Nat.mul_comm W k, Nat.add_comm (k * W)]
      rw [h3 _ e5]
      rfl
    · rw [decide_eq_false e, Bool.false_and]
      by_cases e3 : c ≥ (H - 1 - k) * W
      · rw [decide_eq_true e3, Bool.true_and]
        have e6 : ¬ c - (H - 1 - k) * W < W := by
          intro z
          apply e
          apply Nat.div_eq_of_lt_le
          · exact e3
          · rw [Nat.add_mul]; omega
        rw [decide_eq_false e6, Bool.false_and]
      · rw [decide_eq_false e3, Bool.false_and]
theorem hx_turned {x : Int64} {q : Nat → Bool} (H : hx G P σ) (h3 : 3 ≤ G 0 0) (h : hp_bs x q) : ∃ r, f_Vw_turned x σ = some r ∧ hp_bs r (fun c => decide (c < hp_C G) && q (hp_mir G c)) := by
  have hC := H.wg.C
  have w9 := H.wg.W
  have h6 := H.wg.H
  have eC : hp_C G = G 0 0 * G 0 1 := rfl
  unfold f_Vw_turned
  rw [H.W]
  refine hp_bindX (Q := fun r => hp_bs r (fun c => decide (c < hp_C G) && q (hp_mir G c))) (hp_inv (G 0 1) (fun k s => s.2 = nI k ∧ hp_bs s.1 (fun c => decide (G 0 1 ≤ c / G 0 0 + k) && (decide (c < hp_C G) && q (hp_mir G c)))) _ (by omega) ?_ ?_ ?_) (fun r h => ⟨r, rfl, h⟩)
  · refine ⟨rfl, hp_bs.zero.cong (fun c hc => ?_)⟩
    by_cases e : c < hp_C G
    · have : c / G 0 0 < G 0 1 := Nat.div_lt_of_lt_mul e
      rw [decide_eq_false (by omega), Bool.false_and]
    · rw [decide_eq_false e, Bool.false_and, Bool.and_false]
  · rintro k ⟨s, x'⟩ hk ⟨h1, h2⟩
    dsimp only at h1 h2
    subst h1
    left
    unfold f_Vw_turned_L18
    dsimp only
    rw [H.H, if_neg (by first | omega | (simp (disch := first | assumption | omega) only [↓hp_neg1, hp_l0, hp_l1, hp_l2, hp_l3, hp_l4, hp_l5, hp_l6, hp_l7, hp_l8, hp_l9, hp_l10, hp_l11, hp_l12, hp_l13, hp_l14, hp_l15, hp_l16, hp_l17, hp_l18, hp_l19, hp_l20, hp_l21, hp_l22, hp_l23, hp_l24, hp_l25, hp_l26, hp_l27, hp_l28, hp_l29, hp_l30, hp_l31, hp_l32, hp_l33, hp_l34, hp_l35, hp_l36, hp_l37, hp_l38, hp_l39, hp_l40, hp_l41, hp_l42, hp_l43, hp_l44, hp_l45, hp_l46, hp_l47, hp_l48, hp_l49, hp_l50, hp_l51, hp_l52, hp_l53, hp_l54, hp_l55, hp_l56, hp_l57, hp_l58, hp_l59, hp_l60, hp_l61, hp_l62, hp_l63, hp_l64, hp_l65, hp_l66, hp_l67, hp_l68, hp_l69, hp_l70, hp_l71, hp_l72, hp_l73, hp_l74, hp_l75, hp_l76, hp_l77, hp_l78, hp_l79, hp_l80, hp_l81, hp_l82, hp_l83, hp_l84, hp_l85, hp_l86, hp_l87, hp_l88, hp_l89, hp_l90, hp_l91, hp_l92, hp_l93, hp_l94, hp_l95, hp_l96, hp_l97, hp_l98, hp_l99, hp_l100, hp_l101, hp_l102, hp_l103, hp_l104, hp_l105, hp_l106, hp_l107, hp_l108, hp_l109, hp_l110, hp_l111, hp_l112, hp_l113, hp_l114, hp_l115, hp_l116, hp_l117, hp_l118, hp_l119, hp_l120, hp_l121, hp_l122, hp_l123, hp_l124, hp_l125, hp_l126, hp_l127, hp_l141, hp_l142, hp_l150, hp_l151, hp_l152, hp_l153, hp_l251, hp_l255, hp_l256, hp_l300, hp_l432, hp_l864, hp_l1000, hp_l1600, hp_l1700, hp_l2304, hp_l2916, hp_l3000, hp_l9999, hp_l10000, nI_add, pk_mul, nI_clamp, hl_lt, hl_le, hl_eq, hl_nIb, hl_nsub, hp_eqm, hp_meq, hp_ltm, hp_mlt, hp_lem, hp_mle, hp_addm, hp_meqm, hp_mlem, hp_withinE, hp_within0, if_pos, if_neg, Option.bind_some, hp_let, Sum.elim_inl, Sum.elim_inr, hp_s01, hp_s11, hp_s2, true_and, and_true, if_true, if_false, not_true_eq_false, not_false_eq_true, reduceCtorEq] <;> omega)), H.W]
    refine ⟨_, rfl, nI_1 k, ?_⟩
    refine (h2.or (hp_rowbit h (H := G 0 1) (W := G 0 0) (k := k) (by omega) (by omega) w9 h6 hk)).cong (fun c hc => ?_)
    have em : G 0 0 * (G 0 1 - 1 - c / G 0 0) + c % G 0 0 = hp_mir G c := rfl
    rw [em]
    by_cases e : c < hp_C G
    · have hd : c / G 0 0 < G 0 1 := Nat.div_lt_of_lt_mul e
      rw [decide_eq_true e, Bool.true_and]
      generalize q (hp_mir G c) = v
      generalize hz : c / G 0 0 = z at *
      have e2 : decide (G 0 1 ≤ z + (k + 1)) = (decide (G 0 1 ≤ z + k) || decide (z = G 0 1 - 1 - k)) := by
        by_cases a : G 0 1 ≤ z + k
        · rw [decide_eq_true a, decide_eq_true (show G 0 1 ≤ z + (k + 1) by omega)]; rfl
        · by_cases a2 : z = G 0 1 - 1 - k
          · rw [decide_eq_true a2, decide_eq_true (show G 0 1 ≤ z + (k + 1) by omega), Bool.or_true]
          · rw [decide_eq_false a2, decide_eq_false a, decide_eq_false (show ¬ G 0 1 ≤ z + (k + 1) by omega)]; rfl
      rw [e2]
      cases v <;> simp
    · rw [decide_eq_false e, Bool.false_and, Bool.and_false, Bool.and_false, Bool.false_or]
      have : ¬ c / G 0 0 = G 0 1 - 1 - k := by
        intro z
        apply e
        have ed := Nat.div_add_mod c (G 0 0)
        have hm : c % G 0 0 < G 0 0 := Nat.mod_lt _ (by omega)
        have a : G 0 0 * (c / G 0 0 + 1) ≤ G 0 0 * G 0 1 := Nat.mul_le_mul_left _ (by omega)
        rw [Nat.mul_add] at a
        omega
      rw [decide_eq_false this, Bool.false_and]
  · rintro ⟨s, x'⟩ ⟨h1, h2⟩
    dsimp only at h1 h2
    subst h1
    unfold f_Vw_turned_L18
    dsimp only
    rw [H.H, if_pos (by first | omega | (simp (disch := first | assumption | omega) only [↓hp_neg1, hp_l0, hp_l1, hp_l2, hp_l3, hp_l4, hp_l5, hp_l6, hp_l7, hp_l8, hp_l9, hp_l10, hp_l11, hp_l12, hp_l13, hp_l14, hp_l15, hp_l16, hp_l17, hp_l18, hp_l19, hp_l20, hp_l21, hp_l22, hp_l23, hp_l24, hp_l25, hp_l26, hp_l27, hp_l28, hp_l29, hp_l30, hp_l31, hp_l32, hp_l33, hp_l34, hp_l35, hp_l36, hp_l37, hp_l38, hp_l39, hp_l40, hp_l41, hp_l42, hp_l43, hp_l44, hp_l45, hp_l46, hp_l47, hp_l48, hp_l49, hp_l50, hp_l51, hp_l52, hp_l53, hp_l54, hp_l55, hp_l56, hp_l57, hp_l58, hp_l59, hp_l60, hp_l61, hp_l62, hp_l63, hp_l64, hp_l65, hp_l66, hp_l67, hp_l68, hp_l69, hp_l70, hp_l71, hp_l72, hp_l73, hp_l74, hp_l75, hp_l76, hp_l77, hp_l78, hp_l79, hp_l80, hp_l81, hp_l82, hp_l83, hp_l84, hp_l85, hp_l86, hp_l87, hp_l88, hp_l89, hp_l90, hp_l91, hp_l92, hp_l93, hp_l94, hp_l95, hp_l96, hp_l97, hp_l98, hp_l99, hp_l100, hp_l101, hp_l102, hp_l103, hp_l104, hp_l105, hp_l106, hp_l107, hp_l108, hp_l109, hp_l110, hp_l111, hp_l112, hp_l113, hp_l114, hp_l115, hp_l116, hp_l117, hp_l118, hp_l119, hp_l120, hp_l121, hp_l122, hp_l123, hp_l124, hp_l125, hp_l126, hp_l127, hp_l141, hp_l142, hp_l150, hp_l151, hp_l152, hp_l153, hp_l251, hp_l255, hp_l256, hp_l300, hp_l432, hp_l864, hp_l1000, hp_l1600, hp_l1700, hp_l2304, hp_l2916, hp_l3000, hp_l9999, hp_l10000, nI_add, pk_mul, nI_clamp, hl_lt, hl_le, hl_eq, hl_nIb, hl_nsub, hp_eqm, hp_meq, hp_ltm, hp_mlt, hp_lem, hp_mle, hp_addm, hp_meqm, hp_mlem, hp_withinE, hp_within0, if_pos, if_neg, Option.bind_some, hp_let, Sum.elim_inl, Sum.elim_inr, hp_s01, hp_s11, hp_s2, true_and, and_true, if_true, if_false, not_true_eq_false, not_false_eq_true, reduceCtorEq] <;> omega))]
    exact ⟨_, rfl, h2.cong (fun c hc => by rw [decide_eq_true (show G 0 1 ≤ c / G 0 0 + G 0 1 from Nat.le_add_left _ _), Bool.true_and])⟩
theorem hx_look2 (H : hx G P σ) (hb : b < 100) (hu : u ≤ 1) (h3 : 3 ≤ G 0 0) : ∃ σ', f_X_look (nI b) (nI u) σ = some σ' ∧ hx_v (hp_see G u (hp_li G P b 1000 1000 0)) σ' ∧ hp_fr hx_T σ σ' := by
  obtain ⟨σ1, e1, V, F⟩ := hx_look H hb (d := 1000) (by omega)
  unfold f_X_look
  rw [show (-1 : Int32) = hp_o 1000 from rfl, e1, Option.bind_some]
  by_cases e : u = 0
  · subst e
    rw [if_pos (by decide)]
    exact ⟨σ1, rfl, V, hx_T37 F⟩
  · rw [if_neg (by first | omega | (simp (disch := first | assumption | omega) only [↓hp_neg1, hp_l0, hp_l1, hp_l2, hp_l3, hp_l4, hp_l5, hp_l6, hp_l7, hp_l8, hp_l9, hp_l10, hp_l11, hp_l12, hp_l13, hp_l14, hp_l15, hp_l16, hp_l17, hp_l18, hp_l19, hp_l20, hp_l21, hp_l22, hp_l23, hp_l24, hp_l25, hp_l26, hp_l27, hp_l28, hp_l29, hp_l30, hp_l31, hp_l32, hp_l33, hp_l34, hp_l35, hp_l36, hp_l37, hp_l38, hp_l39, hp_l40, hp_l41, hp_l42, hp_l43, hp_l44, hp_l45, hp_l46, hp_l47, hp_l48, hp_l49, hp_l50, hp_l51, hp_l52, hp_l53, hp_l54, hp_l55, hp_l56, hp_l57, hp_l58, hp_l59, hp_l60, hp_l61, hp_l62, hp_l63, hp_l64, hp_l65, hp_l66, hp_l67, hp_l68, hp_l69, hp_l70, hp_l71, hp_l72, hp_l73, hp_l74, hp_l75, hp_l76, hp_l77, hp_l78, hp_l79, hp_l80, hp_l81, hp_l82, hp_l83, hp_l84, hp_l85, hp_l86, hp_l87, hp_l88, hp_l89, hp_l90, hp_l91, hp_l92, hp_l93, hp_l94, hp_l95, hp_l96, hp_l97, hp_l98, hp_l99, hp_l100, hp_l101, hp_l102, hp_l103, hp_l104, hp_l105, hp_l106, hp_l107, hp_l108, hp_l109, hp_l110, hp_l111, hp_l112, hp_l113, hp_l114, hp_l115, hp_l116, hp_l117, hp_l118, hp_l119, hp_l120, hp_l121, hp_l122, hp_l123, hp_l124, hp_l125, hp_l126, hp_l127, hp_l141, hp_l142, hp_l150, hp_l151, hp_l152, hp_l153, hp_l251, hp_l255, hp_l256, hp_l300, hp_l432, hp_l864, hp_l1000, hp_l1600, hp_l1700, hp_l2304, hp_l2916, hp_l3000, hp_l9999, hp_l10000, nI_add, pk_mul, nI_clamp, hl_lt, hl_le, hl_eq, hl_nIb, hl_nsub, hp_eqm, hp_meq, hp_ltm, hp_mlt, hp_lem, hp_mle, hp_addm, hp_meqm, hp_mlem, hp_withinE, hp_within0, if_pos, if_neg, Option.bind_some, hp_let, Sum.elim_inl, Sum.elim_inr, hp_s01, hp_s11, hp_s2, true_and, and_true, if_true, if_false, not_true_eq_false, not_false_eq_true, reduceCtorEq] <;> omega))]
    have H1 := H.fr F (by omega)
    unfold f_Vw_turnOver
    obtain ⟨r1, a1, b1⟩ := hx_turned H1 h3 V.1
    have F2 : hp_fr (fun q _ => q = 37) σ1 (hl_sl σ1 37 2 r1) := by refine hp_fr.sl hp_fr.rf ?_; rfl
    have H2 := H1.fr F2 (by omega)
    have V2 : hp_bs ((hl_sl σ1 37 2 r1).2 37 3) (fun c => decide (hp_li G P b 1000 1000 0 c = 2)) := by rw [hp_sln (by omega)]; exact V.2
    obtain ⟨r2, a2, b2⟩ := hx_turned H2 h3 V2
    rw [a1, Option.bind_some, a2, Option.bind_some]
    refine ⟨_, rfl, ⟨?_, ?_⟩, hx_T37 ((F.tr F2).sl rfl)⟩
    · rw [hp_sln (by omega), hp_s11]
      refine b1.cong (fun c hc => ?_)
      unfold hp_see
      rw [if_neg e]
      by_cases e2 : c < hp_C G
      · rw [decide_eq_true e2, if_pos e2, Bool.true_and]
      · rw [decide_eq_false e2, if_neg e2, Bool.false_and]; rfl
    · rw [hp_s11]
      refine b2.cong (fun c hc => ?_)
      unfold hp_see
      rw [if_neg e]
      by_cases e2 : c < hp_C G
      · rw [decide_eq_true e2, if_pos e2, Bool.true_and]
      · rw [decide_eq_false e2, if_neg e2, Bool.false_and]; rfl
/-- what M reads of a beat -/
def hm_lit (G : hp_G) (f : Nat → Nat) (b : Nat) (τ : hl_M) : Prop := (∀ c, c < hp_C G → f_M_litIn (nI b) (nI c) τ = some (nI (f c))) ∧ (∀ c, f c ≤ 2) ∧ ∀ c, hp_C G ≤ c → f c = 0
theorem hm_lit_of (K : hm G P τ) (O : hm_o d m t τ) (hb : b < 100) (ht : m = 1000 ∨ t < hp_C G) : hm_lit G (hp_li G P b d m t) b τ := by
  have hC := K.wg.C
  exact ⟨fun c hc => hm_litIn K O hb (by omega), fun c => hp_li_le K.wp, fun c hc => hp_li_out K.wg ht hc⟩
theorem hm_far2 {f : Nat → Nat} (K : hm G P τ) (hu : u ≤ 1) (L : hm_lit G f b τ) (hw : w < G 0 3) : f_M_farFrom (nI b) (nI w) (nI u) τ = some (nI (hp_far G (hp_see G u f) w)) := hm_far K hu L.1 L.2.1 L.2.2 hw
theorem q_wordRead {f : Nat → Nat} (H : hx G P σ) (K : hm G P τ) (hu : u ≤ 1) (L : hm_lit G f b τ) (V : hx_v (hp_see G u f) σ) : ∃ r, f_Vw_wordRead σ = some r ∧ f_M_readIn (nI b) (nI u) τ = some r ∧ (r = -1 ∨ ∃ w, w < G 0 3 ∧ r = nI w) := by
  have hnw := H.wg.nw
  unfold f_Vw_wordRead f_M_readIn
  refine hp_simX (b := f_Vw_wordRead_L2 σ) (b' := f_M_readIn_L2 (nI b) (nI u) τ) (s := 0) (s' := 0) (G 0 3) (fun k s s' => s = nI k ∧ s' = nI k) (fun e e' => e = e' ∧ (e = .inl () ∨ ∃ w, w < G 0 3 ∧ e = .inr (nI w))) (by omega) ⟨rfl, rfl⟩ ?_ ?_ ?_
  · rintro e e' h1 h2 ⟨rfl, h3⟩
    rw [h1, h2]
    simp only [Option.bind_some]
    rcases h3 with rfl | ⟨w, hw, rfl⟩
    · exact ⟨_, rfl, rfl, .inl rfl⟩
    · exact ⟨_, rfl, rfl, .inr ⟨w, hw, rfl⟩⟩
  · rintro k s s' hk ⟨rfl, rfl⟩
    have hl := hp_far_le (G := G) (f := hp_see G u f) (w := k)
    unfold f_Vw_wordRead_L2 f_M_readIn_L2
    rw [H.nw, if_neg (by first | omega | (simp (disch := first | assumption | omega) only [↓hp_neg1, hp_l0, hp_l1, hp_l2, hp_l3, hp_l4, hp_l5, hp_l6, hp_l7, hp_l8, hp_l9, hp_l10, hp_l11, hp_l12, hp_l13, hp_l14, hp_l15, hp_l16, hp_l17, hp_l18, hp_l19, hp_l20, hp_l21, hp_l22, hp_l23, hp_l24, hp_l25, hp_l26, hp_l27, hp_l28, hp_l29, hp_l30, hp_l31, hp_l32, hp_l33, hp_l34, hp_l35, hp_l36, hp_l37, hp_l38, hp_l39, hp_l40, hp_l41, hp_l42, hp_l43, hp_l44, hp_l45, hp_l46, hp_l47, hp_l48, hp_l49, hp_l50, hp_l51, hp_l52, hp_l53, hp_l54, hp_l55, hp_l56, hp_l57, hp_l58, hp_l59, hp_l60, hp_l61, hp_l62, hp_l63, hp_l64, hp_l65, hp_l66, hp_l67, hp_l68, hp_l69, hp_l70, hp_l71, hp_l72, hp_l73, hp_l74, hp_l75, hp_l76, hp_l77, hp_l78, hp_l79, hp_l80, hp_l81, hp_l82, hp_l83, hp_l84, hp_l85, hp_l86, hp_l87, hp_l88, hp_l89, hp_l90, hp_l91, hp_l92, hp_l93, hp_l94, hp_l95, hp_l96, hp_l97, hp_l98, hp_l99, hp_l100, hp_l101, hp_l102, hp_l103, hp_l104, hp_l105, hp_l106, hp_l107, hp_l108, hp_l109, hp_l110, hp_l111, hp_l112, hp_l113, hp_l114, hp_l115, hp_l116, hp_l117, hp_l118, hp_l119, hp_l120, hp_l121, hp_l122, hp_l123, hp_l124, hp_l125, hp_l126, hp_l127, hp_l141, hp_l142, hp_l150, hp_l151, hp_l152, hp_l153, hp_l251, hp_l255, hp_l256, hp_l300, hp_l432, hp_l864, hp_l1000, hp_l1600, hp_l1700, hp_l2304, hp_l2916, hp_l3000, hp_l9999, hp_l10000, nI_add, pk_mul, nI_clamp, hl_lt, hl_le, hl_eq, hl_nIb, hl_nsub, hp_eqm, hp_meq, hp_ltm, hp_mlt, hp_lem, hp_mle, hp_addm, hp_meqm, hp_mlem, hp_withinE, hp_within0, if_pos, if_neg, Option.bind_some, hp_let, Sum.elim_inl, Sum.elim_inr, hp_s01, hp_s11, hp_s2, true_and, and_true, if_true, if_false, not_true_eq_false, not_false_eq_true, reduceCtorEq] <;> omega)), hm_wordMany K, Option.bind_some, if_neg (by first | omega | (simp (disch := first | assumption | omega) only [↓hp_neg1, hp_l0, hp_l1, hp_l2, hp_l3, hp_l4, hp_l5, hp_l6, hp_l7, hp_l8, hp_l9, hp_l10, hp_l11, hp_l12, hp_l13, hp_l14, hp_l15, hp_l16, hp_l17, hp_l18, hp_l19, hp_l20, hp_l21, hp_l22, hp_l23, hp_l24, hp_l25, hp_l26, hp_l27, hp_l28, hp_l29, hp_l30, hp_l31, hp_l32, hp_l33, hp_l34, hp_l35, hp_l36, hp_l37, hp_l38, hp_l39, hp_l40, hp_l41, hp_l42, hp_l43, hp_l44, hp_l45, hp_l46, hp_l47, hp_l48, hp_l49, hp_l50, hp_l51, hp_l52, hp_l53, hp_l54, hp_l55, hp_l56, hp_l57, hp_l58, hp_l59, hp_l60, hp_l61, hp_l62, hp_l63, hp_l64, hp_l65, hp_l66, hp_l67, hp_l68, hp_l69, hp_l70, hp_l71, hp_l72, hp_l73, hp_l74, hp_l75, hp_l76, hp_l77, hp_l78, hp_l79, hp_l80, hp_l81, hp_l82, hp_l83, hp_l84, hp_l85, hp_l86, hp_l87, hp_l88, hp_l89, hp_l90, hp_l91, hp_l92, hp_l93, hp_l94, hp_l95, hp_l96, hp_l97, hp_l98, hp_l99, hp_l100, hp_l101, hp_l102, hp_l103, hp_l104, hp_l105, hp_l106, hp_l107, hp_l108, hp_l109, hp_l110, hp_l111, hp_l112, hp_l113, hp_l114, hp_l115, hp_l116, hp_l117, hp_l118, hp_l119, hp_l120, hp_l121, hp_l122, hp_l123, hp_l124, hp_l125, hp_l126, hp_l127, hp_l141, hp_l142, hp_l150, hp_l151, hp_l152, hp_l153, hp_l251, hp_l255, hp_l256, hp_l300, hp_l432, hp_l864, hp_l1000, hp_l1600, hp_l1700, hp_l2304, hp_l2916, hp_l3000, hp_l9999, hp_l10000, nI_add, pk_mul, nI_clamp, hl_lt, hl_le, hl_eq, hl_nIb, hl_nsub, hp_eqm, hp_meq, hp_ltm, hp_mlt, hp_lem, hp_mle, hp_addm, hp_meqm, hp_mlem, hp_withinE, hp_within0, if_pos, if_neg, Option.bind_some, hp_let, Sum.elim_inl, Sum.elim_inr, hp_s01, hp_s11, hp_s2, true_and, and_true, if_true, if_false, not_true_eq_false, not_false_eq_true, reduceCtorEq] <;> omega)), hx_far H V (fun c => hp_see_le L.2.1) hk, hm_far2 K hu L hk]
    simp only [Option.bind_some, nI_1]
    by_cases e : nI (hp_far G (hp_see G u f) k) = 0
    · simp only [if_pos e]
      exact .inr ⟨_, _, rfl, rfl, rfl, .inr ⟨k, hk, rfl⟩⟩
    · simp only [if_neg e]
      exact .inl ⟨_, _, rfl, rfl, rfl, rfl⟩
  · rintro s s' ⟨rfl, rfl⟩
    unfold f_Vw_wordRead_L2 f_M_readIn_L2
    rw [H.nw, if_pos (by first | omega | (simp (disch := first | assumption | omega) only [↓hp_neg1, hp_l0, hp_l1, hp_l2, hp_l3, hp_l4, hp_l5, hp_l6, hp_l7, hp_l8, hp_l9, hp_l10, hp_l11, hp_l12, hp_l13, hp_l14, hp_l15, hp_l16, hp_l17, hp_l18, hp_l19, hp_l20, hp_l21, hp_l22, hp_l23, hp_l24, hp_l25, hp_l26, hp_l27, hp_l28, hp_l29, hp_l30, hp_l31, hp_l32, hp_l33, hp_l34, hp_l35, hp_l36, hp_l37, hp_l38, hp_l39, hp_l40, hp_l41, hp_l42, hp_l43, hp_l44, hp_l45, hp_l46, hp_l47, hp_l48, hp_l49, hp_l50, hp_l51, hp_l52, hp_l53, hp_l54, hp_l55, hp_l56, hp_l57, hp_l58, hp_l59, hp_l60, hp_l61, hp_l62, hp_l63, hp_l64, hp_l65, hp_l66, hp_l67, hp_l68, hp_l69, hp_l70, hp_l71, hp_l72, hp_l73, hp_l74, hp_l75, hp_l76, hp_l77, hp_l78, hp_l79, hp_l80, hp_l81, hp_l82, hp_l83, hp_l84, hp_l85, hp_l86, hp_l87, hp_l88, hp_l89, hp_l90, hp_l91, hp_l92, hp_l93, hp_l94, hp_l95, hp_l96, hp_l97, hp_l98, hp_l99, hp_l100, hp_l101, hp_l102, hp_l103, hp_l104, hp_l105, hp_l106, hp_l107, hp_l108, hp_l109, hp_l110, hp_l111, hp_l112, hp_l113, hp_l114, hp_l115, hp_l116, hp_l117, hp_l118, hp_l119, hp_l120, hp_l121, hp_l122, hp_l123, hp_l124, hp_l125, hp_l126, hp_l127, hp_l141, hp_l142, hp_l150, hp_l151, hp_l152, hp_l153, hp_l251, hp_l255, hp_l256, hp_l300, hp_l432, hp_l864, hp_l1000, hp_l1600, hp_l1700, hp_l2304, hp_l2916, hp_l3000, hp_l9999, hp_l10000, nI_add, pk_mul, nI_clamp, hl_lt, hl_le, hl_eq, hl_nIb, hl_nsub, hp_eqm, hp_meq, hp_ltm, hp_mlt, hp_lem, hp_mle, hp_addm, hp_meqm, hp_mlem, hp_withinE, hp_within0, if_pos, if_neg, Option.bind_some, hp_let, Sum.elim_inl, Sum.elim_inr, hp_s01, hp_s11, hp_s2, true_and, and_true, if_true, if_false, not_true_eq_false, not_false_eq_true, reduceCtorEq] <;> omega)), hm_wordMany K, Option.bind_some, if_pos (by first | omega | (simp (disch := first | assumption | omega) only [↓hp_neg1, hp_l0, hp_l1, hp_l2, hp_l3, hp_l4, hp_l5, hp_l6, hp_l7, hp_l8, hp_l9, hp_l10, hp_l11, hp_l12, hp_l13, hp_l14, hp_l15, hp_l16, hp_l17, hp_l18, hp_l19, hp_l20, hp_l21, hp_l22, hp_l23, hp_l24, hp_l25, hp_l26, hp_l27, hp_l28, hp_l29, hp_l30, hp_l31, hp_l32, hp_l33, hp_l34, hp_l35, hp_l36, hp_l37, hp_l38, hp_l39, hp_l40, hp_l41, hp_l42, hp_l43, hp_l44, hp_l45, hp_l46, hp_l47, hp_l48, hp_l49, hp_l50, hp_l51, hp_l52, hp_l53, hp_l54, hp_l55, hp_l56, hp_l57, hp_l58, hp_l59, hp_l60, hp_l61, hp_l62, hp_l63, hp_l64, hp_l65, hp_l66, hp_l67, hp_l68, hp_l69, hp_l70, hp_l71, hp_l72, hp_l73, hp_l74, hp_l75, hp_l76, hp_l77, hp_l78, hp_l79, hp_l80, hp_l81, hp_l82, hp_l83, hp_l84, hp_l85, hp_l86, hp_l87, hp_l88, hp_l89, hp_l90, hp_l91, hp_l92, hp_l93, hp_l94, hp_l95, hp_l96, hp_l97, hp_l98, hp_l99, hp_l100, hp_l101, hp_l102, hp_l103, hp_l104, hp_l105, hp_l106, hp_l107, hp_l108, hp_l109, hp_l110, hp_l111, hp_l112, hp_l113, hp_l114, hp_l115, hp_l116, hp_l117, hp_l118, hp_l119, hp_l120, hp_l121, hp_l122, hp_l123, hp_l124, hp_l125, hp_l126, hp_l127, hp_l141, hp_l142, hp_l150, hp_l151, hp_l152, hp_l153, hp_l251, hp_l255, hp_l256, hp_l300, hp_l432, hp_l864, hp_l1000, hp_l1600, hp_l1700, hp_l2304, hp_l2916, hp_l3000, hp_l9999, hp_l10000, nI_add, pk_mul, nI_clamp, hl_lt, hl_le, hl_eq, hl_nIb, hl_nsub, hp_eqm, hp_meq, hp_ltm, hp_mlt, hp_lem, hp_mle, hp_addm, hp_meqm, hp_mlem, hp_withinE, hp_within0, if_pos, if_neg, Option.bind_some, hp_let, Sum.elim_inl, Sum.elim_inr, hp_s01, hp_s11, hp_s2, true_and, and_true, if_true, if_false, not_true_eq_false, not_false_eq_true, reduceCtorEq] <;> omega))]
    exact ⟨_, _, rfl, rfl, rfl, .inl rfl⟩
theorem hp_wg.W3 (h : hp_wg G) (hw : w < G 0 3) : 3 ≤ G 0 0 := by rcases h.1 with ⟨_, _, _, a, _⟩ | ⟨a, _⟩ <;> omega
theorem hp_see0 {f : Nat → Nat} : hp_see G 0 f = f := by funext c; unfold hp_see; rw [if_pos rfl]
/-- a beat looked at and read -/
theorem q_lookRead (H : hx G P σ) (K : hm G P τ) (O : hm_o 1000 1000 0 τ) (hb : b < 100) : ∃ r σ', f_Vw_look (nI b) (-1) σ = some σ' ∧ hx_v (hp_li G P b 1000 1000 0) σ' ∧ hp_fr hx_T σ σ' ∧ f_Vw_wordRead σ' = some r ∧ f_M_readIn (nI b) 0 τ = some r ∧ (r = -1 ∨ ∃ w, w < G 0 3 ∧ r = nI w) := by
  obtain ⟨σ1, e1, V, F⟩ := hx_look H hb (d := 1000) (by omega)
  have L := hm_lit_of K O hb (.inl rfl)
  obtain ⟨r, r1, r2, r3⟩ := q_wordRead (u := 0) (H.fr F (by omega)) K (by omega) L (by rw [hp_see0]; exact V)
  exact ⟨r, σ1, e1, V, hx_T37 F, r1, r2, r3⟩
theorem q_read (H : hx G P σ) (K : hm G P τ) (O : hm_o 1000 1000 0 τ) (v : Int32) (hu : u ≤ 1) : ∃ r σ', f_X_read v (nI u) σ = some (r, σ') ∧ hp_fr hx_T σ σ' ∧ f_M_read v (nI u) τ = some r := by
  unfold f_X_read f_M_read
  rw [hm_isBeat, hp_i100]
  rcases hp_guard v (n := 100) (by decide) with ⟨b, hb, rfl, g1, g2⟩ | ⟨g1, g2, _⟩
  · rw [g1, g2, hp_if1, hp_if1]
    by_cases e : 3 ≤ G 0 0
    · obtain ⟨σ1, e1, V, F⟩ := hx_look2 H hb hu e
      obtain ⟨r, r1, r2, r3⟩ := q_wordRead (u := u) (H.T F) K hu (hm_lit_of K O hb (.inl rfl)) V
      rw [e1, Option.bind_some, r1, r2]
      exact ⟨_, _, rfl, F, rfl⟩
    · have h0 : G 0 0 = 0 ∧ G 0 1 = 0 ∧ G 0 2 = 0 ∧ G 0 3 = 0 := by rcases H.wg.1 with ⟨a, a1, a2, a3, _⟩ | ⟨a, _⟩ <;> omega
      have hrd : ∀ σ', hx G P σ' → f_Vw_wordRead σ' = some (-1) := by
        intro σ' H'
        unfold f_Vw_wordRead
        rw [hp_lpe (.inl ()) (by unfold f_Vw_wordRead_L2; rw [H'.nw, h0.2.2.2]; rfl)]
        rfl
      have hmr : f_M_readIn (nI b) (nI u) τ = some (-1) := by
        unfold f_M_readIn
        rw [hp_lpe (.inl ()) (by unfold f_M_readIn_L2; rw [hm_wordMany K, h0.2.2.2]; rfl)]
        rfl
      obtain ⟨σ1, e1, V, F⟩ := hx_look H hb (d := 1000) (by omega)
      have H1 := H.fr F (by omega)
      unfold f_X_look
      rw [show (-1 : Int32) = hp_o 1000 from rfl, e1, Option.bind_some]
      by_cases e : u = 0
      · subst e
        rw [if_pos (by decide), Option.bind_some, hrd σ1 H1, hmr]
        exact ⟨_, _, rfl, hx_T37 F, rfl⟩
      · rw [if_neg (by first | omega | (simp (disch := first | assumption | omega) only [↓hp_neg1, hp_l0, hp_l1, hp_l2, hp_l3, hp_l4, hp_l5, hp_l6, hp_l7, hp_l8, hp_l9, hp_l10, hp_l11, hp_l12, hp_l13, hp_l14, hp_l15, hp_l16, hp_l17, hp_l18, hp_l19, hp_l20, hp_l21, hp_l22, hp_l23, hp_l24, hp_l25, hp_l26, hp_l27, hp_l28, hp_l29, hp_l30, hp_l31, hp_l32, hp_l33, hp_l34, hp_l35, hp_l36, hp_l37, hp_l38, hp_l39, hp_l40, hp_l41, hp_l42, hp_l43, hp_l44, hp_l45, hp_l46, hp_l47, hp_l48, hp_l49, hp_l50, hp_l51, hp_l52, hp_l53, hp_l54, hp_l55, hp_l56, hp_l57, hp_l58, hp_l59, hp_l60, hp_l61, hp_l62, hp_l63, hp_l64, hp_l65, hp_l66, hp_l67, hp_l68, hp_l69, hp_l70, hp_l71, hp_l72, hp_l73, hp_l74, hp_l75, hp_l76, hp_l77, hp_l78, hp_l79, hp_l80, hp_l81, hp_l82, hp_l83, hp_l84, hp_l85, hp_l86, hp_l87, hp_l88, hp_l89, hp_l90, hp_l91, hp_l92, hp_l93, hp_l94, hp_l95, hp_l96, hp_l97, hp_l98, hp_l99, hp_l100, hp_l101, hp_l102, hp_l103, hp_l104, hp_l105, hp_l106, hp_l107, hp_l108, hp_l109, hp_l110, hp_l111, hp_l112, hp_l113, hp_l114, hp_l115, hp_l116, hp_l117, hp_l118, hp_l119, hp_l120, hp_l121, hp_l122, hp_l123, hp_l124, hp_l125, hp_l126, hp_l127, hp_l141, hp_l142, hp_l150, hp_l151, hp_l152, hp_l153, hp_l251, hp_l255, hp_l256, hp_l300, hp_l432, hp_l864, hp_l1000, hp_l1600, hp_l1700, hp_l2304, hp_l2916, hp_l3000, hp_l9999, hp_l10000, nI_add, pk_mul, nI_clamp, hl_lt, hl_le, hl_eq, hl_nIb, hl_nsub, hp_eqm, hp_meq, hp_ltm, hp_mlt, hp_lem, hp_mle, hp_addm, hp_meqm, hp_mlem, hp_withinE, hp_within0, if_pos, if_neg, Option.bind_some, hp_let, Sum.elim_inl, Sum.elim_inr, hp_s01, hp_s11, hp_s2, true_and, and_true, if_true, if_false, not_true_eq_false, not_false_eq_true, reduceCtorEq] <;> omega))]
        have ht : ∀ (x : Int64) (σ' : hl_M), hx G P σ' → f_Vw_turned x σ' = some 0 := by
          intro x σ' H'
          unfold f_Vw_turned
          rw [hp_lpe (0) (by unfold f_Vw_turned_L18; rw [H'.H, h0.2.1]; rfl)]
          rfl
        have F2 : hp_fr (fun q _ => q = 37) σ1 (hl_sl σ1 37 2 0) := by refine hp_fr.sl hp_fr.rf ?_; rfl
        have H2 := H1.fr F2 (by omega)
        have F3 : hp_fr (fun q _ => q = 37) σ1 (hl_sl (hl_sl σ1 37 2 0) 37 3 0) := F2.sl rfl
        unfold f_Vw_turnOver
        rw [ht _ _ H1, Option.bind_some, ht _ _ H2, Option.bind_some, Option.bind_some, Option.bind_some, hrd _ (H1.fr F3 (by omega)), hmr]
        exact ⟨_, _, rfl, hx_T37 (F.tr F3), rfl⟩
  · rw [g1, g2, hp_if0, hp_if0]
    exact ⟨_, _, rfl, .rf, rfl⟩
theorem q_far (H : hx G P σ) (K : hm G P τ) (O : hm_o 1000 1000 0 τ) (v1 v2 : Int32) (hu : u ≤ 1) : ∃ r σ', f_X_far v1 v2 (nI u) σ = some (r, σ') ∧ hp_fr hx_T σ σ' ∧ f_M_far v1 v2 (nI u) τ = some r := by
  have hnw := H.wg.nw
  unfold f_X_far f_M_far
  rw [hm_isBeat, hp_i100, hm_isWord K, Option.bind_some, H.nw]
  rcases hp_guard v1 (n := 100) (by decide) with ⟨b, hb, rfl, g1, g2⟩ | ⟨g1, g2, _⟩
  · rw [g1, g2, hp_if1, hp_if1]
    rcases hp_guard v2 (n := G 0 3) (by omega) with ⟨w, hw, rfl, k1, k2⟩ | ⟨k1, k2, _⟩
    · rw [k1, k2, hp_if1, hp_if1]
      have L := hm_lit_of K O hb (.inl rfl)
      obtain ⟨σ1, e1, V, F⟩ := hx_look2 H hb hu (H.wg.W3 hw)
      rw [e1, Option.bind_some, hx_far (H.T F) V (fun c => hp_see_le L.2.1) hw, hm_far2 K hu L hw]
      exact ⟨_, _, rfl, F, rfl⟩
    · rw [k1, k2, hp_if0, hp_if0]
      exact ⟨_, _, rfl, .rf, rfl⟩
  · rw [g1, g2, hp_if0, hp_if0]
    exact ⟨_, _, rfl, .rf, rfl⟩
/-! said, between -/
theorem q_said (H : hx G P σ) (K : hm G P τ) (O : hm_o 1000 1000 0 τ) (v : Int32) : ∃ r σ', f_X_said v σ = some (r, σ') ∧ hp_fr hx_T σ σ' ∧ f_M_said v τ = some r := by
  unfold f_X_said f_M_said
  refine hp_simX (b := f_X_said_L4 v) (b' := f_M_said_L4 v τ) (s := (0, 0, σ)) (s' := (0, 0)) 100 (fun k s s' => s.1 = s'.1 ∧ s.2.1 = nI k ∧ s'.2 = nI k ∧ hp_fr hx_T σ s.2.2) (fun e e' => (∃ n υ, e = .inl (n, υ) ∧ e' = .inl n ∧ hp_fr hx_T σ υ) ∨ ∃ n x υ, e = .inr (n, x, υ) ∧ e' = .inr (n, x) ∧ hp_fr hx_T σ υ) (by omega) ⟨rfl, rfl, rfl, .rf⟩ ?_ ?_ ?_
  · rintro e e' h1 h2 h3
    rw [h1, h2]
    simp only [Option.bind_some]
    rcases h3 with ⟨n, υ, rfl, rfl, F⟩ | ⟨n, x, υ, rfl, rfl, F⟩
    · show ∃ r σ', (if v = -1 then some (n, υ) else some (-1, υ)) = some (r, σ') ∧ _ ∧ (if v = -1 then some n else some (-1)) = some r
      by_cases e : v = -1
      · simp only [if_pos e]
        exact ⟨_, _, rfl, F, rfl⟩
      · simp only [if_neg e]
        exact ⟨_, _, rfl, F, rfl⟩
    · exact ⟨_, _, rfl, F, rfl⟩
  · rintro k ⟨n, x, υ⟩ ⟨n', x'⟩ hk ⟨h1, h2, h3, F⟩
    dsimp only at h1 h2 h3 F
    subst h1 h2 h3
    obtain ⟨r, σ', a1, _, F2, a3, a4, _⟩ := q_lookRead (H.T F) K O hk
    unfold f_X_said_L4 f_M_said_L4
    dsimp only
    rw [if_neg (by first | omega | (simp (disch := first | assumption | omega) only [↓hp_neg1, hp_l0, hp_l1, hp_l2, hp_l3, hp_l4, hp_l5, hp_l6, hp_l7, hp_l8, hp_l9, hp_l10, hp_l11, hp_l12, hp_l13, hp_l14, hp_l15, hp_l16, hp_l17, hp_l18, hp_l19, hp_l20, hp_l21, hp_l22, hp_l23, hp_l24, hp_l25, hp_l26, hp_l27, hp_l28, hp_l29, hp_l30, hp_l31, hp_l32, hp_l33, hp_l34, hp_l35, hp_l36, hp_l37, hp_l38, hp_l39, hp_l40, hp_l41, hp_l42, hp_l43, hp_l44, hp_l45, hp_l46, hp_l47, hp_l48, hp_l49, hp_l50, hp_l51, hp_l52, hp_l53, hp_l54, hp_l55, hp_l56, hp_l57, hp_l58, hp_l59, hp_l60, hp_l61, hp_l62, hp_l63, hp_l64, hp_l65, hp_l66, hp_l67, hp_l68, hp_l69, hp_l70, hp_l71, hp_l72, hp_l73, hp_l74, hp_l75, hp_l76, hp_l77, hp_l78, hp_l79, hp_l80, hp_l81, hp_l82, hp_l83, hp_l84, hp_l85, hp_l86, hp_l87, hp_l88, hp_l89, hp_l90, hp_l91, hp_l92, hp_l93, hp_l94, hp_l95, hp_l96, hp_l97, hp_l98, hp_l99, hp_l100, hp_l101, hp_l102, hp_l103, hp_l104, hp_l105, hp_l106, hp_l107, hp_l108, hp_l109, hp_l110, hp_l111, hp_l112, hp_l113, hp_l114, hp_l115, hp_l116, hp_l117, hp_l118, hp_l119, hp_l120, hp_l121, hp_l122, hp_l123, hp_l124, hp_l125, hp_l126, hp_l127, hp_l141, hp_l142, hp_l150, hp_l151, hp_l152, hp_l153, hp_l251, hp_l255, hp_l256, hp_l300, hp_l432, hp_l864, hp_l1000, hp_l1600, hp_l1700, hp_l2304, hp_l2916, hp_l3000, hp_l9999, hp_l10000, nI_add, pk_mul, nI_clamp, hl_lt, hl_le, hl_eq, hl_nIb, hl_nsub, hp_eqm, hp_meq, hp_ltm, hp_mlt, hp_lem, hp_mle, hp_addm, hp_meqm, hp_mlem, hp_withinE, hp_within0, if_pos, if_neg, Option.bind_some, hp_let, Sum.elim_inl, Sum.elim_inr, hp_s01, hp_s11, hp_s2, true_and, and_true, if_true, if_false, not_true_eq_false, not_false_eq_true, reduceCtorEq] <;> omega)), if_neg (by first | omega | (simp (disch := first | assumption | omega) only [↓hp_neg1, hp_l0, hp_l1, hp_l2, hp_l3, hp_l4, hp_l5, hp_l6, hp_l7, hp_l8, hp_l9, hp_l10, hp_l11, hp_l12, hp_l13, hp_l14, hp_l15, hp_l16, hp_l17, hp_l18, hp_l19, hp_l20, hp_l21, hp_l22, hp_l23, hp_l24, hp_l25, hp_l26, hp_l27, hp_l28, hp_l29, hp_l30, hp_l31, hp_l32, hp_l33, hp_l34, hp_l35, hp_l36, hp_l37, hp_l38, hp_l39, hp_l40, hp_l41, hp_l42, hp_l43, hp_l44, hp_l45, hp_l46, hp_l47, hp_l48, hp_l49, hp_l50, hp_l51, hp_l52, hp_l53, hp_l54, hp_l55, hp_l56, hp_l57, hp_l58, hp_l59, hp_l60, hp_l61, hp_l62, hp_l63, hp_l64, hp_l65, hp_l66, hp_l67, hp_l68, hp_l69, hp_l70, hp_l71, hp_l72, hp_l73, hp_l74, hp_l75, hp_l76, hp_l77, hp_l78, hp_l79, hp_l80, hp_l81, hp_l82, hp_l83, hp_l84, hp_l85, hp_l86, hp_l87, hp_l88, hp_l89, hp_l90, hp_l91, hp_l92, hp_l93, hp_l94, hp_l95, hp_l96, hp_l97, hp_l98, hp_l99, hp_l100, hp_l101, hp_l102, hp_l103, hp_l104, hp_l105, hp_l106, hp_l107, hp_l108, hp_l109, hp_l110, hp_l111, hp_l112, hp_l113, hp_l114, hp_l115, hp_l116, hp_l117, hp_l118, hp_l119, hp_l120, hp_l121, hp_l122, hp_l123, hp_l124, hp_l125, hp_l126, hp_l127, hp_l141, hp_l142, hp_l150, hp_l151, hp_l152, hp_l153, hp_l251, hp_l255, hp_l256, hp_l300, hp_l432, hp_l864, hp_l1000, hp_l1600, hp_l1700, hp_l2304, hp_l2916, hp_l3000, hp_l9999, hp_l10000, nI_add, pk_mul, nI_clamp, hl_lt, hl_le, hl_eq, hl_nIb, hl_nsub, hp_eqm, hp_meq, hp_ltm, hp_mlt, hp_lem, hp_mle, hp_addm, hp_meqm, hp_mlem, hp_withinE, hp_within0, if_pos, if_neg, Option.bind_some, hp_let, Sum.elim_inl, Sum.elim_inr, hp_s01, hp_s11, hp_s2, true_and, and_true, if_true, if_false, not_true_eq_false, not_false_eq_true, reduceCtorEq] <;> omega)), a1, Option.bind_some, a3, a4]
    simp only [Option.bind_some, nI_1]
    by_cases e : r = -1
    · simp only [if_pos e]
      exact .inl ⟨_, _, rfl, rfl, rfl, rfl, rfl, F.tr F2⟩
    · simp only [if_neg e]
      by_cases e2 : n = v
      · simp only [if_pos e2]
        exact .inr ⟨_, _, rfl, rfl, .inr ⟨_, _, _, rfl, rfl, F.tr F2⟩⟩
      · simp only [if_neg e2]
        exact .inl ⟨_, _, rfl, rfl, rfl, rfl, rfl, F.tr F2⟩
  · rintro ⟨n, x, υ⟩ ⟨n', x'⟩ ⟨h1, h2, h3, F⟩
    dsimp only at h1 h2 h3 F
    subst h1 h2 h3
    unfold f_X_said_L4 f_M_said_L4
    dsimp only
    rw [if_pos (by first | omega | (simp (disch := first | assumption | omega) only [↓hp_neg1, hp_l0, hp_l1, hp_l2, hp_l3, hp_l4, hp_l5, hp_l6, hp_l7, hp_l8, hp_l9, hp_l10, hp_l11, hp_l12, hp_l13, hp_l14, hp_l15, hp_l16, hp_l17, hp_l18, hp_l19, hp_l20, hp_l21, hp_l22, hp_l23, hp_l24, hp_l25, hp_l26, hp_l27, hp_l28, hp_l29, hp_l30, hp_l31, hp_l32, hp_l33, hp_l34, hp_l35, hp_l36, hp_l37, hp_l38, hp_l39, hp_l40, hp_l41, hp_l42, hp_l43, hp_l44, hp_l45, hp_l46, hp_l47, hp_l48, hp_l49, hp_l50, hp_l51, hp_l52, hp_l53, hp_l54, hp_l55, hp_l56, hp_l57, hp_l58, hp_l59, hp_l60, hp_l61, hp_l62, hp_l63, hp_l64, hp_l65, hp_l66, hp_l67, hp_l68, hp_l69, hp_l70, hp_l71, hp_l72, hp_l73, hp_l74, hp_l75, hp_l76, hp_l77, hp_l78, hp_l79, hp_l80, hp_l81, hp_l82, hp_l83, hp_l84, hp_l85, hp_l86, hp_l87, hp_l88, hp_l89, hp_l90, hp_l91, hp_l92, hp_l93, hp_l94, hp_l95, hp_l96, hp_l97, hp_l98, hp_l99, hp_l100, hp_l101, hp_l102, hp_l103, hp_l104, hp_l105, hp_l106, hp_l107, hp_l108, hp_l109, hp_l110, hp_l111, hp_l112, hp_l113, hp_l114, hp_l115, hp_l116, hp_l117, hp_l118, hp_l119, hp_l120, hp_l121, hp_l122, hp_l123, hp_l124, hp_l125, hp_l126, hp_l127, hp_l141, hp_l142, hp_l150, hp_l151, hp_l152, hp_l153, hp_l251, hp_l255, hp_l256, hp_l300, hp_l432, hp_l864, hp_l1000, hp_l1600, hp_l1700, hp_l2304, hp_l2916, hp_l3000, hp_l9999, hp_l10000, nI_add, pk_mul, nI_clamp, hl_lt, hl_le, hl_eq, hl_nIb, hl_nsub, hp_eqm, hp_meq, hp_ltm, hp_mlt, hp_lem, hp_mle, hp_addm, hp_meqm, hp_mlem, hp_withinE, hp_within0, if_pos, if_neg, Option.bind_some, hp_let, Sum.elim_inl, Sum.elim_inr, hp_s01, hp_s11, hp_s2, true_and, and_true, if_true, if_false, not_true_eq_false, not_false_eq_true, reduceCtorEq] <;> omega)), if_pos (by first | omega | (simp (disch := first | assumption | omega) only [↓hp_neg1, hp_l0, hp_l1, hp_l2, hp_l3, hp_l4, hp_l5, hp_l6, hp_l7, hp_l8, hp_l9, hp_l10, hp_l11, hp_l12, hp_l13, hp_l14, hp_l15, hp_l16, hp_l17, hp_l18, hp_l19, hp_l20, hp_l21, hp_l22, hp_l23, hp_l24, hp_l25, hp_l26, hp_l27, hp_l28, hp_l29, hp_l30, hp_l31, hp_l32, hp_l33, hp_l34, hp_l35, hp_l36, hp_l37, hp_l38, hp_l39, hp_l40, hp_l41, hp_l42, hp_l43, hp_l44, hp_l45, hp_l46, hp_l47, hp_l48, hp_l49, hp_l50, hp_l51, hp_l52, hp_l53, hp_l54, hp_l55, hp_l56, hp_l57, hp_l58, hp_l59, hp_l60, hp_l61, hp_l62, hp_l63, hp_l64, hp_l65, hp_l66, hp_l67, hp_l68, hp_l69, hp_l70, hp_l71, hp_l72, hp_l73, hp_l74, hp_l75, hp_l76, hp_l77, hp_l78, hp_l79, hp_l80, hp_l81, hp_l82, hp_l83, hp_l84, hp_l85, hp_l86, hp_l87, hp_l88, hp_l89, hp_l90, hp_l91, hp_l92, hp_l93, hp_l94, hp_l95, hp_l96, hp_l97, hp_l98, hp_l99, hp_l100, hp_l101, hp_l102, hp_l103, hp_l104, hp_l105, hp_l106, hp_l107, hp_l108, hp_l109, hp_l110, hp_l111, hp_l112, hp_l113, hp_l114, hp_l115, hp_l116, hp_l117, hp_l118, hp_l119, hp_l120, hp_l121, hp_l122, hp_l123, hp_l124, hp_l125, hp_l126, hp_l127, hp_l141, hp_l142, hp_l150, hp_l151, hp_l152, hp_l153, hp_l251, hp_l255, hp_l256, hp_l300, hp_l432, hp_l864, hp_l1000, hp_l1600, hp_l1700, hp_l2304, hp_l2916, hp_l3000, hp_l9999, hp_l10000, nI_add, pk_mul, nI_clamp, hl_lt, hl_le, hl_eq, hl_nIb, hl_nsub, hp_eqm, hp_meq, hp_ltm, hp_mlt, hp_lem, hp_mle, hp_addm, hp_meqm, hp_mlem, hp_withinE, hp_within0, if_pos, if_neg, Option.bind_some, hp_let, Sum.elim_inl, Sum.elim_inr, hp_s01, hp_s11, hp_s2, true_and, and_true, if_true, if_false, not_true_eq_false, not_false_eq_true, reduceCtorEq] <;> omega))]
    exact ⟨_, _, rfl, rfl, .inl ⟨_, _, rfl, rfl, F⟩⟩
theorem q_between (H : hx G P σ) (K : hm G P τ) (O : hm_o 1000 1000 0 τ) (v1 v2 : Int32) : ∃ r σ', f_X_between v1 v2 σ = some (r, σ') ∧ hp_fr hx_T σ σ' ∧ f_M_between v1 v2 τ = some r := by
  unfold f_X_between f_M_between
  rw [hm_isBeat, hm_isBeat, hp_i100]
  rcases hp_guard v1 (n := 100) (by decide) with ⟨a, ha, rfl, g1, g2⟩ | ⟨g1, g2, _⟩
  · rw [g1, g2, hp_if1, hp_if1]
    rcases hp_guard v2 (n := 100) (by decide) with ⟨b, hb, rfl, k1, k2⟩ | ⟨k1, k2, _⟩
    · rw [k1, k2, hp_if1, hp_if1]
      by_cases e : a ≤ b
      · have e' : nI a ≤ nI b := nI_le e (by omega)
        simp only [if_pos e', nI_1]
        refine hp_simX (b := f_X_between_L32 (nI b)) (b' := f_M_between_L28 (nI b) τ) (s := (0, nI (a + 1), σ)) (s' := (0, nI (a + 1))) (b - (a + 1)) (fun k s s' => s.1 = s'.1 ∧ s.2.1 = nI (a + 1 + k) ∧ s'.2 = nI (a + 1 + k) ∧ hp_fr hx_T σ s.2.2) (fun e e' => e.1 = e' ∧ hp_fr hx_T σ e.2) (by omega) ⟨rfl, rfl, rfl, .rf⟩ ?_ ?_ ?_
        · rintro ⟨n, υ⟩ n' h1 h2 ⟨rfl, F⟩
          rw [h1, h2]
          exact ⟨_, _, rfl, F, rfl⟩
        · rintro k ⟨n, x, υ⟩ ⟨n', x'⟩ hk ⟨h1, h2, h3, F⟩
          dsimp only at h1 h2 h3 F
          subst h1 h2 h3
          obtain ⟨r, σ', a1, _, F2, a3, a4, _⟩ := q_lookRead (b := a + 1 + k) (H.T F) K O (by omega)
          unfold f_X_between_L32 f_M_between_L28
          dsimp only
          rw [if_neg (by first | omega | (simp (disch := first | assumption | omega) only [↓hp_neg1, hp_l0, hp_l1, hp_l2, hp_l3, hp_l4, hp_l5, hp_l6, hp_l7, hp_l8, hp_l9, hp_l10, hp_l11, hp_l12, hp_l13, hp_l14, hp_l15, hp_l16, hp_l17, hp_l18, hp_l19, hp_l20, hp_l21, hp_l22, hp_l23, hp_l24, hp_l25, hp_l26, hp_l27, hp_l28, hp_l29, hp_l30, hp_l31, hp_l32, hp_l33, hp_l34, hp_l35, hp_l36, hp_l37, hp_l38, hp_l39, hp_l40, hp_l41, hp_l42, hp_l43, hp_l44, hp_l45, hp_l46, hp_l47, hp_l48, hp_l49, hp_l50, hp_l51, hp_l52, hp_l53, hp_l54, hp_l55, hp_l56, hp_l57, hp_l58, hp_l59, hp_l60, hp_l61, hp_l62, hp_l63, hp_l64, hp_l65, hp_l66, hp_l67, hp_l68, hp_l69, hp_l70, hp_l71, hp_l72, hp_l73, hp_l74, hp_l75, hp_l76, hp_l77, hp_l78, hp_l79, hp_l80, hp_l81, hp_l82, hp_l83, hp_l84, hp_l85, hp_l86, hp_l87, hp_l88, hp_l89, hp_l90, hp_l91, hp_l92, hp_l93, hp_l94, hp_l95, hp_l96, hp_l97, hp_l98, hp_l99, hp_l100, hp_l101, hp_l102, hp_l103, hp_l104, hp_l105, hp_l106, hp_l107, hp_l108, hp_l109, hp_l110, hp_l111, hp_l112, hp_l113, hp_l114, hp_l115, hp_l116, hp_l117, hp_l118, hp_l119, hp_l120, hp_l121, hp_l122, hp_l123, hp_l124, hp_l125, hp_l126, hp_l127, hp_l141, hp_l142, hp_l150, hp_l151, hp_l152, hp_l153, hp_l251, hp_l255, hp_l256, hp_l300, hp_l432, hp_l864, hp_l1000, hp_l1600, hp_l1700, hp_l2304, hp_l2916, hp_l3000, hp_l9999, hp_l10000, nI_add, pk_mul, nI_clamp, hl_lt, hl_le, hl_eq, hl_nIb, hl_nsub, hp_eqm, hp_meq, hp_ltm, hp_mlt, hp_lem, hp_mle, hp_addm, hp_meqm, hp_mlem, hp_withinE, hp_within0, if_pos, if_neg, Option.bind_some, hp_let, Sum.elim_inl, Sum.elim_inr, hp_s01, hp_s11, hp_s2, true_and, and_true, if_true, if_false, not_true_eq_false, not_false_eq_true, reduceCtorEq] <;> omega)), if_neg (by first | omega | (simp (disch := first | assumption | omega) only [↓hp_neg1, hp_l0, hp_l1, hp_l2, hp_l3, hp_l4, hp_l5, hp_l6, hp_l7, hp_l8, hp_l9, hp_l10, hp_l11, hp_l12, hp_l13, hp_l14, hp_l15, hp_l16, hp_l17, hp_l18, hp_l19, hp_l20, hp_l21, hp_l22, hp_l23, hp_l24, hp_l25, hp_l26, hp_l27, hp_l28, hp_l29, hp_l30, hp_l31, hp_l32, hp_l33, hp_l34, hp_l35, hp_l36, hp_l37, hp_l38, hp_l39, hp_l40, hp_l41, hp_l42, hp_l43, hp_l44, hp_l45, hp_l46, hp_l47, hp_l48, hp_l49, hp_l50, hp_l51, hp_l52, hp_l53, hp_l54, hp_l55, hp_l56, hp_l57, hp_l58, hp_l59, hp_l60, hp_l61, hp_l62, hp_l63, hp_l64, hp_l65, hp_l66, hp_l67, hp_l68, hp_l69, hp_l70, hp_l71, hp_l72, hp_l73, hp_l74, hp_l75, hp_l76, hp_l77, hp_l78, hp_l79, hp_l80, hp_l81, hp_l82, hp_l83, hp_l84, hp_l85, hp_l86, hp_l87, hp_l88, hp_l89, hp_l90, hp_l91, hp_l92, hp_l93, hp_l94, hp_l95, hp_l96, hp_l97, hp_l98, hp_l99, hp_l100, hp_l101, hp_l102, hp_l103, hp_l104, hp_l105, hp_l106, hp_l107, hp_l108, hp_l109, hp_l110, hp_l111, hp_l112, hp_l113, hp_l114, hp_l115, hp_l116, hp_l117, hp_l118, hp_l119, hp_l120, hp_l121, hp_l122, hp_l123, hp_l124, hp_l125, hp_l126, hp_l127, hp_l141, hp_l142, hp_l150, hp_l151, hp_l152, hp_l153, hp_l251, hp_l255, hp_l256, hp_l300, hp_l432, hp_l864, hp_l1000, hp_l1600, hp_l1700, hp_l2304, hp_l2916, hp_l3000, hp_l9999, hp_l10000, nI_add, pk_mul, nI_clamp, hl_lt, hl_le, hl_eq, hl_nIb, hl_nsub, hp_eqm, hp_meq, hp_ltm, hp_mlt, hp_lem, hp_mle, hp_addm, hp_meqm, hp_mlem, hp_withinE, hp_within0, if_pos, if_neg, Option.bind_some, hp_let, Sum.elim_inl, Sum.elim_inr, hp_s01, hp_s11, hp_s2, true_and, and_true, if_true, if_false, not_true_eq_false, not_false_eq_true, reduceCtorEq] <;> omega)), a1, Option.bind_some, a3, a4]
          simp only [Option.bind_some, nI_1]
          by_cases e : r = -1
          · simp only [if_pos e]
            exact .inl ⟨_, _, rfl, rfl, rfl, rfl, rfl, F.tr F2⟩
          · simp only [if_neg e]
            exact .inl ⟨_, _, rfl, rfl, rfl, rfl, rfl, F.tr F2⟩
        · rintro ⟨n, x, υ⟩ ⟨n', x'⟩ ⟨h1, h2, h3, F⟩
          dsimp only at h1 h2 h3 F
          subst h1 h2 h3
          unfold f_X_between_L32 f_M_between_L28
          dsimp only
          rw [if_pos (by first | omega | (simp (disch := first | assumption | omega) only [↓hp_neg1, hp_l0, hp_l1, hp_l2, hp_l3, hp_l4, hp_l5, hp_l6, hp_l7, hp_l8, hp_l9, hp_l10, hp_l11, hp_l12, hp_l13, hp_l14, hp_l15, hp_l16, hp_l17, hp_l18, hp_l19, hp_l20, hp_l21, hp_l22, hp_l23, hp_l24, hp_l25, hp_l26, hp_l27, hp_l28, hp_l29, hp_l30, hp_l31, hp_l32, hp_l33, hp_l34, hp_l35, hp_l36, hp_l37, hp_l38, hp_l39, hp_l40, hp_l41, hp_l42, hp_l43, hp_l44, hp_l45, hp_l46, hp_l47, hp_l48, hp_l49, hp_l50, hp_l51, hp_l52, hp_l53, hp_l54, hp_l55, hp_l56, hp_l57, hp_l58, hp_l59, hp_l60, hp_l61, hp_l62, hp_l63, hp_l64, hp_l65, hp_l66, hp_l67, hp_l68, hp_l69, hp_l70, hp_l71, hp_l72, hp_l73, hp_l74, hp_l75, hp_l76, hp_l77, hp_l78, hp_l79, hp_l80, hp_l81, hp_l82, hp_l83, hp_l84, hp_l85, hp_l86, hp_l87, hp_l88, hp_l89, hp_l90, hp_l91, hp_l92, hp_l93, hp_l94, hp_l95, hp_l96, hp_l97, hp_l98, hp_l99, hp_l100, hp_l101, hp_l102, hp_l103, hp_l104, hp_l105, hp_l106, hp_l107, hp_l108, hp_l109, hp_l110, hp_l111, hp_l112, hp_l113, hp_l114, hp_l115, hp_l116, hp_l117, hp_l118, hp_l119, hp_l120, hp_l121, hp_l122, hp_l123, hp_l124, hp_l125, hp_l126, hp_l127, hp_l141, hp_l142, hp_l150, hp_l151, hp_l152, hp_l153, hp_l251, hp_l255, hp_l256, hp_l300, hp_l432, hp_l864, hp_l1000, hp_l1600, hp_l1700, hp_l2304, hp_l2916, hp_l3000, hp_l9999, hp_l10000, nI_add, pk_mul, nI_clamp, hl_lt, hl_le, hl_eq, hl_nIb, hl_nsub, hp_eqm, hp_meq, hp_ltm, hp_mlt, hp_lem, hp_mle, hp_addm, hp_meqm, hp_mlem, hp_withinE, hp_within0, if_pos, if_neg, Option.bind_some, hp_let, Sum.elim_inl, Sum.elim_inr, hp_s01, hp_s11, hp_s2, true_and, and_true, if_true, if_false, not_true_eq_false, not_false_eq_true, reduceCtorEq] <;> omega)), if_pos (by first | omega | (simp (disch := first | assumption | omega) only [↓hp_neg1, hp_l0, hp_l1, hp_l2, hp_l3, hp_l4, hp_l5, hp_l6, hp_l7, hp_l8, hp_l9, hp_l10, hp_l11, hp_l12, hp_l13, hp_l14, hp_l15, hp_l16, hp_l17, hp_l18, hp_l19, hp_l20, hp_l21, hp_l22, hp_l23, hp_l24, hp_l25, hp_l26, hp_l27, hp_l28, hp_l29, hp_l30, hp_l31, hp_l32, hp_l33, hp_l34, hp_l35, hp_l36, hp_l37, hp_l38, hp_l39, hp_l40, hp_l41, hp_l42, hp_l43, hp_l44, hp_l45, hp_l46, hp_l47, hp_l48, hp_l49, hp_l50, hp_l51, hp_l52, hp_l53, hp_l54, hp_l55, hp_l56, hp_l57, hp_l58, hp_l59, hp_l60, hp_l61, hp_l62, hp_l63, hp_l64, hp_l65, hp_l66, hp_l67, hp_l68, hp_l69, hp_l70, hp_l71, hp_l72, hp_l73, hp_l74, hp_l75, hp_l76, hp_l77, hp_l78, hp_l79, hp_l80, hp_l81, hp_l82, hp_l83, hp_l84, hp_l85, hp_l86, hp_l87, hp_l88, hp_l89, hp_l90, hp_l91, hp_l92, hp_l93, hp_l94, hp_l95, hp_l96, hp_l97, hp_l98, hp_l99, hp_l100, hp_l101, hp_l102, hp_l103, hp_l104, hp_l105, hp_l106, hp_l107, hp_l108, hp_l109, hp_l110, hp_l111, hp_l112, hp_l113, hp_l114, hp_l115, hp_l116, hp_l117, hp_l118, hp_l119, hp_l120, hp_l121, hp_l122, hp_l123, hp_l124, hp_l125, hp_l126, hp_l127, hp_l141, hp_l142, hp_l150, hp_l151, hp_l152, hp_l153, hp_l251, hp_l255, hp_l256, hp_l300, hp_l432, hp_l864, hp_l1000, hp_l1600, hp_l1700, hp_l2304, hp_l2916, hp_l3000, hp_l9999, hp_l10000, nI_add, pk_mul, nI_clamp, hl_lt, hl_le, hl_eq, hl_nIb, hl_nsub, hp_eqm, hp_meq, hp_ltm, hp_mlt, hp_lem, hp_mle, hp_addm, hp_meqm, hp_mlem, hp_withinE, hp_within0, if_pos, if_neg, Option.bind_some, hp_let, Sum.elim_inl, Sum.elim_inr, hp_s01, hp_s11, hp_s2, true_and, and_true, if_true, if_false, not_true_eq_false, not_false_eq_true, reduceCtorEq] <;> omega))]
          exact ⟨_, _, rfl, rfl, rfl, F⟩
      · have e' : ¬ nI a ≤ nI b := nI_ge (by omega) (by omega)
        simp only [if_neg e']
        exact ⟨_, _, rfl, .rf, rfl⟩
    · rw [k1, k2, hp_if0, hp_if0]
      exact ⟨_, _, rfl, .rf, rfl⟩
  · rw [g1, g2, hp_if0, hp_if0]
    exact ⟨_, _, rfl, .rf, rfl⟩
end WO
