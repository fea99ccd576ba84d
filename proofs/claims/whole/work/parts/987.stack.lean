/-! questions: the model's stack, its loops -/
section STACK
variable {σ τ υ : hl_M} {C W pd : List Nat} {v o bs k w x br : Nat}
theorem hm_isOn (H : hm_q C (x :: W) o bs τ) (hx : x < 1000) (hv : v < 1000) (hW : W.length < 1700) : f_M_qIsOn (nI v) τ = some (if x = v then 1 else 0) := by
  obtain ⟨h1, h2, h3, h4⟩ := H.pop
  have n1 : ¬ nI (W.length + 1) ≤ 0 := by first | omega | (simp (disch := first | assumption | omega) only [↓hp_neg1, hp_l0, hp_l1, hp_l2, hp_l3, hp_l4, hp_l5, hp_l6, hp_l7, hp_l8, hp_l9, hp_l10, hp_l11, hp_l12, hp_l13, hp_l14, hp_l15, hp_l16, hp_l17, hp_l18, hp_l19, hp_l20, hp_l21, hp_l22, hp_l23, hp_l24, hp_l25, hp_l26, hp_l27, hp_l28, hp_l29, hp_l30, hp_l31, hp_l32, hp_l33, hp_l34, hp_l35, hp_l36, hp_l37, hp_l38, hp_l39, hp_l40, hp_l41, hp_l42, hp_l43, hp_l44, hp_l45, hp_l46, hp_l47, hp_l48, hp_l49, hp_l50, hp_l51, hp_l52, hp_l53, hp_l54, hp_l55, hp_l56, hp_l57, hp_l58, hp_l59, hp_l60, hp_l61, hp_l62, hp_l63, hp_l64, hp_l65, hp_l66, hp_l67, hp_l68, hp_l69, hp_l70, hp_l71, hp_l72, hp_l73, hp_l74, hp_l75, hp_l76, hp_l77, hp_l78, hp_l79, hp_l80, hp_l81, hp_l82, hp_l83, hp_l84, hp_l85, hp_l86, hp_l87, hp_l88, hp_l89, hp_l90, hp_l91, hp_l92, hp_l93, hp_l94, hp_l95, hp_l96, hp_l97, hp_l98, hp_l99, hp_l100, hp_l101, hp_l102, hp_l103, hp_l104, hp_l105, hp_l106, hp_l107, hp_l108, hp_l109, hp_l110, hp_l111, hp_l112, hp_l113, hp_l114, hp_l115, hp_l116, hp_l117, hp_l118, hp_l119, hp_l120, hp_l121, hp_l122, hp_l123, hp_l124, hp_l125, hp_l126, hp_l127, hp_l141, hp_l142, hp_l150, hp_l151, hp_l152, hp_l153, hp_l251, hp_l255, hp_l256, hp_l300, hp_l432, hp_l864, hp_l1000, hp_l1600, hp_l1700, hp_l2304, hp_l2916, hp_l3000, hp_l9999, hp_l10000, nI_add, pk_mul, nI_clamp, hl_lt, hl_le, hl_eq, hl_nIb, hl_nsub, hp_eqm, hp_meq, hp_ltm, hp_mlt, hp_lem, hp_mle, hp_addm, hp_meqm, hp_mlem, hp_withinE, hp_within0, if_pos, if_neg, Option.bind_some, hp_let, Sum.elim_inl, Sum.elim_inr, hp_s01, hp_s11, hp_s2, true_and, and_true, if_true, if_false, not_true_eq_false, not_false_eq_true, reduceCtorEq] <;> omega)
  have hb : hl_b (nI W.length) 1700 := (hl_nIb (by omega)).mpr hW
  have q : nI x = nI v ↔ x = v := hl_eq (by omega) (by omega)
  unfold f_M_qIsOn
  rw [h3, h4, if_neg n1, if_pos hb, nI_clamp (by omega), h2]
  by_cases e : x = v
  · rw [if_pos e, if_pos (q.mpr e)]
  · rw [if_neg e, if_neg (fun z => e (q.mp z))]
theorem hm_isOn0 (H : hm_q C [] o bs τ) (c : Int32) : f_M_qIsOn c τ = some 0 := by
  have h : τ.1 64 74 = nI 0 := H.2.1.1
  unfold f_M_qIsOn
  rw [h, if_pos (by decide)]
/-- a loop that drops -/
theorem hm_dl {body : hl_M → Option (hl_M ⊕ hl_M)} {o bs : Nat} {P : Nat → Prop} {W : List Nat} (hs : ∀ τ C x W', τ.1 64 5 = 0 → hm_q C (x :: W') o bs τ → W.length ≤ W'.length → W'.length < 1700 → P x → ∀ τ', f_M_qDrops τ = some τ' → body τ = some (.inl τ')) (he : ∀ τ C, τ.1 64 5 = 0 → hm_q C W o bs τ → W.length < 1700 → body τ = some (.inr τ)) : ∀ pd τ C f, (∀ x ∈ pd, P x) → τ.1 64 5 = 0 → hm_q C (pd ++ W) o bs τ → C.length + pd.length < 1700 → pd.length + W.length < 1700 → pd.length + 1 ≤ f → ∃ τ', hl_lp body f τ = some τ' ∧ hp_fr hm_QF τ τ' ∧ hm_q (C ++ pd) W o bs τ' := by
  intro pd
  induction pd with
  | nil =>
    intro τ C f _ h5 H _ h3 hf
    obtain ⟨g, rfl⟩ : ∃ g, f = g + 1 := ⟨f - 1, by simp at hf; omega⟩
    rw [List.append_nil]
    rw [List.nil_append] at H
    refine ⟨τ, hl_lp_e (he τ C h5 H (by simp at h3; omega)), .rf, H⟩
  | cons x pd ih =>
    intro τ C f hP h5 H hC hW hf
    rw [List.length_cons] at hC hW hf
    obtain ⟨g, rfl⟩ : ∃ g, f = g + 1 := ⟨f - 1, by omega⟩
    rw [List.cons_append] at H
    have hl : (pd ++ W).length = pd.length + W.length := List.length_append
    obtain ⟨τ1, r1, r2, r3⟩ := hm_drop H (by omega) (by omega)
    have e := hs τ C x (pd ++ W) h5 H (by omega) (by omega) (hP x (by simp)) τ1 r1
    obtain ⟨τ', s1, s2, s3⟩ := ih τ1 (C ++ [x]) g (fun y hy => hP y (by simp [hy])) (by rw [r2.i (by unfold hm_QF; omega)]; exact h5) r3 (by rw [hp_len1]; omega) (by omega) (by omega)
    rw [hl_lp_s e]
    refine ⟨τ', s1, r2.tr s2, ?_⟩
    rw [List.append_assoc] at s3
    exact s3
def hq_hd (W : List Nat) (P : Nat → Prop) : Prop := ∀ x W', W = x :: W' → P x ∧ x < 1000
theorem hm_L162 {v : Int32} (hW : hq_hd W (fun x => x ≠ 3 ∧ x ≠ 4)) (hP : ∀ x ∈ pd, x = 3 ∨ x = 4) (h5 : τ.1 64 5 = 0) (H : hm_q C (pd ++ W) o bs τ) (h1 : C.length + pd.length < 1700) (h2 : pd.length + W.length < 1700) : ∃ τ', hl_lp (f_M_qGoesOn_L162 v) hl_big τ = some τ' ∧ hp_fr hm_QF τ τ' ∧ hm_q (C ++ pd) W o bs τ' := by
  refine hm_dl (P := fun x => x = 3 ∨ x = 4) (body := f_M_qGoesOn_L162 v) (o := o) (bs := bs) (W := W) ?_ ?_ pd τ C hl_big hP h5 H h1 h2 (by unfold hl_big; omega)
  · intro τ C x W' h5 H hl hw hx τ' hd
    unfold f_M_qGoesOn_L162 f_M_qGoesOn_j178
    rw [show (3 : Int32) = nI 3 from rfl, show (4 : Int32) = nI 4 from rfl, hm_isOn H (by omega) (by omega) hw, hm_isOn H (by omega) (by omega) hw, Option.bind_some, Option.bind_some, hd, Option.bind_some]
    rcases hx with rfl | rfl
    · rfl
    · rfl
  · intro τ C h5 H hw
    unfold f_M_qGoesOn_L162
    cases W with
    | nil => rw [hm_isOn0 H, Option.bind_some, if_pos rfl, hm_isOn0 H, Option.bind_some, if_pos rfl]
    | cons x W' =>
      rw [List.length_cons] at hw
      obtain ⟨⟨a1, a2⟩, a3⟩ := hW x W' rfl
      rw [show (3 : Int32) = nI 3 from rfl, show (4 : Int32) = nI 4 from rfl, hm_isOn H (by omega) (by omega) (by omega), hm_isOn H (by omega) (by omega) (by omega), if_neg a1, if_neg a2, Option.bind_some, if_pos rfl, Option.bind_some, if_pos rfl]
theorem hm_L247 {v : Int32} (hW : hq_hd W (fun x => 5 ≤ x)) (hP : ∀ x ∈ pd, 1 ≤ x ∧ x ≤ 4) (h5 : τ.1 64 5 = 0) (H : hm_q C (pd ++ W) o bs τ) (h1 : C.length + pd.length < 1700) (h2 : pd.length + W.length < 1700) : ∃ τ', hl_lp (f_M_qGoesOn_L247 v) hl_big τ = some τ' ∧ hp_fr hm_QF τ τ' ∧ hm_q (C ++ pd) W o bs τ' := by
  refine hm_dl (P := fun x => 1 ≤ x ∧ x ≤ 4) (body := f_M_qGoesOn_L247 v) (o := o) (bs := bs) (W := W) ?_ ?_ pd τ C hl_big hP h5 H h1 h2 (by unfold hl_big; omega)
  · intro τ C x W' h5 H hl hw hx τ' hd
    unfold f_M_qGoesOn_L247 f_M_qGoesOn_j279
    rw [show (1 : Int32) = nI 1 from rfl, show (2 : Int32) = nI 2 from rfl, show (3 : Int32) = nI 3 from rfl, show (4 : Int32) = nI 4 from rfl, hm_isOn H (by omega) (by omega) hw, hm_isOn H (by omega) (by omega) hw, hm_isOn H (by omega) (by omega) hw, hm_isOn H (by omega) (by omega) hw, Option.bind_some, Option.bind_some, Option.bind_some, Option.bind_some, hd, Option.bind_some]
    have : x = 1 ∨ x = 2 ∨ x = 3 ∨ x = 4 := by omega
    rcases this with rfl | rfl | rfl | rfl
    · rfl
    · rfl
    · rfl
    · rfl
  · intro τ C h5 H hw
    unfold f_M_qGoesOn_L247
    cases W with
    | nil => rw [hm_isOn0 H, Option.bind_some, if_pos rfl, hm_isOn0 H, Option.bind_some, if_pos rfl, hm_isOn0 H, Option.bind_some, if_pos rfl, hm_isOn0 H, Option.bind_some, if_pos rfl]
    | cons x W' =>
      rw [List.length_cons] at hw
      obtain ⟨a1, a3⟩ := hW x W' rfl
      rw [show (1 : Int32) = nI 1 from rfl, show (2 : Int32) = nI 2 from rfl, show (3 : Int32) = nI 3 from rfl, show (4 : Int32) = nI 4 from rfl, hm_isOn H (by omega) (by omega) (by omega), hm_isOn H (by omega) (by omega) (by omega), hm_isOn H (by omega) (by omega) (by omega), hm_isOn H (by omega) (by omega) (by omega), if_neg (show ¬ x = 1 by omega), if_neg (show ¬ x = 2 by omega), if_neg (show ¬ x = 3 by omega), if_neg (show ¬ x = 4 by omega), Option.bind_some, if_pos rfl, Option.bind_some, if_pos rfl, Option.bind_some, if_pos rfl, Option.bind_some, if_pos rfl]
theorem hm_isB (hx : x < 1000) : f_M_qIsBracket (nI x) = if 20 ≤ x ∧ x ≤ 24 then 1 else 0 := by
  have q1 : nI x < (20 : Int32) ↔ x < 20 := hl_lt (b := 20) (by omega) (by omega)
  have q2 : (24 : Int32) < nI x ↔ 24 < x := hl_lt (a := 24) (by omega) (by omega)
  unfold f_M_qIsBracket
  by_cases e1 : x < 20
  · rw [if_pos (q1.mpr e1), if_neg (by omega)]
  · rw [if_neg (fun z => e1 (q1.mp z))]
    by_cases e2 : 24 < x
    · rw [if_pos (q2.mpr e2), if_neg (by omega)]
    · rw [if_neg (fun z => e2 (q2.mp z)), if_pos (by omega)]
/-- above a bracket, or above the base -/
def hq_ctx (W : List Nat) (bs : Nat) : Prop := (W.length = bs ∧ hq_hd W (fun x => 10 ≤ x)) ∨ ∃ br W', W = br :: W' ∧ 20 ≤ br ∧ br ≤ 24 ∧ bs ≤ W'.length
theorem hq_ctx.hd (h : hq_ctx W bs) : hq_hd W (fun x => 5 ≤ x) := by
  rcases h with ⟨_, h⟩ | ⟨br, W', rfl, h1, h2, _⟩
  · exact fun x W' e => ⟨by have := (h x W' e).1; omega, (h x W' e).2⟩
  · intro x V e
    injection e with e1 e2
    omega
theorem hm_dropsTo (hc : hq_ctx W bs) (hP : ∀ x ∈ pd, 1 ≤ x ∧ x ≤ 4) (h5 : τ.1 64 5 = 0) (H : hm_q C (pd ++ W) o bs τ) (h1 : C.length + pd.length < 1700) (h2 : pd.length + W.length < 1700) (hb : bs ≤ W.length) : ∃ τ', f_M_qDropsToBracket τ = some τ' ∧ hp_fr hm_QF τ τ' ∧ hm_q (C ++ pd) W o bs τ' := by
  obtain ⟨τ', r1, r2, r3⟩ := hm_dl (P := fun x => 1 ≤ x ∧ x ≤ 4) (body := f_M_qDropsToBracket_L0) (o := o) (bs := bs) (W := W) (fun τ C x W' h5 H hl hw hx τ' hd => by
    obtain ⟨g1, g2, g3, g4⟩ := H.pop
    have n1 : ¬ nI (W'.length + 1) ≤ nI bs := by first | omega | (simp (disch := first | assumption | omega) only [↓hp_neg1, hp_l0, hp_l1, hp_l2, hp_l3, hp_l4, hp_l5, hp_l6, hp_l7, hp_l8, hp_l9, hp_l10, hp_l11, hp_l12, hp_l13, hp_l14, hp_l15, hp_l16, hp_l17, hp_l18, hp_l19, hp_l20, hp_l21, hp_l22, hp_l23, hp_l24, hp_l25, hp_l26, hp_l27, hp_l28, hp_l29, hp_l30, hp_l31, hp_l32, hp_l33, hp_l34, hp_l35, hp_l36, hp_l37, hp_l38, hp_l39, hp_l40, hp_l41, hp_l42, hp_l43, hp_l44, hp_l45, hp_l46, hp_l47, hp_l48, hp_l49, hp_l50, hp_l51, hp_l52, hp_l53, hp_l54, hp_l55, hp_l56, hp_l57, hp_l58, hp_l59, hp_l60, hp_l61, hp_l62, hp_l63, hp_l64, hp_l65, hp_l66, hp_l67, hp_l68, hp_l69, hp_l70, hp_l71, hp_l72, hp_l73, hp_l74, hp_l75, hp_l76, hp_l77, hp_l78, hp_l79, hp_l80, hp_l81, hp_l82, hp_l83, hp_l84, hp_l85, hp_l86, hp_l87, hp_l88, hp_l89, hp_l90, hp_l91, hp_l92, hp_l93, hp_l94, hp_l95, hp_l96, hp_l97, hp_l98, hp_l99, hp_l100, hp_l101, hp_l102, hp_l103, hp_l104, hp_l105, hp_l106, hp_l107, hp_l108, hp_l109, hp_l110, hp_l111, hp_l112, hp_l113, hp_l114, hp_l115, hp_l116, hp_l117, hp_l118, hp_l119, hp_l120, hp_l121, hp_l122, hp_l123, hp_l124, hp_l125, hp_l126, hp_l127, hp_l141, hp_l142, hp_l150, hp_l151, hp_l152, hp_l153, hp_l251, hp_l255, hp_l256, hp_l300, hp_l432, hp_l864, hp_l1000, hp_l1600, hp_l1700, hp_l2304, hp_l2916, hp_l3000, hp_l9999, hp_l10000, nI_add, pk_mul, nI_clamp, hl_lt, hl_le, hl_eq, hl_nIb, hl_nsub, hp_eqm, hp_meq, hp_ltm, hp_mlt, hp_lem, hp_mle, hp_addm, hp_meqm, hp_mlem, hp_withinE, hp_within0, if_pos, if_neg, Option.bind_some, hp_let, Sum.elim_inl, Sum.elim_inr, hp_s01, hp_s11, hp_s2, true_and, and_true, if_true, if_false, not_true_eq_false, not_false_eq_true, reduceCtorEq] <;> omega)
    have hb : hl_b (nI W'.length) 1700 := (hl_nIb (by omega)).mpr hw
    unfold f_M_qDropsToBracket_L0
    rw [g3, g4, H.2.2.2, if_neg n1, if_pos hb, nI_clamp (by omega), g2, hm_isB (by omega), if_neg (show ¬ (20 ≤ x ∧ x ≤ 24) by omega), if_pos rfl, hd, Option.bind_some]) (fun τ C h5 H hw => by
    unfold f_M_qDropsToBracket_L0
    rcases hc with ⟨h, _⟩ | ⟨br, W', rfl, b1, b2, b3⟩
    · have hl : τ.1 64 74 = nI W.length := H.2.1.1
      rw [hl, H.2.2.2, if_pos (by rw [h]; exact nI_le (Nat.le_refl _) (by omega))]
    · obtain ⟨g1, g2, g3, g4⟩ := H.pop
      rw [List.length_cons] at hw
      have n1 : ¬ nI (W'.length + 1) ≤ nI bs := by first | omega | (simp (disch := first | assumption | omega) only [↓hp_neg1, hp_l0, hp_l1, hp_l2, hp_l3, hp_l4, hp_l5, hp_l6, hp_l7, hp_l8, hp_l9, hp_l10, hp_l11, hp_l12, hp_l13, hp_l14, hp_l15, hp_l16, hp_l17, hp_l18, hp_l19, hp_l20, hp_l21, hp_l22, hp_l23, hp_l24, hp_l25, hp_l26, hp_l27, hp_l28, hp_l29, hp_l30, hp_l31, hp_l32, hp_l33, hp_l34, hp_l35, hp_l36, hp_l37, hp_l38, hp_l39, hp_l40, hp_l41, hp_l42, hp_l43, hp_l44, hp_l45, hp_l46, hp_l47, hp_l48, hp_l49, hp_l50, hp_l51, hp_l52, hp_l53, hp_l54, hp_l55, hp_l56, hp_l57, hp_l58, hp_l59, hp_l60, hp_l61, hp_l62, hp_l63, hp_l64, hp_l65, hp_l66, hp_l67, hp_l68, hp_l69, hp_l70, hp_l71, hp_l72, hp_l73, hp_l74, hp_l75, hp_l76, hp_l77, hp_l78, hp_l79, hp_l80, hp_l81, hp_l82, hp_l83, hp_l84, hp_l85, hp_l86, hp_l87, hp_l88, hp_l89, hp_l90, hp_l91, hp_l92, hp_l93, hp_l94, hp_l95, hp_l96, hp_l97, hp_l98, hp_l99, hp_l100, hp_l101, hp_l102, hp_l103, hp_l104, hp_l105, hp_l106, hp_l107, hp_l108, hp_l109, hp_l110, hp_l111, hp_l112, hp_l113, hp_l114, hp_l115, hp_l116, hp_l117, hp_l118, hp_l119, hp_l120, hp_l121, hp_l122, hp_l123, hp_l124, hp_l125, hp_l126, hp_l127, hp_l141, hp_l142, hp_l150, hp_l151, hp_l152, hp_l153, hp_l251, hp_l255, hp_l256, hp_l300, hp_l432, hp_l864, hp_l1000, hp_l1600, hp_l1700, hp_l2304, hp_l2916, hp_l3000, hp_l9999, hp_l10000, nI_add, pk_mul, nI_clamp, hl_lt, hl_le, hl_eq, hl_nIb, hl_nsub, hp_eqm, hp_meq, hp_ltm, hp_mlt, hp_lem, hp_mle, hp_addm, hp_meqm, hp_mlem, hp_withinE, hp_within0, if_pos, if_neg, Option.bind_some, hp_let, Sum.elim_inl, Sum.elim_inr, hp_s01, hp_s11, hp_s2, true_and, and_true, if_true, if_false, not_true_eq_false, not_false_eq_true, reduceCtorEq] <;> omega)
      have hb : hl_b (nI W'.length) 1700 := (hl_nIb (by omega)).mpr (by omega)
      rw [g3, g4, H.2.2.2, if_neg n1, if_pos hb, nI_clamp (by omega), g2, hm_isB (by omega), if_pos (show 20 ≤ br ∧ br ≤ 24 from ⟨b1, b2⟩), if_neg (show ¬ (1 : Int32) = 0 by decide)]) pd τ C hl_big hP h5 H h1 h2 (by unfold hl_big; omega)
  unfold f_M_qDropsToBracket
  rw [r1, Option.bind_some]
  exact ⟨τ', rfl, r2, r3⟩
/-- which bracket stands last above the base -/
def hq_br (W : List Nat) (bs : Nat) : Int32 := match W with
  | [] => -1
  | x :: W' => if bs ≤ W'.length then nI x else -1
theorem hm_bracket (hc : hq_ctx W bs) (hP : ∀ x ∈ pd, 1 ≤ x ∧ x ≤ 4) (H : hm_q C (pd ++ W) o bs τ) (h2 : pd.length + W.length < 1700) (hb : bs ≤ W.length) : f_M_qBracket τ = some (hq_br W bs) := by
  have hend : ∀ f, 1 ≤ f → ∀ W0, hm_s (W0 ++ W) τ → ∃ e, hl_lp (f_M_qBracket_L7 τ) f (nI W.length - 1) = some e ∧ (if e < τ.1 64 76 then some (-1) else if hl_b e 1700 then some (τ.1 111 e.toNatClampNeg) else none) = some (hq_br W bs) := by
    intro f hf W0 hs
    obtain ⟨g, rfl⟩ : ∃ g, f = g + 1 := ⟨f - 1, by omega⟩
    have hsW : hm_s W τ := by
      induction W0 with
      | nil => exact hs
      | cons y W0 ih => exact ih hs.2
    have eb : τ.1 64 76 = nI bs := H.2.2.2
    rcases hc with ⟨h, _⟩ | ⟨br, W', rfl, b1, b2, b3⟩
    · have lt : nI W.length - 1 < nI bs := by
        rw [h]
        rcases Nat.eq_zero_or_pos bs with z | z
        · rw [z]; decide
        · rw [show (1 : Int32) = nI 1 from rfl, pk_sub (by omega)]
          exact (hl_lt (by omega) (by omega)).mpr (by omega)
      refine ⟨nI W.length - 1, ?_, ?_⟩
      · apply hl_lp_e
        unfold f_M_qBracket_L7
        rw [eb, if_pos lt]
      · rw [eb, if_pos lt]
        unfold hq_br
        cases W with
        | nil => rfl
        | cons y V =>
          rw [List.length_cons] at h
          dsimp only
          rw [if_neg (show ¬ bs ≤ V.length by omega)]
    · rw [List.length_cons] at h2 hb ⊢
      have e1 : nI (W'.length + 1) - 1 = nI W'.length := hl_nsub (a := W'.length + 1) (b := 1) (by omega)
      have n1 : ¬ nI W'.length < nI bs := by first | omega | (simp (disch := first | assumption | omega) only [↓hp_neg1, hp_l0, hp_l1, hp_l2, hp_l3, hp_l4, hp_l5, hp_l6, hp_l7, hp_l8, hp_l9, hp_l10, hp_l11, hp_l12, hp_l13, hp_l14, hp_l15, hp_l16, hp_l17, hp_l18, hp_l19, hp_l20, hp_l21, hp_l22, hp_l23, hp_l24, hp_l25, hp_l26, hp_l27, hp_l28, hp_l29, hp_l30, hp_l31, hp_l32, hp_l33, hp_l34, hp_l35, hp_l36, hp_l37, hp_l38, hp_l39, hp_l40, hp_l41, hp_l42, hp_l43, hp_l44, hp_l45, hp_l46, hp_l47, hp_l48, hp_l49, hp_l50, hp_l51, hp_l52, hp_l53, hp_l54, hp_l55, hp_l56, hp_l57, hp_l58, hp_l59, hp_l60, hp_l61, hp_l62, hp_l63, hp_l64, hp_l65, hp_l66, hp_l67, hp_l68, hp_l69, hp_l70, hp_l71, hp_l72, hp_l73, hp_l74, hp_l75, hp_l76, hp_l77, hp_l78, hp_l79, hp_l80, hp_l81, hp_l82, hp_l83, hp_l84, hp_l85, hp_l86, hp_l87, hp_l88, hp_l89, hp_l90, hp_l91, hp_l92, hp_l93, hp_l94, hp_l95, hp_l96, hp_l97, hp_l98, hp_l99, hp_l100, hp_l101, hp_l102, hp_l103, hp_l104, hp_l105, hp_l106, hp_l107, hp_l108, hp_l109, hp_l110, hp_l111, hp_l112, hp_l113, hp_l114, hp_l115, hp_l116, hp_l117, hp_l118, hp_l119, hp_l120, hp_l121, hp_l122, hp_l123, hp_l124, hp_l125, hp_l126, hp_l127, hp_l141, hp_l142, hp_l150, hp_l151, hp_l152, hp_l153, hp_l251, hp_l255, hp_l256, hp_l300, hp_l432, hp_l864, hp_l1000, hp_l1600, hp_l1700, hp_l2304, hp_l2916, hp_l3000, hp_l9999, hp_l10000, nI_add, pk_mul, nI_clamp, hl_lt, hl_le, hl_eq, hl_nIb, hl_nsub, hp_eqm, hp_meq, hp_ltm, hp_mlt, hp_lem, hp_mle, hp_addm, hp_meqm, hp_mlem, hp_withinE, hp_within0, if_pos, if_neg, Option.bind_some, hp_let, Sum.elim_inl, Sum.elim_inr, hp_s01, hp_s11, hp_s2, true_and, and_true, if_true, if_false, not_true_eq_false, not_false_eq_true, reduceCtorEq] <;> omega)
      have hbb : hl_b (nI W'.length) 1700 := (hl_nIb (by omega)).mpr (by omega)
      rw [e1]
      refine ⟨nI W'.length, ?_, ?_⟩
      · apply hl_lp_e
        unfold f_M_qBracket_L7
        rw [eb, if_neg n1, if_pos hbb, nI_clamp (by omega), hsW.1, hm_isB (by omega), if_pos (show 20 ≤ br ∧ br ≤ 24 from ⟨b1, b2⟩), if_neg (show ¬ (1 : Int32) = 0 by decide)]
      · rw [eb, if_neg n1, if_pos hbb, nI_clamp (by omega), hsW.1]
        unfold hq_br
        dsimp only
        rw [if_pos b3]
  have key : ∀ pd : List Nat, ∀ f, pd.length + 1 ≤ f → (∀ x ∈ pd, 1 ≤ x ∧ x ≤ 4) → pd.length + W.length < 1700 → ∀ W0, hm_s (W0 ++ (pd ++ W)) τ → ∃ e, hl_lp (f_M_qBracket_L7 τ) f (nI (pd ++ W).length - 1) = some e ∧ (if e < τ.1 64 76 then some (-1) else if hl_b e 1700 then some (τ.1 111 e.toNatClampNeg) else none) = some (hq_br W bs) := by
    intro pd
    induction pd with
    | nil => intro f hf _ _ W0 hs; exact hend f (by simp at hf; omega) W0 hs
    | cons x pd ih =>
      intro f hf hP hl W0 hs
      rw [List.length_cons] at hf hl
      obtain ⟨g, rfl⟩ : ∃ g, f = g + 1 := ⟨f - 1, by omega⟩
      have hlen : (pd ++ W).length = pd.length + W.length := List.length_append
      have hx := hP x (by simp)
      have hs2 : τ.1 111 (pd ++ W).length = nI x ∧ hm_s (pd ++ W) τ := by
        induction W0 with
        | nil => exact hs
        | cons y W0 ih2 => exact ih2 hs.2
      rw [List.cons_append, List.length_cons]
      have e1 : nI ((pd ++ W).length + 1) - 1 = nI (pd ++ W).length := hl_nsub (a := (pd ++ W).length + 1) (b := 1) (by omega)
      have n1 : ¬ nI (pd ++ W).length < nI bs := by first | omega | (simp (disch := first | assumption | omega) only [↓hp_neg1, hp_l0, hp_l1, hp_l2, hp_l3, hp_l4, hp_l5, hp_l6, hp_l7, hp_l8, hp_l9, hp_l10, hp_l11, hp_l12, hp_l13, hp_l14, hp_l15, hp_l16, hp_l17, hp_l18, hp_l19, hp_l20, hp_l21, hp_l22, hp_l23, hp_l24, hp_l25, hp_l26, hp_l27, hp_l28, hp_l29, hp_l30, hp_l31, hp_l32, hp_l33, hp_l34, hp_l35, hp_l36, hp_l37, hp_l38, hp_l39, hp_l40, hp_l41, hp_l42, hp_l43, hp_l44, hp_l45, hp_l46, hp_l47, hp_l48, hp_l49, hp_l50, hp_l51, hp_l52, hp_l53, hp_l54, hp_l55, hp_l56, hp_l57, hp_l58, hp_l59, hp_l60, hp_l61, hp_l62, hp_l63, hp_l64, hp_l65, hp_l66, hp_l67, hp_l68, hp_l69, hp_l70, hp_l71, hp_l72, hp_l73, hp_l74, hp_l75, hp_l76, hp_l77, hp_l78, hp_l79, hp_l80, hp_l81, hp_l82, hp_l83, hp_l84, hp_l85, hp_l86, hp_l87, hp_l88, hp_l89, hp_l90, hp_l91, hp_l92, hp_l93, hp_l94, hp_l95, hp_l96, hp_l97, hp_l98, hp_l99, hp_l100, hp_l101, hp_l102, hp_l103, hp_l104, hp_l105, hp_l106, hp_l107, hp_l108, hp_l109, hp_l110, hp_l111, hp_l112, hp_l113, hp_l114, hp_l115, hp_l116, hp_l117, hp_l118, hp_l119, hp_l120, hp_l121, hp_l122, hp_l123, hp_l124, hp_l125, hp_l126, hp_l127, hp_l141, hp_l142, hp_l150, hp_l151, hp_l152, hp_l153, hp_l251, hp_l255, hp_l256, hp_l300, hp_l432, hp_l864, hp_l1000, hp_l1600, hp_l1700, hp_l2304, hp_l2916, hp_l3000, hp_l9999, hp_l10000, nI_add, pk_mul, nI_clamp, hl_lt, hl_le, hl_eq, hl_nIb, hl_nsub, hp_eqm, hp_meq, hp_ltm, hp_mlt, hp_lem, hp_mle, hp_addm, hp_meqm, hp_mlem, hp_withinE, hp_within0, if_pos, if_neg, Option.bind_some, hp_let, Sum.elim_inl, Sum.elim_inr, hp_s01, hp_s11, hp_s2, true_and, and_true, if_true, if_false, not_true_eq_false, not_false_eq_true, reduceCtorEq] <;> omega)
      have hbb : hl_b (nI (pd ++ W).length) 1700 := (hl_nIb (by omega)).mpr (by omega)
      have st : f_M_qBracket_L7 τ (nI (pd ++ W).length) = some (.inl (nI (pd ++ W).length - 1)) := by
        unfold f_M_qBracket_L7
        rw [H.2.2.2, if_neg n1, if_pos hbb, nI_clamp (by omega), hs2.1, hm_isB (by omega), if_neg (show ¬ (20 ≤ x ∧ x ≤ 24) by omega), if_pos rfl, ← Int32.sub_eq_add_neg]
      rw [e1, hl_lp_s st]
      exact ih g (by omega) (fun y hy => hP y (by simp [hy])) (by omega) [] hs2.2
  obtain ⟨e, r1, r2⟩ := key pd hl_big (by unfold hl_big; omega) hP h2 [] H.2.1.2
  unfold f_M_qBracket
  rw [H.2.1.1, r1, Option.bind_some]
  exact r2
end STACK
