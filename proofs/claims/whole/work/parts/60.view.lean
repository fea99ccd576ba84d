/-! what is lit: the most lamp of the first n persons in a cell -/
def hp_lt (w lm : Nat → Nat) (c : Nat) : Nat → Nat
  | 0 => 0
  | n + 1 => if w n = c ∧ hp_lt w lm c n < lm n then lm n else hp_lt w lm c n
theorem hp_lt_succ (w lm : Nat → Nat) (c n : Nat) : hp_lt w lm c (n + 1) = if w n = c ∧ hp_lt w lm c n < lm n then lm n else hp_lt w lm c n := rfl
theorem hp_lt_le {w lm : Nat → Nat} {c : Nat} : ∀ {n : Nat}, (∀ p, p < n → lm p ≤ 2) → hp_lt w lm c n ≤ 2
  | 0, _ => by show 0 ≤ 2; omega
  | n + 1, h => by
    have h1 := hp_lt_le (w := w) (c := c) (n := n) (fun p hp => h p (by omega))
    have h2 := h n (by omega)
    rw [hp_lt_succ]
    split <;> omega
theorem hp_lt_none {w lm : Nat → Nat} {c : Nat} : ∀ {n : Nat}, (∀ p, p < n → w p ≠ c) → hp_lt w lm c n = 0
  | 0, _ => rfl
  | n + 1, h => by
    have h1 := hp_lt_none (lm := lm) (n := n) (fun p hp => h p (by omega))
    rw [hp_lt_succ]
    rw [if_neg (fun z => h n (by omega) z.1), h1]
theorem hp_lt_cong {w lm w' lm' : Nat → Nat} {c : Nat} : ∀ {n : Nat}, (∀ p, p < n → w p = w' p ∧ lm p = lm' p) → hp_lt w lm c n = hp_lt w' lm' c n
  | 0, _ => rfl
  | n + 1, h => by
    have h1 := hp_lt_cong (c := c) (n := n) (fun p hp => h p (by omega))
    obtain ⟨h2, h3⟩ := h n (by omega)
    show (if w n = c ∧ hp_lt w lm c n < lm n then lm n else hp_lt w lm c n) = (if w' n = c ∧ hp_lt w' lm' c n < lm' n then lm' n else hp_lt w' lm' c n)
    rw [h1, h2, h3]
theorem hp_lt_iff {w lm : Nat → Nat} {c v : Nat} : ∀ {n : Nat}, v ≤ hp_lt w lm c n ↔ v = 0 ∨ ∃ p, p < n ∧ w p = c ∧ v ≤ lm p
  | 0 => by
    show v ≤ 0 ↔ _
    constructor
    · intro h; exact .inl (by omega)
    · rintro (h | ⟨p, h, _⟩) <;> omega
  | n + 1 => by
    have ih := hp_lt_iff (w := w) (lm := lm) (c := c) (v := v) (n := n)
    have up : (v = 0 ∨ ∃ p, p < n + 1 ∧ w p = c ∧ v ≤ lm p) ↔ (v ≤ hp_lt w lm c n ∨ (w n = c ∧ v ≤ lm n)) := by
      rw [ih]
      constructor
      · rintro (h | ⟨p, h1, h2, h3⟩)
        · exact .inl (.inl h)
        · by_cases e : p = n
          · subst e; exact .inr ⟨h2, h3⟩
          · exact .inl (.inr ⟨p, by omega, h2, h3⟩)
      · rintro ((h | ⟨p, h1, h2, h3⟩) | ⟨h2, h3⟩)
        · exact .inl h
        · exact .inr ⟨p, by omega, h2, h3⟩
        · exact .inr ⟨n, by omega, h2, h3⟩
    rw [up]
    rw [hp_lt_succ]
    by_cases hw : w n = c
    · by_cases hl : hp_lt w lm c n < lm n
      · rw [if_pos ⟨hw, hl⟩]
        constructor
        · intro h; exact .inr ⟨hw, h⟩
        · rintro (h | ⟨_, h⟩) <;> omega
      · rw [if_neg (fun z => hl z.2)]
        constructor
        · intro h; exact .inl h
        · rintro (h | ⟨_, h⟩) <;> omega
    · rw [if_neg (fun z => hw z.1)]
      constructor
      · intro h; exact .inl h
      · rintro (h | ⟨h, _⟩)
        · exact h
        · exact absurd h hw
/-- nobody is 1000 -/
def hp_o (d : Nat) : Int32 := if d = 1000 then -1 else nI d
theorem hp_o_eq {p d : Nat} (hp : p < 100) (hd : d ≤ 1000) : nI p = hp_o d ↔ p = d := by
  unfold hp_o
  by_cases e : d = 1000
  · rw [if_pos e]
    constructor
    · intro h; exact absurd h (hl_nm1 (by omega))
    · intro h; omega
  · rw [if_neg e, hl_eq (by omega) (by omega)]
def hp_lamp (P : hp_G) (d p : Nat) : Nat := if p = d then 0 else P 0 p
def hp_at (G P : hp_G) (b m t p : Nat) : Nat := if p = m then t else hp_wh G P p b
def hm_o (d m t : Nat) (τ : hl_M) : Prop := d ≤ 1000 ∧ m ≤ 1000 ∧ t < 54 ∧ τ.1 64 35 = hp_o d ∧ τ.1 64 36 = hp_o m ∧ (m ≠ 1000 → τ.1 64 37 = nI t)
/-- what is lit in a beat in each cell -/
def hp_li (G P : hp_G) (b d m t c : Nat) : Nat := hp_lt (hp_at G P b m t) (hp_lamp P d) c (G 0 2)
section VW
variable {G P : hp_G} {σ τ : hl_M} {p w c b d m t : Nat}
theorem hp_lamp_le (hP : hp_wp G P) (hp : p < G 0 2) : hp_lamp P d p ≤ 2 := by
  have := (hP p hp).1
  unfold hp_lamp
  split <;> omega
theorem hp_li_le (hP : hp_wp G P) : hp_li G P b d m t c ≤ 2 := hp_lt_le (fun p hp => hp_lamp_le hP hp)
theorem hp_li_out (hG : hp_wg G) (ht : m = 1000 ∨ t < hp_C G) (hc : hp_C G ≤ c) : hp_li G P b d m t c = 0 := by
  apply hp_lt_none
  intro p hp
  unfold hp_at
  have := hG.np
  split
  · rcases ht with rfl | h <;> omega
  · have := hp_wh_lt (P := P) hG hp b; omega
theorem hm_litIn (H : hm G P τ) (O : hm_o d m t τ) (hb : b < 100) (hc : c < 54) : f_M_litIn (nI b) (nI c) τ = some (nI (hp_li G P b d m t c)) := by
  obtain ⟨hd, hm1, ht, o1, o2, o3⟩ := O
  have hnp := H.wg.np
  unfold f_M_litIn
  refine hp_bindE (nI (hp_li G P b d m t c)) (hp_for' (G 0 2) (fun k => (nI (hp_lt (hp_at G P b m t) (hp_lamp P d) c k), nI k)) rfl (by omega) ?_ ?_) rfl
  · intro k hk
    have hl := (H.wp k hk).1
    have hle := hp_lt_le (w := hp_at G P b m t) (lm := hp_lamp P d) (c := c) (n := k) (fun p hp => hp_lamp_le H.wp (by omega))
    have hwl := hp_wh_lt (P := P) H.wg hk b
    have hC := H.wg.C
    have key : ∀ a, a < 54 → a = hp_at G P b m t k → f_M_litIn_j37 (nI b) (nI c) (nI (hp_lt (hp_at G P b m t) (hp_lamp P d) c k)) (nI k) (nI a) τ = some (.inl (nI (hp_lt (hp_at G P b m t) (hp_lamp P d) c (k + 1)), nI (k + 1))) := by
      intro a ha ea
      unfold f_M_litIn_j37
      rw [o1, hm_lampOf H hk]
      by_cases e : k = d
      · rw [if_pos ((hp_o_eq (by omega) hd).mpr e), nI_1]
        have : hp_lt (hp_at G P b m t) (hp_lamp P d) c (k + 1) = hp_lt (hp_at G P b m t) (hp_lamp P d) c k := by
          show (if _ then _ else _) = _
          rw [if_neg]
          rintro ⟨_, z⟩
          unfold hp_lamp at z
          rw [if_pos e] at z
          omega
        rw [this]
      · rw [if_neg (fun z => e ((hp_o_eq (by omega) hd).mp z))]
        have el : hp_lamp P d k = P 0 k := if_neg e
        have eS : hp_lt (hp_at G P b m t) (hp_lamp P d) c (k + 1) = if a = c ∧ hp_lt (hp_at G P b m t) (hp_lamp P d) c k < P 0 k then P 0 k else hp_lt (hp_at G P b m t) (hp_lamp P d) c k := by
          rw [← el, ea]; rfl
        rw [eS]
        by_cases e2 : a = c
        · rw [if_pos (by rw [e2]), Option.bind_some, Option.bind_some]
          by_cases e3 : hp_lt (hp_at G P b m t) (hp_lamp P d) c k < P 0 k
          · rw [if_neg (by first | omega | (simp (disch := first | assumption | omega) only [↓hp_neg1, hp_l0, hp_l1, hp_l2, hp_l3, hp_l4, hp_l5, hp_l6, hp_l7, hp_l8, hp_l9, hp_l10, hp_l11, hp_l12, hp_l13, hp_l14, hp_l15, hp_l16, hp_l17, hp_l18, hp_l19, hp_l20, hp_l21, hp_l22, hp_l23, hp_l24, hp_l25, hp_l26, hp_l27, hp_l28, hp_l29, hp_l30, hp_l31, hp_l32, hp_l33, hp_l34, hp_l35, hp_l36, hp_l37, hp_l38, hp_l39, hp_l40, hp_l41, hp_l42, hp_l43, hp_l44, hp_l45, hp_l46, hp_l47, hp_l48, hp_l49, hp_l50, hp_l51, hp_l52, hp_l53, hp_l54, hp_l55, hp_l56, hp_l57, hp_l58, hp_l59, hp_l60, hp_l61, hp_l62, hp_l63, hp_l64, hp_l65, hp_l66, hp_l67, hp_l68, hp_l69, hp_l70, hp_l71, hp_l72, hp_l73, hp_l74, hp_l75, hp_l76, hp_l77, hp_l78, hp_l79, hp_l80, hp_l81, hp_l82, hp_l83, hp_l84, hp_l85, hp_l86, hp_l87, hp_l88, hp_l89, hp_l90, hp_l91, hp_l92, hp_l93, hp_l94, hp_l95, hp_l96, hp_l97, hp_l98, hp_l99, hp_l100, hp_l101, hp_l102, hp_l103, hp_l104, hp_l105, hp_l106, hp_l107, hp_l108, hp_l109, hp_l110, hp_l111, hp_l112, hp_l113, hp_l114, hp_l115, hp_l116, hp_l117, hp_l118, hp_l119, hp_l120, hp_l121, hp_l122, hp_l123, hp_l124, hp_l125, hp_l126, hp_l127, hp_l141, hp_l142, hp_l150, hp_l151, hp_l152, hp_l153, hp_l251, hp_l255, hp_l256, hp_l300, hp_l432, hp_l864, hp_l1000, hp_l1600, hp_l1700, hp_l2304, hp_l2916, hp_l3000, hp_l9999, hp_l10000, nI_add, pk_mul, nI_clamp, hl_lt, hl_le, hl_eq, hl_nIb, hl_nsub, hp_eqm, hp_meq, hp_ltm, hp_mlt, hp_lem, hp_mle, hp_addm, hp_meqm, hp_mlem, hp_withinE, hp_within0, if_pos, if_neg, Option.bind_some, hp_let, Sum.elim_inl, Sum.elim_inr, hp_s01, hp_s11, hp_s2, true_and, and_true, if_true, if_false, not_true_eq_false, not_false_eq_true, reduceCtorEq] <;> omega)), if_pos ⟨e2, e3⟩, nI_1]
          · rw [if_pos (by first | omega | (simp (disch := first | assumption | omega) only [↓hp_neg1, hp_l0, hp_l1, hp_l2, hp_l3, hp_l4, hp_l5, hp_l6, hp_l7, hp_l8, hp_l9, hp_l10, hp_l11, hp_l12, hp_l13, hp_l14, hp_l15, hp_l16, hp_l17, hp_l18, hp_l19, hp_l20, hp_l21, hp_l22, hp_l23, hp_l24, hp_l25, hp_l26, hp_l27, hp_l28, hp_l29, hp_l30, hp_l31, hp_l32, hp_l33, hp_l34, hp_l35, hp_l36, hp_l37, hp_l38, hp_l39, hp_l40, hp_l41, hp_l42, hp_l43, hp_l44, hp_l45, hp_l46, hp_l47, hp_l48, hp_l49, hp_l50, hp_l51, hp_l52, hp_l53, hp_l54, hp_l55, hp_l56, hp_l57, hp_l58, hp_l59, hp_l60, hp_l61, hp_l62, hp_l63, hp_l64, hp_l65, hp_l66, hp_l67, hp_l68, hp_l69, hp_l70, hp_l71, hp_l72, hp_l73, hp_l74, hp_l75, hp_l76, hp_l77, hp_l78, hp_l79, hp_l80, hp_l81, hp_l82, hp_l83, hp_l84, hp_l85, hp_l86, hp_l87, hp_l88, hp_l89, hp_l90, hp_l91, hp_l92, hp_l93, hp_l94, hp_l95, hp_l96, hp_l97, hp_l98, hp_l99, hp_l100, hp_l101, hp_l102, hp_l103, hp_l104, hp_l105, hp_l106, hp_l107, hp_l108, hp_l109, hp_l110, hp_l111, hp_l112, hp_l113, hp_l114, hp_l115, hp_l116, hp_l117, hp_l118, hp_l119, hp_l120, hp_l121, hp_l122, hp_l123, hp_l124, hp_l125, hp_l126, hp_l127, hp_l141, hp_l142, hp_l150, hp_l151, hp_l152, hp_l153, hp_l251, hp_l255, hp_l256, hp_l300, hp_l432, hp_l864, hp_l1000, hp_l1600, hp_l1700, hp_l2304, hp_l2916, hp_l3000, hp_l9999, hp_l10000, nI_add, pk_mul, nI_clamp, hl_lt, hl_le, hl_eq, hl_nIb, hl_nsub, hp_eqm, hp_meq, hp_ltm, hp_mlt, hp_lem, hp_mle, hp_addm, hp_meqm, hp_mlem, hp_withinE, hp_within0, if_pos, if_neg, Option.bind_some, hp_let, Sum.elim_inl, Sum.elim_inr, hp_s01, hp_s11, hp_s2, true_and, and_true, if_true, if_false, not_true_eq_false, not_false_eq_true, reduceCtorEq] <;> omega)), if_neg (fun z => e3 z.2), nI_1]
        · rw [if_neg (by first | omega | (simp (disch := first | assumption | omega) only [↓hp_neg1, hp_l0, hp_l1, hp_l2, hp_l3, hp_l4, hp_l5, hp_l6, hp_l7, hp_l8, hp_l9, hp_l10, hp_l11, hp_l12, hp_l13, hp_l14, hp_l15, hp_l16, hp_l17, hp_l18, hp_l19, hp_l20, hp_l21, hp_l22, hp_l23, hp_l24, hp_l25, hp_l26, hp_l27, hp_l28, hp_l29, hp_l30, hp_l31, hp_l32, hp_l33, hp_l34, hp_l35, hp_l36, hp_l37, hp_l38, hp_l39, hp_l40, hp_l41, hp_l42, hp_l43, hp_l44, hp_l45, hp_l46, hp_l47, hp_l48, hp_l49, hp_l50, hp_l51, hp_l52, hp_l53, hp_l54, hp_l55, hp_l56, hp_l57, hp_l58, hp_l59, hp_l60, hp_l61, hp_l62, hp_l63, hp_l64, hp_l65, hp_l66, hp_l67, hp_l68, hp_l69, hp_l70, hp_l71, hp_l72, hp_l73, hp_l74, hp_l75, hp_l76, hp_l77, hp_l78, hp_l79, hp_l80, hp_l81, hp_l82, hp_l83, hp_l84, hp_l85, hp_l86, hp_l87, hp_l88, hp_l89, hp_l90, hp_l91, hp_l92, hp_l93, hp_l94, hp_l95, hp_l96, hp_l97, hp_l98, hp_l99, hp_l100, hp_l101, hp_l102, hp_l103, hp_l104, hp_l105, hp_l106, hp_l107, hp_l108, hp_l109, hp_l110, hp_l111, hp_l112, hp_l113, hp_l114, hp_l115, hp_l116, hp_l117, hp_l118, hp_l119, hp_l120, hp_l121, hp_l122, hp_l123, hp_l124, hp_l125, hp_l126, hp_l127, hp_l141, hp_l142, hp_l150, hp_l151, hp_l152, hp_l153, hp_l251, hp_l255, hp_l256, hp_l300, hp_l432, hp_l864, hp_l1000, hp_l1600, hp_l1700, hp_l2304, hp_l2916, hp_l3000, hp_l9999, hp_l10000, nI_add, pk_mul, nI_clamp, hl_lt, hl_le, hl_eq, hl_nIb, hl_nsub, hp_eqm, hp_meq, hp_ltm, hp_mlt, hp_lem, hp_mle, hp_addm, hp_meqm, hp_mlem, hp_withinE, hp_within0, if_pos, if_neg, Option.bind_some, hp_let, Sum.elim_inl, Sum.elim_inr, hp_s01, hp_s11, hp_s2, true_and, and_true, if_true, if_false, not_true_eq_false, not_false_eq_true, reduceCtorEq] <;> omega)), if_neg (fun z => e2 z.1), nI_1]
    unfold f_M_litIn_L5
    rw [hm_personMany H, Option.bind_some, if_neg (by first | omega | (simp (disch := first | assumption | omega) only [↓hp_neg1, hp_l0, hp_l1, hp_l2, hp_l3, hp_l4, hp_l5, hp_l6, hp_l7, hp_l8, hp_l9, hp_l10, hp_l11, hp_l12, hp_l13, hp_l14, hp_l15, hp_l16, hp_l17, hp_l18, hp_l19, hp_l20, hp_l21, hp_l22, hp_l23, hp_l24, hp_l25, hp_l26, hp_l27, hp_l28, hp_l29, hp_l30, hp_l31, hp_l32, hp_l33, hp_l34, hp_l35, hp_l36, hp_l37, hp_l38, hp_l39, hp_l40, hp_l41, hp_l42, hp_l43, hp_l44, hp_l45, hp_l46, hp_l47, hp_l48, hp_l49, hp_l50, hp_l51, hp_l52, hp_l53, hp_l54, hp_l55, hp_l56, hp_l57, hp_l58, hp_l59, hp_l60, hp_l61, hp_l62, hp_l63, hp_l64, hp_l65, hp_l66, hp_l67, hp_l68, hp_l69, hp_l70, hp_l71, hp_l72, hp_l73, hp_l74, hp_l75, hp_l76, hp_l77, hp_l78, hp_l79, hp_l80, hp_l81, hp_l82, hp_l83, hp_l84, hp_l85, hp_l86, hp_l87, hp_l88, hp_l89, hp_l90, hp_l91, hp_l92, hp_l93, hp_l94, hp_l95, hp_l96, hp_l97, hp_l98, hp_l99, hp_l100, hp_l101, hp_l102, hp_l103, hp_l104, hp_l105, hp_l106, hp_l107, hp_l108, hp_l109, hp_l110, hp_l111, hp_l112, hp_l113, hp_l114, hp_l115, hp_l116, hp_l117, hp_l118, hp_l119, hp_l120, hp_l121, hp_l122, hp_l123, hp_l124, hp_l125, hp_l126, hp_l127, hp_l141, hp_l142, hp_l150, hp_l151, hp_l152, hp_l153, hp_l251, hp_l255, hp_l256, hp_l300, hp_l432, hp_l864, hp_l1000, hp_l1600, hp_l1700, hp_l2304, hp_l2916, hp_l3000, hp_l9999, hp_l10000, nI_add, pk_mul, nI_clamp, hl_lt, hl_le, hl_eq, hl_nIb, hl_nsub, hp_eqm, hp_meq, hp_ltm, hp_mlt, hp_lem, hp_mle, hp_addm, hp_meqm, hp_mlem, hp_withinE, hp_within0, if_pos, if_neg, Option.bind_some, hp_let, Sum.elim_inl, Sum.elim_inr, hp_s01, hp_s11, hp_s2, true_and, and_true, if_true, if_false, not_true_eq_false, not_false_eq_true, reduceCtorEq] <;> omega)), o2]
    by_cases e : k = m
    · rw [if_pos ((hp_o_eq (by omega) hm1).mpr e), o3 (by omega)]
      exact key t ht (by unfold hp_at; rw [if_pos e])
    · rw [if_neg (fun z => e ((hp_o_eq (by omega) hm1).mp z)), hm_whereIn H hk hb, Option.bind_some]
      exact key _ (by omega) (by unfold hp_at; rw [if_neg e])
  · unfold f_M_litIn_L5
    rw [hm_personMany H, Option.bind_some, if_pos (by first | omega | (simp (disch := first | assumption | omega) only [↓hp_neg1, hp_l0, hp_l1, hp_l2, hp_l3, hp_l4, hp_l5, hp_l6, hp_l7, hp_l8, hp_l9, hp_l10, hp_l11, hp_l12, hp_l13, hp_l14, hp_l15, hp_l16, hp_l17, hp_l18, hp_l19, hp_l20, hp_l21, hp_l22, hp_l23, hp_l24, hp_l25, hp_l26, hp_l27, hp_l28, hp_l29, hp_l30, hp_l31, hp_l32, hp_l33, hp_l34, hp_l35, hp_l36, hp_l37, hp_l38, hp_l39, hp_l40, hp_l41, hp_l42, hp_l43, hp_l44, hp_l45, hp_l46, hp_l47, hp_l48, hp_l49, hp_l50, hp_l51, hp_l52, hp_l53, hp_l54, hp_l55, hp_l56, hp_l57, hp_l58, hp_l59, hp_l60, hp_l61, hp_l62, hp_l63, hp_l64, hp_l65, hp_l66, hp_l67, hp_l68, hp_l69, hp_l70, hp_l71, hp_l72, hp_l73, hp_l74, hp_l75, hp_l76, hp_l77, hp_l78, hp_l79, hp_l80, hp_l81, hp_l82, hp_l83, hp_l84, hp_l85, hp_l86, hp_l87, hp_l88, hp_l89, hp_l90, hp_l91, hp_l92, hp_l93, hp_l94, hp_l95, hp_l96, hp_l97, hp_l98, hp_l99, hp_l100, hp_l101, hp_l102, hp_l103, hp_l104, hp_l105, hp_l106, hp_l107, hp_l108, hp_l109, hp_l110, hp_l111, hp_l112, hp_l113, hp_l114, hp_l115, hp_l116, hp_l117, hp_l118, hp_l119, hp_l120, hp_l121, hp_l122, hp_l123, hp_l124, hp_l125, hp_l126, hp_l127, hp_l141, hp_l142, hp_l150, hp_l151, hp_l152, hp_l153, hp_l251, hp_l255, hp_l256, hp_l300, hp_l432, hp_l864, hp_l1000, hp_l1600, hp_l1700, hp_l2304, hp_l2916, hp_l3000, hp_l9999, hp_l10000, nI_add, pk_mul, nI_clamp, hl_lt, hl_le, hl_eq, hl_nIb, hl_nsub, hp_eqm, hp_meq, hp_ltm, hp_mlt, hp_lem, hp_mle, hp_addm, hp_meqm, hp_mlem, hp_withinE, hp_within0, if_pos, if_neg, Option.bind_some, hp_let, Sum.elim_inl, Sum.elim_inr, hp_s01, hp_s11, hp_s2, true_and, and_true, if_true, if_false, not_true_eq_false, not_false_eq_true, reduceCtorEq] <;> omega))]
    rfl
/-! the class: a view -/
def hx_v (f : Nat → Nat) (σ : hl_M) : Prop := hp_bs (σ.2 37 2) (fun c => decide (f c = 1)) ∧ hp_bs (σ.2 37 3) (fun c => decide (f c = 2))
theorem hx_addLamp {f : Nat → Nat} {l : Nat} (V : hx_v f σ) (hc : c < 54) (hl : l ≤ 2) (hf : ∀ k, f k ≤ 2) : hx_v (fun k => if k = c ∧ f k < l then l else f k) (f_Vw_addLamp (nI c) (nI l) σ) ∧ hp_fr (fun q _ => q = 37) σ (f_Vw_addLamp (nI c) (nI l) σ) := by
  obtain ⟨v1, v2⟩ := V
  unfold f_Vw_addLamp
  rw [show (54 : Int32) = nI 54 from rfl, hp_withinT hc (by omega), if_neg (by decide)]
  have e2 : (nI l = 2) ↔ l = 2 := hl_eq (by omega) (by decide)
  have e1 : (nI l = 1) ↔ l = 1 := hl_eq (by omega) (by decide)
  by_cases h2 : l = 2
  · rw [if_pos (e2.mpr h2)]
    unfold f_Vw_addLamp_j47
    refine ⟨⟨?_, ?_⟩, by refine hp_fr.sl (hp_fr.sl hp_fr.rf ?_) ?_ <;> rfl⟩
    · rw [hp_s11, hp_sln (by omega), hp_s11]
      refine (v1.andn (v2.or (hp_bs.bit hc))).cong (fun k hk => ?_)
      have a := hf k
      rcases (show f k = 0 ∨ f k = 1 ∨ f k = 2 by omega) with e | e | e <;> (by_cases hk : k = c; (subst hk; simp [e, h2]); simp [e, hk, h2])
    · rw [hp_sln (by omega), hp_s11]
      refine (v2.or (hp_bs.bit hc)).cong (fun k hk => ?_)
      have a := hf k
      rcases (show f k = 0 ∨ f k = 1 ∨ f k = 2 by omega) with e | e | e <;> (by_cases hk : k = c; (subst hk; simp [e, h2]); simp [e, hk, h2])
  · rw [if_neg (fun z => h2 (e2.mp z))]
    by_cases h1 : l = 1
    · rw [if_pos (e1.mpr h1)]
      unfold f_Vw_addLamp_j47
      refine ⟨⟨?_, ?_⟩, by refine hp_fr.sl (hp_fr.sl hp_fr.rf ?_) ?_ <;> rfl⟩
      · rw [hp_s11, hp_s11, hp_sln (by omega)]
        refine ((v1.or (hp_bs.bit hc)).andn v2).cong (fun k hk => ?_)
        have a := hf k
        rcases (show f k = 0 ∨ f k = 1 ∨ f k = 2 by omega) with e | e | e <;> (by_cases hk : k = c; (subst hk; simp [e, h1]); simp [e, hk, h1])
      · rw [hp_sln (by omega), hp_sln (by omega)]
        refine v2.cong (fun k hk => ?_)
        have a := hf k
        rcases (show f k = 0 ∨ f k = 1 ∨ f k = 2 by omega) with e | e | e <;> (by_cases hk : k = c; (subst hk; simp [e, h1]); simp [e, hk, h1])
    · rw [if_neg (fun z => h1 (e1.mp z))]
      have h0 : l = 0 := by omega
      unfold f_Vw_addLamp_j47
      refine ⟨⟨?_, ?_⟩, by refine hp_fr.sl hp_fr.rf ?_; rfl⟩
      · rw [hp_s11]
        refine (v1.andn v2).cong (fun k hk => ?_)
        by_cases h4 : f k = 2 <;> by_cases h5 : f k = 1 <;> simp [h4, h5, h0]
      · rw [hp_sln (by omega)]
        exact v2.cong (fun k hk => by simp [h0])
theorem hx_g.cong {o : Nat} (h : ∀ i, i ≤ 9 → τ.1 (o + i) = σ.1 (o + i) ∧ τ.2 (o + i) = σ.2 (o + i)) (H : hx_g o G σ) : hx_g o G τ := by
  unfold hx_g at H ⊢
  have k0 : τ.1 o = σ.1 o := (h 0 (by omega)).1
  have l0 : τ.2 o = σ.2 o := (h 0 (by omega)).2
  simp only [k0, l0, (h 1 (by omega)).1, (h 2 (by omega)).1, (h 5 (by omega)).1, (h 6 (by omega)).2, (h 7 (by omega)).2, (h 8 (by omega)).1, (h 9 (by omega)).1]
  exact H
theorem hx_p.cong {o : Nat} (h : ∀ i, i ≤ 9 → τ.1 (o + i) = σ.1 (o + i) ∧ τ.2 (o + i) = σ.2 (o + i)) (H : hx_p o G P σ) : hx_p o G P τ := by
  unfold hx_p at H ⊢
  simp only [(h 3 (by omega)).1, (h 4 (by omega)).2]
  exact H
theorem hx.fr {D : Nat → Nat → Prop} (H : hx G P σ) (F : hp_fr D σ τ) (hD : ∀ q f, D q f → q < 4 ∨ (13 < q ∧ q < 27) ∨ 36 < q) : hx G P τ := by
  have e : ∀ q, ¬ (q < 4 ∨ (13 < q ∧ q < 27) ∨ 36 < q) → τ.1 q = σ.1 q ∧ τ.2 q = σ.2 q := fun q hq => ⟨funext fun f => F.i (fun z => hq (hD q f z)), funext fun f => F.l (fun z => hq (hD q f z))⟩
  obtain ⟨h1, h2, h3, h4, h5⟩ := H
  have h10 := h1.np
  refine ⟨h1, h2, h3.cong (fun i hi => e _ (by omega)), h4.cong (fun i hi => e _ (by omega)), fun p hp b hb => ?_⟩
  rw [(e (27 + p) (by omega)).1]
  exact h5 p hp b hb
theorem hx_look (H : hx G P σ) (hb : b < 100) (hd : d ≤ 1000) : ∃ τ, f_Vw_look (nI b) (hp_o d) σ = some τ ∧ hx_v (hp_li G P b d 1000 0) τ ∧ hp_fr (fun q _ => q = 37) σ τ := by
  have hnp := H.wg.np
  have hC := H.wg.C
  unfold f_Vw_look
  refine hp_bindX (hp_inv (b := f_Vw_look_L12 (nI b) (hp_o d)) (G 0 2) (fun k s => s.1 = nI k ∧ hx_v (fun c => hp_lt (hp_at G P b 1000 0) (hp_lamp P d) c k) s.2 ∧ hp_fr (fun q _ => q = 37) σ s.2) (fun τ => hx_v (hp_li G P b d 1000 0) τ ∧ hp_fr (fun q _ => q = 37) σ τ) (s := (0, hl_sl (hl_sl σ 37 2 0) 37 3 0)) (by omega) ?_ ?_ ?_) (fun τ h => ⟨τ, rfl, h⟩)
  · refine ⟨rfl, ⟨?_, ?_⟩, by refine hp_fr.sl (hp_fr.sl hp_fr.rf ?_) ?_ <;> rfl⟩
    · rw [hp_sln (by omega), hp_s11]
      exact hp_bs.zero.cong (fun c _ => rfl)
    · rw [hp_s11]
      exact hp_bs.zero.cong (fun c _ => rfl)
  · rintro k ⟨x, υ⟩ hk ⟨rfl, V, F⟩
    have H' := H.fr F (by omega)
    left
    unfold f_Vw_look_L12
    dsimp only
    rw [H'.np, if_neg (by first | omega | (simp (disch := first | assumption | omega) only [↓hp_neg1, hp_l0, hp_l1, hp_l2, hp_l3, hp_l4, hp_l5, hp_l6, hp_l7, hp_l8, hp_l9, hp_l10, hp_l11, hp_l12, hp_l13, hp_l14, hp_l15, hp_l16, hp_l17, hp_l18, hp_l19, hp_l20, hp_l21, hp_l22, hp_l23, hp_l24, hp_l25, hp_l26, hp_l27, hp_l28, hp_l29, hp_l30, hp_l31, hp_l32, hp_l33, hp_l34, hp_l35, hp_l36, hp_l37, hp_l38, hp_l39, hp_l40, hp_l41, hp_l42, hp_l43, hp_l44, hp_l45, hp_l46, hp_l47, hp_l48, hp_l49, hp_l50, hp_l51, hp_l52, hp_l53, hp_l54, hp_l55, hp_l56, hp_l57, hp_l58, hp_l59, hp_l60, hp_l61, hp_l62, hp_l63, hp_l64, hp_l65, hp_l66, hp_l67, hp_l68, hp_l69, hp_l70, hp_l71, hp_l72, hp_l73, hp_l74, hp_l75, hp_l76, hp_l77, hp_l78, hp_l79, hp_l80, hp_l81, hp_l82, hp_l83, hp_l84, hp_l85, hp_l86, hp_l87, hp_l88, hp_l89, hp_l90, hp_l91, hp_l92, hp_l93, hp_l94, hp_l95, hp_l96, hp_l97, hp_l98, hp_l99, hp_l100, hp_l101, hp_l102, hp_l103, hp_l104, hp_l105, hp_l106, hp_l107, hp_l108, hp_l109, hp_l110, hp_l111, hp_l112, hp_l113, hp_l114, hp_l115, hp_l116, hp_l117, hp_l118, hp_l119, hp_l120, hp_l121, hp_l122, hp_l123, hp_l124, hp_l125, hp_l126, hp_l127, hp_l141, hp_l142, hp_l150, hp_l151, hp_l152, hp_l153, hp_l251, hp_l255, hp_l256, hp_l300, hp_l432, hp_l864, hp_l1000, hp_l1600, hp_l1700, hp_l2304, hp_l2916, hp_l3000, hp_l9999, hp_l10000, nI_add, pk_mul, nI_clamp, hl_lt, hl_le, hl_eq, hl_nIb, hl_nsub, hp_eqm, hp_meq, hp_ltm, hp_mlt, hp_lem, hp_mle, hp_addm, hp_meqm, hp_mlem, hp_withinE, hp_within0, if_pos, if_neg, Option.bind_some, hp_let, Sum.elim_inl, Sum.elim_inr, hp_s01, hp_s11, hp_s2, true_and, and_true, if_true, if_false, not_true_eq_false, not_false_eq_true, reduceCtorEq] <;> omega))]
    by_cases e : k = d
    · rw [if_pos ((hp_o_eq (by omega) hd).mpr e)]
      refine ⟨_, rfl, nI_1 k, ?_, F⟩
      have : (fun c => hp_lt (hp_at G P b 1000 0) (hp_lamp P d) c (k + 1)) = fun c => hp_lt (hp_at G P b 1000 0) (hp_lamp P d) c k := by
        funext c
        show (if _ then _ else _) = _
        rw [if_neg]
        rintro ⟨_, z⟩
        unfold hp_lamp at z
        rw [if_pos e] at z
        omega
      rw [this]
      exact V
    · rw [if_neg (fun z => e ((hp_o_eq (by omega) hd).mp z)), hx_cell H' hk hb, Option.bind_some, if_pos (by first | omega | (simp (disch := first | assumption | omega) only [↓hp_neg1, hp_l0, hp_l1, hp_l2, hp_l3, hp_l4, hp_l5, hp_l6, hp_l7, hp_l8, hp_l9, hp_l10, hp_l11, hp_l12, hp_l13, hp_l14, hp_l15, hp_l16, hp_l17, hp_l18, hp_l19, hp_l20, hp_l21, hp_l22, hp_l23, hp_l24, hp_l25, hp_l26, hp_l27, hp_l28, hp_l29, hp_l30, hp_l31, hp_l32, hp_l33, hp_l34, hp_l35, hp_l36, hp_l37, hp_l38, hp_l39, hp_l40, hp_l41, hp_l42, hp_l43, hp_l44, hp_l45, hp_l46, hp_l47, hp_l48, hp_l49, hp_l50, hp_l51, hp_l52, hp_l53, hp_l54, hp_l55, hp_l56, hp_l57, hp_l58, hp_l59, hp_l60, hp_l61, hp_l62, hp_l63, hp_l64, hp_l65, hp_l66, hp_l67, hp_l68, hp_l69, hp_l70, hp_l71, hp_l72, hp_l73, hp_l74, hp_l75, hp_l76, hp_l77, hp_l78, hp_l79, hp_l80, hp_l81, hp_l82, hp_l83, hp_l84, hp_l85, hp_l86, hp_l87, hp_l88, hp_l89, hp_l90, hp_l91, hp_l92, hp_l93, hp_l94, hp_l95, hp_l96, hp_l97, hp_l98, hp_l99, hp_l100, hp_l101, hp_l102, hp_l103, hp_l104, hp_l105, hp_l106, hp_l107, hp_l108, hp_l109, hp_l110, hp_l111, hp_l112, hp_l113, hp_l114, hp_l115, hp_l116, hp_l117, hp_l118, hp_l119, hp_l120, hp_l121, hp_l122, hp_l123, hp_l124, hp_l125, hp_l126, hp_l127, hp_l141, hp_l142, hp_l150, hp_l151, hp_l152, hp_l153, hp_l251, hp_l255, hp_l256, hp_l300, hp_l432, hp_l864, hp_l1000, hp_l1600, hp_l1700, hp_l2304, hp_l2916, hp_l3000, hp_l9999, hp_l10000, nI_add, pk_mul, nI_clamp, hl_lt, hl_le, hl_eq, hl_nIb, hl_nsub, hp_eqm, hp_meq, hp_ltm, hp_mlt, hp_lem, hp_mle, hp_addm, hp_meqm, hp_mlem, hp_withinE, hp_within0, if_pos, if_neg, Option.bind_some, hp_let, Sum.elim_inl, Sum.elim_inr, hp_s01, hp_s11, hp_s2, true_and, and_true, if_true, if_false, not_true_eq_false, not_false_eq_true, reduceCtorEq] <;> omega)), nI_clamp (by omega), H'.lamp hk]
      have hw := hp_wh_lt (P := P) H.wg hk b
      obtain ⟨a1, a2⟩ := hx_addLamp V (c := hp_wh G P k b) (by omega) (H.wp k hk).1 (fun c => hp_lt_le (fun p hp => hp_lamp_le H.wp (by omega)))
      refine ⟨_, rfl, nI_1 k, ?_, F.tr a2⟩
      have : (fun c => hp_lt (hp_at G P b 1000 0) (hp_lamp P d) c (k + 1)) = fun c => if c = hp_wh G P k b ∧ hp_lt (hp_at G P b 1000 0) (hp_lamp P d) c k < P 0 k then P 0 k else hp_lt (hp_at G P b 1000 0) (hp_lamp P d) c k := by
        funext c
        have e1 : hp_at G P b 1000 0 k = hp_wh G P k b := if_neg (by omega)
        have e2 : hp_lamp P d k = P 0 k := if_neg e
        show (if hp_at G P b 1000 0 k = c ∧ _ < hp_lamp P d k then hp_lamp P d k else _) = _
        rw [e1, e2]
        by_cases e3 : c = hp_wh G P k b
        · rw [e3]
        · rw [if_neg (fun z => e3 z.1.symm), if_neg (fun z => e3 z.1)]
      rw [this]
      exact a1
  · rintro ⟨x, υ⟩ ⟨rfl, V, F⟩
    have H' := H.fr F (by omega)
    unfold f_Vw_look_L12
    dsimp only
    rw [H'.np, if_pos (by first | omega | (simp (disch := first | assumption | omega) only [↓hp_neg1, hp_l0, hp_l1, hp_l2, hp_l3, hp_l4, hp_l5, hp_l6, hp_l7, hp_l8, hp_l9, hp_l10, hp_l11, hp_l12, hp_l13, hp_l14, hp_l15, hp_l16, hp_l17, hp_l18, hp_l19, hp_l20, hp_l21, hp_l22, hp_l23, hp_l24, hp_l25, hp_l26, hp_l27, hp_l28, hp_l29, hp_l30, hp_l31, hp_l32, hp_l33, hp_l34, hp_l35, hp_l36, hp_l37, hp_l38, hp_l39, hp_l40, hp_l41, hp_l42, hp_l43, hp_l44, hp_l45, hp_l46, hp_l47, hp_l48, hp_l49, hp_l50, hp_l51, hp_l52, hp_l53, hp_l54, hp_l55, hp_l56, hp_l57, hp_l58, hp_l59, hp_l60, hp_l61, hp_l62, hp_l63, hp_l64, hp_l65, hp_l66, hp_l67, hp_l68, hp_l69, hp_l70, hp_l71, hp_l72, hp_l73, hp_l74, hp_l75, hp_l76, hp_l77, hp_l78, hp_l79, hp_l80, hp_l81, hp_l82, hp_l83, hp_l84, hp_l85, hp_l86, hp_l87, hp_l88, hp_l89, hp_l90, hp_l91, hp_l92, hp_l93, hp_l94, hp_l95, hp_l96, hp_l97, hp_l98, hp_l99, hp_l100, hp_l101, hp_l102, hp_l103, hp_l104, hp_l105, hp_l106, hp_l107, hp_l108, hp_l109, hp_l110, hp_l111, hp_l112, hp_l113, hp_l114, hp_l115, hp_l116, hp_l117, hp_l118, hp_l119, hp_l120, hp_l121, hp_l122, hp_l123, hp_l124, hp_l125, hp_l126, hp_l127, hp_l141, hp_l142, hp_l150, hp_l151, hp_l152, hp_l153, hp_l251, hp_l255, hp_l256, hp_l300, hp_l432, hp_l864, hp_l1000, hp_l1600, hp_l1700, hp_l2304, hp_l2916, hp_l3000, hp_l9999, hp_l10000, nI_add, pk_mul, nI_clamp, hl_lt, hl_le, hl_eq, hl_nIb, hl_nsub, hp_eqm, hp_meq, hp_ltm, hp_mlt, hp_lem, hp_mle, hp_addm, hp_meqm, hp_mlem, hp_withinE, hp_within0, if_pos, if_neg, Option.bind_some, hp_let, Sum.elim_inl, Sum.elim_inr, hp_s01, hp_s11, hp_s2, true_and, and_true, if_true, if_false, not_true_eq_false, not_false_eq_true, reduceCtorEq] <;> omega))]
    exact ⟨υ, rfl, V, F⟩
/-- how far -/
def hp_far (G : hp_G) (f : Nat → Nat) (w : Nat) : Nat := fb_ct (fun c => decide (f c ≠ G (30 + w) c)) 54
theorem hp_wg.wl (h : hp_wg G) (hw : w < G 0 3) (c : Nat) : G (30 + w) c ≤ 2 := ((h.2.2.2.2.2.2.2 w hw).1 c).1
theorem hp_wg.wlo (h : hp_wg G) (hw : w < G 0 3) (hc : hp_C G ≤ c) : G (30 + w) c = 0 := ((h.2.2.2.2.2.2.2 w hw).1 c).2 hc
theorem hp_far_le {f : Nat → Nat} : hp_far G f w ≤ 54 := fb_ct_le _ _
theorem hx_far {f : Nat → Nat} (H : hx G P σ) (V : hx_v f σ) (hf : ∀ c, f c ≤ 2) (hw : w < G 0 3) : f_Vw_farFrom (nI w) σ = some (nI (hp_far G f w)) := by
  have := H.wg.nw
  unfold f_Vw_farFrom
  rw [H.nw, hp_withinT hw (by omega), if_neg (by decide), if_pos (by first | omega | (simp (disch := first | assumption | omega) only [↓hp_neg1, hp_l0, hp_l1, hp_l2, hp_l3, hp_l4, hp_l5, hp_l6, hp_l7, hp_l8, hp_l9, hp_l10, hp_l11, hp_l12, hp_l13, hp_l14, hp_l15, hp_l16, hp_l17, hp_l18, hp_l19, hp_l20, hp_l21, hp_l22, hp_l23, hp_l24, hp_l25, hp_l26, hp_l27, hp_l28, hp_l29, hp_l30, hp_l31, hp_l32, hp_l33, hp_l34, hp_l35, hp_l36, hp_l37, hp_l38, hp_l39, hp_l40, hp_l41, hp_l42, hp_l43, hp_l44, hp_l45, hp_l46, hp_l47, hp_l48, hp_l49, hp_l50, hp_l51, hp_l52, hp_l53, hp_l54, hp_l55, hp_l56, hp_l57, hp_l58, hp_l59, hp_l60, hp_l61, hp_l62, hp_l63, hp_l64, hp_l65, hp_l66, hp_l67, hp_l68, hp_l69, hp_l70, hp_l71, hp_l72, hp_l73, hp_l74, hp_l75, hp_l76, hp_l77, hp_l78, hp_l79, hp_l80, hp_l81, hp_l82, hp_l83, hp_l84, hp_l85, hp_l86, hp_l87, hp_l88, hp_l89, hp_l90, hp_l91, hp_l92, hp_l93, hp_l94, hp_l95, hp_l96, hp_l97, hp_l98, hp_l99, hp_l100, hp_l101, hp_l102, hp_l103, hp_l104, hp_l105, hp_l106, hp_l107, hp_l108, hp_l109, hp_l110, hp_l111, hp_l112, hp_l113, hp_l114, hp_l115, hp_l116, hp_l117, hp_l118, hp_l119, hp_l120, hp_l121, hp_l122, hp_l123, hp_l124, hp_l125, hp_l126, hp_l127, hp_l141, hp_l142, hp_l150, hp_l151, hp_l152, hp_l153, hp_l251, hp_l255, hp_l256, hp_l300, hp_l432, hp_l864, hp_l1000, hp_l1600, hp_l1700, hp_l2304, hp_l2916, hp_l3000, hp_l9999, hp_l10000, nI_add, pk_mul, nI_clamp, hl_lt, hl_le, hl_eq, hl_nIb, hl_nsub, hp_eqm, hp_meq, hp_ltm, hp_mlt, hp_lem, hp_mle, hp_addm, hp_meqm, hp_mlem, hp_withinE, hp_within0, if_pos, if_neg, Option.bind_some, hp_let, Sum.elim_inl, Sum.elim_inr, hp_s01, hp_s11, hp_s2, true_and, and_true, if_true, if_false, not_true_eq_false, not_false_eq_true, reduceCtorEq] <;> omega)), if_pos (by first | omega | (simp (disch := first | assumption | omega) only [↓hp_neg1, hp_l0, hp_l1, hp_l2, hp_l3, hp_l4, hp_l5, hp_l6, hp_l7, hp_l8, hp_l9, hp_l10, hp_l11, hp_l12, hp_l13, hp_l14, hp_l15, hp_l16, hp_l17, hp_l18, hp_l19, hp_l20, hp_l21, hp_l22, hp_l23, hp_l24, hp_l25, hp_l26, hp_l27, hp_l28, hp_l29, hp_l30, hp_l31, hp_l32, hp_l33, hp_l34, hp_l35, hp_l36, hp_l37, hp_l38, hp_l39, hp_l40, hp_l41, hp_l42, hp_l43, hp_l44, hp_l45, hp_l46, hp_l47, hp_l48, hp_l49, hp_l50, hp_l51, hp_l52, hp_l53, hp_l54, hp_l55, hp_l56, hp_l57, hp_l58, hp_l59, hp_l60, hp_l61, hp_l62, hp_l63, hp_l64, hp_l65, hp_l66, hp_l67, hp_l68, hp_l69, hp_l70, hp_l71, hp_l72, hp_l73, hp_l74, hp_l75, hp_l76, hp_l77, hp_l78, hp_l79, hp_l80, hp_l81, hp_l82, hp_l83, hp_l84, hp_l85, hp_l86, hp_l87, hp_l88, hp_l89, hp_l90, hp_l91, hp_l92, hp_l93, hp_l94, hp_l95, hp_l96, hp_l97, hp_l98, hp_l99, hp_l100, hp_l101, hp_l102, hp_l103, hp_l104, hp_l105, hp_l106, hp_l107, hp_l108, hp_l109, hp_l110, hp_l111, hp_l112, hp_l113, hp_l114, hp_l115, hp_l116, hp_l117, hp_l118, hp_l119, hp_l120, hp_l121, hp_l122, hp_l123, hp_l124, hp_l125, hp_l126, hp_l127, hp_l141, hp_l142, hp_l150, hp_l151, hp_l152, hp_l153, hp_l251, hp_l255, hp_l256, hp_l300, hp_l432, hp_l864, hp_l1000, hp_l1600, hp_l1700, hp_l2304, hp_l2916, hp_l3000, hp_l9999, hp_l10000, nI_add, pk_mul, nI_clamp, hl_lt, hl_le, hl_eq, hl_nIb, hl_nsub, hp_eqm, hp_meq, hp_ltm, hp_mlt, hp_lem, hp_mle, hp_addm, hp_meqm, hp_mlem, hp_withinE, hp_within0, if_pos, if_neg, Option.bind_some, hp_let, Sum.elim_inl, Sum.elim_inr, hp_s01, hp_s11, hp_s2, true_and, and_true, if_true, if_false, not_true_eq_false, not_false_eq_true, reduceCtorEq] <;> omega)), nI_clamp (by omega)]
  rw [((V.1.xor (H.one hw)).or (V.2.xor (H.two hw))).cong (q := fun c => decide (f c ≠ G (30 + w) c)) ?_ |>.cnt]
  · rfl
  · intro c _
    have a1 := hf c
    have a2 := H.wg.wl hw c
    generalize f c = x at a1
    generalize G (30 + w) c = y at a2
    have : ∀ x, x < 3 → ∀ y, y < 3 → ((decide (x = 1) ^^ decide (y = 1)) || (decide (x = 2) ^^ decide (y = 2))) = decide (x ≠ y) := by decide
    exact this x (by omega) y (by omega)
theorem fb_ct_cut {q : Nat → Bool} {n k : Nat} (hk : k ≤ n) (h : ∀ c, k ≤ c → c < n → q c = false) : fb_ct q n = fb_ct q k := by
  obtain ⟨j, rfl⟩ : ∃ j, n = k + j := ⟨n - k, by omega⟩
  rw [fb_ct_split]
  have : fb_ct (fun i => q (k + i)) j = 0 := fb_ct_zero.mpr (fun i hi => h _ (by omega) (by omega))
  omega
/-- the cell that stands upside down -/
def hp_mir (G : hp_G) (c : Nat) : Nat := G 0 0 * (G 0 1 - 1 - c / G 0 0) + c % G 0 0
theorem hp_mir_lt (hG : hp_wg G) (hc : c < hp_C G) : hp_mir G c < hp_C G := by
  obtain ⟨w3, h3⟩ := hG.W0 hc
  have hm : c % G 0 0 < G 0 0 := Nat.mod_lt _ (by omega)
  have h2 : G 0 0 * (G 0 1 - 1 - c / G 0 0 + 1) ≤ G 0 0 * G 0 1 := Nat.mul_le_mul_left _ (by have := Nat.sub_le (G 0 1 - 1) (c / G 0 0); omega)
  rw [Nat.mul_add, Nat.mul_one] at h2
  unfold hp_mir hp_C
  omega
/-- as it is seen: from the tower, or from below -/
def hp_see (G : hp_G) (u : Nat) (f : Nat → Nat) (c : Nat) : Nat := if u = 0 then f c else if c < hp_C G then f (hp_mir G c) else 0
theorem hp_see_le {u : Nat} {f : Nat → Nat} (hf : ∀ c, f c ≤ 2) : hp_see G u f c ≤ 2 := by
  unfold hp_see
  split
  · exact hf c
  · split
    · exact hf _
    · omega
theorem hm_far {f : Nat → Nat} {u : Nat} (H : hm G P τ) (hu : u ≤ 1) (L : ∀ c, c < hp_C G → f_M_litIn (nI b) (nI c) τ = some (nI (f c))) (hf : ∀ c, f c ≤ 2) (hf0 : ∀ c, hp_C G ≤ c → f c = 0) (hw : w < G 0 3) : f_M_farFrom (nI b) (nI w) (nI u) τ = some (nI (hp_far G (hp_see G u f) w)) := by
  have hC := H.wg.C
  have hnw := H.wg.nw
  have w9 := H.wg.W
  have h6 := H.wg.H
  have e54 : hp_far G (hp_see G u f) w = fb_ct (fun c => decide (hp_see G u f c ≠ G (30 + w) c)) (hp_C G) := by
    apply fb_ct_cut hC
    intro c h1 _
    rw [H.wg.wlo hw h1]
    have : hp_see G u f c = 0 := by
      unfold hp_see
      rw [hf0 c h1, if_neg (show ¬ c < hp_C G by omega)]
      split <;> rfl
    rw [this]
    rfl
  unfold f_M_farFrom
  refine hp_bindE (nI (hp_far G (hp_see G u f) w)) (hp_for' (hp_C G) (fun k => (nI (fb_ct (fun c => decide (hp_see G u f c ≠ G (30 + w) c)) k), nI k)) rfl (by omega) ?_ ?_) rfl
  · intro k hk
    have hle := fb_ct_le (fun c => decide (hp_see G u f c ≠ G (30 + w) c)) k
    have hwl := H.wg.wl hw k
    have hs := hp_see_le (G := G) (u := u) (c := k) hf
    have key : ∀ a, a < hp_C G → f a = hp_see G u f k → f_M_farFrom_j51 (nI b) (nI w) (nI u) (nI (fb_ct (fun c => decide (hp_see G u f c ≠ G (30 + w) c)) k)) (nI k) (nI a) τ = some (.inl (nI (fb_ct (fun c => decide (hp_see G u f c ≠ G (30 + w) c)) (k + 1)), nI (k + 1))) := by
      intro a ha ea
      unfold f_M_farFrom_j51
      rw [L a ha, Option.bind_some, ea, fb_ct_succ]
      simp (disch := first | assumption | omega) only [↓hp_neg1, hp_l0, hp_l1, hp_l2, hp_l3, hp_l4, hp_l5, hp_l6, hp_l7, hp_l8, hp_l9, hp_l10, hp_l11, hp_l12, hp_l13, hp_l14, hp_l15, hp_l16, hp_l17, hp_l18, hp_l19, hp_l20, hp_l21, hp_l22, hp_l23, hp_l24, hp_l25, hp_l26, hp_l27, hp_l28, hp_l29, hp_l30, hp_l31, hp_l32, hp_l33, hp_l34, hp_l35, hp_l36, hp_l37, hp_l38, hp_l39, hp_l40, hp_l41, hp_l42, hp_l43, hp_l44, hp_l45, hp_l46, hp_l47, hp_l48, hp_l49, hp_l50, hp_l51, hp_l52, hp_l53, hp_l54, hp_l55, hp_l56, hp_l57, hp_l58, hp_l59, hp_l60, hp_l61, hp_l62, hp_l63, hp_l64, hp_l65, hp_l66, hp_l67, hp_l68, hp_l69, hp_l70, hp_l71, hp_l72, hp_l73, hp_l74, hp_l75, hp_l76, hp_l77, hp_l78, hp_l79, hp_l80, hp_l81, hp_l82, hp_l83, hp_l84, hp_l85, hp_l86, hp_l87, hp_l88, hp_l89, hp_l90, hp_l91, hp_l92, hp_l93, hp_l94, hp_l95, hp_l96, hp_l97, hp_l98, hp_l99, hp_l100, hp_l101, hp_l102, hp_l103, hp_l104, hp_l105, hp_l106, hp_l107, hp_l108, hp_l109, hp_l110, hp_l111, hp_l112, hp_l113, hp_l114, hp_l115, hp_l116, hp_l117, hp_l118, hp_l119, hp_l120, hp_l121, hp_l122, hp_l123, hp_l124, hp_l125, hp_l126, hp_l127, hp_l141, hp_l142, hp_l150, hp_l151, hp_l152, hp_l153, hp_l251, hp_l255, hp_l256, hp_l300, hp_l432, hp_l864, hp_l1000, hp_l1600, hp_l1700, hp_l2304, hp_l2916, hp_l3000, hp_l9999, hp_l10000, nI_add, pk_mul, nI_clamp, hl_lt, hl_le, hl_eq, hl_nIb, hl_nsub, hp_eqm, hp_meq, hp_ltm, hp_mlt, hp_lem, hp_mle, hp_addm, hp_meqm, hp_mlem, hp_withinE, hp_within0, if_pos, if_neg, Option.bind_some, hp_let, Sum.elim_inl, Sum.elim_inr, hp_s01, hp_s11, hp_s2, true_and, and_true, if_true, if_false, not_true_eq_false, not_false_eq_true, reduceCtorEq, H.wl]
      by_cases e : hp_see G u f k = G (30 + w) k
      · simp [e]
      · simp [e]
    unfold f_M_farFrom_L6
    dsimp only
    rw [hm_cells H, if_neg (by first | omega | (simp (disch := first | assumption | omega) only [↓hp_neg1, hp_l0, hp_l1, hp_l2, hp_l3, hp_l4, hp_l5, hp_l6, hp_l7, hp_l8, hp_l9, hp_l10, hp_l11, hp_l12, hp_l13, hp_l14, hp_l15, hp_l16, hp_l17, hp_l18, hp_l19, hp_l20, hp_l21, hp_l22, hp_l23, hp_l24, hp_l25, hp_l26, hp_l27, hp_l28, hp_l29, hp_l30, hp_l31, hp_l32, hp_l33, hp_l34, hp_l35, hp_l36, hp_l37, hp_l38, hp_l39, hp_l40, hp_l41, hp_l42, hp_l43, hp_l44, hp_l45, hp_l46, hp_l47, hp_l48, hp_l49, hp_l50, hp_l51, hp_l52, hp_l53, hp_l54, hp_l55, hp_l56, hp_l57, hp_l58, hp_l59, hp_l60, hp_l61, hp_l62, hp_l63, hp_l64, hp_l65, hp_l66, hp_l67, hp_l68, hp_l69, hp_l70, hp_l71, hp_l72, hp_l73, hp_l74, hp_l75, hp_l76, hp_l77, hp_l78, hp_l79, hp_l80, hp_l81, hp_l82, hp_l83, hp_l84, hp_l85, hp_l86, hp_l87, hp_l88, hp_l89, hp_l90, hp_l91, hp_l92, hp_l93, hp_l94, hp_l95, hp_l96, hp_l97, hp_l98, hp_l99, hp_l100, hp_l101, hp_l102, hp_l103, hp_l104, hp_l105, hp_l106, hp_l107, hp_l108, hp_l109, hp_l110, hp_l111, hp_l112, hp_l113, hp_l114, hp_l115, hp_l116, hp_l117, hp_l118, hp_l119, hp_l120, hp_l121, hp_l122, hp_l123, hp_l124, hp_l125, hp_l126, hp_l127, hp_l141, hp_l142, hp_l150, hp_l151, hp_l152, hp_l153, hp_l251, hp_l255, hp_l256, hp_l300, hp_l432, hp_l864, hp_l1000, hp_l1600, hp_l1700, hp_l2304, hp_l2916, hp_l3000, hp_l9999, hp_l10000, nI_add, pk_mul, nI_clamp, hl_lt, hl_le, hl_eq, hl_nIb, hl_nsub, hp_eqm, hp_meq, hp_ltm, hp_mlt, hp_lem, hp_mle, hp_addm, hp_meqm, hp_mlem, hp_withinE, hp_within0, if_pos, if_neg, Option.bind_some, hp_let, Sum.elim_inl, Sum.elim_inr, hp_s01, hp_s11, hp_s2, true_and, and_true, if_true, if_false, not_true_eq_false, not_false_eq_true, reduceCtorEq] <;> omega))]
    by_cases hu0 : u = 0
    · rw [if_pos (by rw [hu0]; rfl)]
      exact key k hk (by unfold hp_see; rw [if_pos hu0])
    · obtain ⟨w3, h3⟩ := H.wg.W0 hk
      rw [if_neg (by first | omega | (simp (disch := first | assumption | omega) only [↓hp_neg1, hp_l0, hp_l1, hp_l2, hp_l3, hp_l4, hp_l5, hp_l6, hp_l7, hp_l8, hp_l9, hp_l10, hp_l11, hp_l12, hp_l13, hp_l14, hp_l15, hp_l16, hp_l17, hp_l18, hp_l19, hp_l20, hp_l21, hp_l22, hp_l23, hp_l24, hp_l25, hp_l26, hp_l27, hp_l28, hp_l29, hp_l30, hp_l31, hp_l32, hp_l33, hp_l34, hp_l35, hp_l36, hp_l37, hp_l38, hp_l39, hp_l40, hp_l41, hp_l42, hp_l43, hp_l44, hp_l45, hp_l46, hp_l47, hp_l48, hp_l49, hp_l50, hp_l51, hp_l52, hp_l53, hp_l54, hp_l55, hp_l56, hp_l57, hp_l58, hp_l59, hp_l60, hp_l61, hp_l62, hp_l63, hp_l64, hp_l65, hp_l66, hp_l67, hp_l68, hp_l69, hp_l70, hp_l71, hp_l72, hp_l73, hp_l74, hp_l75, hp_l76, hp_l77, hp_l78, hp_l79, hp_l80, hp_l81, hp_l82, hp_l83, hp_l84, hp_l85, hp_l86, hp_l87, hp_l88, hp_l89, hp_l90, hp_l91, hp_l92, hp_l93, hp_l94, hp_l95, hp_l96, hp_l97, hp_l98, hp_l99, hp_l100, hp_l101, hp_l102, hp_l103, hp_l104, hp_l105, hp_l106, hp_l107, hp_l108, hp_l109, hp_l110, hp_l111, hp_l112, hp_l113, hp_l114, hp_l115, hp_l116, hp_l117, hp_l118, hp_l119, hp_l120, hp_l121, hp_l122, hp_l123, hp_l124, hp_l125, hp_l126, hp_l127, hp_l141, hp_l142, hp_l150, hp_l151, hp_l152, hp_l153, hp_l251, hp_l255, hp_l256, hp_l300, hp_l432, hp_l864, hp_l1000, hp_l1600, hp_l1700, hp_l2304, hp_l2916, hp_l3000, hp_l9999, hp_l10000, nI_add, pk_mul, nI_clamp, hl_lt, hl_le, hl_eq, hl_nIb, hl_nsub, hp_eqm, hp_meq, hp_ltm, hp_mlt, hp_lem, hp_mle, hp_addm, hp_meqm, hp_mlem, hp_withinE, hp_within0, if_pos, if_neg, Option.bind_some, hp_let, Sum.elim_inl, Sum.elim_inr, hp_s01, hp_s11, hp_s2, true_and, and_true, if_true, if_false, not_true_eq_false, not_false_eq_true, reduceCtorEq] <;> omega)), H.W, if_neg (by first | omega | (simp (disch := first | assumption | omega) only [↓hp_neg1, hp_l0, hp_l1, hp_l2, hp_l3, hp_l4, hp_l5, hp_l6, hp_l7, hp_l8, hp_l9, hp_l10, hp_l11, hp_l12, hp_l13, hp_l14, hp_l15, hp_l16, hp_l17, hp_l18, hp_l19, hp_l20, hp_l21, hp_l22, hp_l23, hp_l24, hp_l25, hp_l26, hp_l27, hp_l28, hp_l29, hp_l30, hp_l31, hp_l32, hp_l33, hp_l34, hp_l35, hp_l36, hp_l37, hp_l38, hp_l39, hp_l40, hp_l41, hp_l42, hp_l43, hp_l44, hp_l45, hp_l46, hp_l47, hp_l48, hp_l49, hp_l50, hp_l51, hp_l52, hp_l53, hp_l54, hp_l55, hp_l56, hp_l57, hp_l58, hp_l59, hp_l60, hp_l61, hp_l62, hp_l63, hp_l64, hp_l65, hp_l66, hp_l67, hp_l68, hp_l69, hp_l70, hp_l71, hp_l72, hp_l73, hp_l74, hp_l75, hp_l76, hp_l77, hp_l78, hp_l79, hp_l80, hp_l81, hp_l82, hp_l83, hp_l84, hp_l85, hp_l86, hp_l87, hp_l88, hp_l89, hp_l90, hp_l91, hp_l92, hp_l93, hp_l94, hp_l95, hp_l96, hp_l97, hp_l98, hp_l99, hp_l100, hp_l101, hp_l102, hp_l103, hp_l104, hp_l105, hp_l106, hp_l107, hp_l108, hp_l109, hp_l110, hp_l111, hp_l112, hp_l113, hp_l114, hp_l115, hp_l116, hp_l117, hp_l118, hp_l119, hp_l120, hp_l121, hp_l122, hp_l123, hp_l124, hp_l125, hp_l126, hp_l127, hp_l141, hp_l142, hp_l150, hp_l151, hp_l152, hp_l153, hp_l251, hp_l255, hp_l256, hp_l300, hp_l432, hp_l864, hp_l1000, hp_l1600, hp_l1700, hp_l2304, hp_l2916, hp_l3000, hp_l9999, hp_l10000, nI_add, pk_mul, nI_clamp, hl_lt, hl_le, hl_eq, hl_nIb, hl_nsub, hp_eqm, hp_meq, hp_ltm, hp_mlt, hp_lem, hp_mle, hp_addm, hp_meqm, hp_mlem, hp_withinE, hp_within0, if_pos, if_neg, Option.bind_some, hp_let, Sum.elim_inl, Sum.elim_inr, hp_s01, hp_s11, hp_s2, true_and, and_true, if_true, if_false, not_true_eq_false, not_false_eq_true, reduceCtorEq] <;> omega)), if_neg (by first | omega | (simp (disch := first | assumption | omega) only [↓hp_neg1, hp_l0, hp_l1, hp_l2, hp_l3, hp_l4, hp_l5, hp_l6, hp_l7, hp_l8, hp_l9, hp_l10, hp_l11, hp_l12, hp_l13, hp_l14, hp_l15, hp_l16, hp_l17, hp_l18, hp_l19, hp_l20, hp_l21, hp_l22, hp_l23, hp_l24, hp_l25, hp_l26, hp_l27, hp_l28, hp_l29, hp_l30, hp_l31, hp_l32, hp_l33, hp_l34, hp_l35, hp_l36, hp_l37, hp_l38, hp_l39, hp_l40, hp_l41, hp_l42, hp_l43, hp_l44, hp_l45, hp_l46, hp_l47, hp_l48, hp_l49, hp_l50, hp_l51, hp_l52, hp_l53, hp_l54, hp_l55, hp_l56, hp_l57, hp_l58, hp_l59, hp_l60, hp_l61, hp_l62, hp_l63, hp_l64, hp_l65, hp_l66, hp_l67, hp_l68, hp_l69, hp_l70, hp_l71, hp_l72, hp_l73, hp_l74, hp_l75, hp_l76, hp_l77, hp_l78, hp_l79, hp_l80, hp_l81, hp_l82, hp_l83, hp_l84, hp_l85, hp_l86, hp_l87, hp_l88, hp_l89, hp_l90, hp_l91, hp_l92, hp_l93, hp_l94, hp_l95, hp_l96, hp_l97, hp_l98, hp_l99, hp_l100, hp_l101, hp_l102, hp_l103, hp_l104, hp_l105, hp_l106, hp_l107, hp_l108, hp_l109, hp_l110, hp_l111, hp_l112, hp_l113, hp_l114, hp_l115, hp_l116, hp_l117, hp_l118, hp_l119, hp_l120, hp_l121, hp_l122, hp_l123, hp_l124, hp_l125, hp_l126, hp_l127, hp_l141, hp_l142, hp_l150, hp_l151, hp_l152, hp_l153, hp_l251, hp_l255, hp_l256, hp_l300, hp_l432, hp_l864, hp_l1000, hp_l1600, hp_l1700, hp_l2304, hp_l2916, hp_l3000, hp_l9999, hp_l10000, nI_add, pk_mul, nI_clamp, hl_lt, hl_le, hl_eq, hl_nIb, hl_nsub, hp_eqm, hp_meq, hp_ltm, hp_mlt, hp_lem, hp_mle, hp_addm, hp_meqm, hp_mlem, hp_withinE, hp_within0, if_pos, if_neg, Option.bind_some, hp_let, Sum.elim_inl, Sum.elim_inr, hp_s01, hp_s11, hp_s2, true_and, and_true, if_true, if_false, not_true_eq_false, not_false_eq_true, reduceCtorEq] <;> omega)), H.H, pk_rem (by omega) (by omega) (by omega), pk_div (by omega) (by omega) (by omega)]
      have hd : k / G 0 0 < G 0 1 := Nat.div_lt_of_lt_mul hk
      rw [show (1 : Int32) = nI 1 from rfl, pk_sub (by omega), pk_sub (by omega), pk_mul, nI_add]
      exact key (hp_mir G k) (hp_mir_lt H.wg hk) (by unfold hp_see; rw [if_neg hu0, if_pos hk])
  · unfold f_M_farFrom_L6
    dsimp only
    rw [hm_cells H, if_pos (by first | omega | (simp (disch := first | assumption | omega) only [↓hp_neg1, hp_l0, hp_l1, hp_l2, hp_l3, hp_l4, hp_l5, hp_l6, hp_l7, hp_l8, hp_l9, hp_l10, hp_l11, hp_l12, hp_l13, hp_l14, hp_l15, hp_l16, hp_l17, hp_l18, hp_l19, hp_l20, hp_l21, hp_l22, hp_l23, hp_l24, hp_l25, hp_l26, hp_l27, hp_l28, hp_l29, hp_l30, hp_l31, hp_l32, hp_l33, hp_l34, hp_l35, hp_l36, hp_l37, hp_l38, hp_l39, hp_l40, hp_l41, hp_l42, hp_l43, hp_l44, hp_l45, hp_l46, hp_l47, hp_l48, hp_l49, hp_l50, hp_l51, hp_l52, hp_l53, hp_l54, hp_l55, hp_l56, hp_l57, hp_l58, hp_l59, hp_l60, hp_l61, hp_l62, hp_l63, hp_l64, hp_l65, hp_l66, hp_l67, hp_l68, hp_l69, hp_l70, hp_l71, hp_l72, hp_l73, hp_l74, hp_l75, hp_l76, hp_l77, hp_l78, hp_l79, hp_l80, hp_l81, hp_l82, hp_l83, hp_l84, hp_l85, hp_l86, hp_l87, hp_l88, hp_l89, hp_l90, hp_l91, hp_l92, hp_l93, hp_l94, hp_l95, hp_l96, hp_l97, hp_l98, hp_l99, hp_l100, hp_l101, hp_l102, hp_l103, hp_l104, hp_l105, hp_l106, hp_l107, hp_l108, hp_l109, hp_l110, hp_l111, hp_l112, hp_l113, hp_l114, hp_l115, hp_l116, hp_l117, hp_l118, hp_l119, hp_l120, hp_l121, hp_l122, hp_l123, hp_l124, hp_l125, hp_l126, hp_l127, hp_l141, hp_l142, hp_l150, hp_l151, hp_l152, hp_l153, hp_l251, hp_l255, hp_l256, hp_l300, hp_l432, hp_l864, hp_l1000, hp_l1600, hp_l1700, hp_l2304, hp_l2916, hp_l3000, hp_l9999, hp_l10000, nI_add, pk_mul, nI_clamp, hl_lt, hl_le, hl_eq, hl_nIb, hl_nsub, hp_eqm, hp_meq, hp_ltm, hp_mlt, hp_lem, hp_mle, hp_addm, hp_meqm, hp_mlem, hp_withinE, hp_within0, if_pos, if_neg, Option.bind_some, hp_let, Sum.elim_inl, Sum.elim_inr, hp_s01, hp_s11, hp_s2, true_and, and_true, if_true, if_false, not_true_eq_false, not_false_eq_true, reduceCtorEq] <;> omega)), e54]
end VW
