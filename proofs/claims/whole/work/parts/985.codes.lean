/-! questions: codes and the stack in memory -/
def hq_xc (v : Nat) : Int32 := if 1000 ≤ v then nI (v - 1000) else if 60 ≤ v then ([-5, -6, -7] : List Int32).getD (v - 60) 0 else if 40 ≤ v then ([-1, -2, -3, -4] : List Int32).getD (v - 40) 0 else ([0, -11, -12, -13, -14, -9, -10, -15, -16, -17, -18, -19, -8, 1] : List Int32).getD v 0
def hx_q (C : List Nat) (o : Nat) (σ : hl_M) : Prop := σ.1 55 6 = nI C.length ∧ (∀ i v, C[i]? = some v → σ.1 56 i = hq_xc v) ∧ σ.1 55 8 = nI o
def hm_s : List Nat → hl_M → Prop
  | [], _ => True
  | v :: W, τ => τ.1 111 W.length = nI v ∧ hm_s W τ
def hm_q (C W : List Nat) (o bs : Nat) (τ : hl_M) : Prop := (τ.1 64 72 = nI C.length ∧ ∀ i v, C[i]? = some v → τ.1 110 i = nI v) ∧ (τ.1 64 74 = nI W.length ∧ hm_s W τ) ∧ τ.1 64 75 = nI o ∧ τ.1 64 76 = nI bs
def hx_QD (q f : Nat) : Prop := q = 3 ∨ (q = 55 ∧ (f = 6 ∨ f = 8)) ∨ q = 56
def hm_QD (q f : Nat) : Prop := hm_FD q f ∨ (q = 64 ∧ 72 ≤ f ∧ f ≤ 76) ∨ q = 110 ∨ q = 111
section CODES
variable {σ τ υ : hl_M} {C W : List Nat} {v o bs k w : Nat} {D : Nat → Nat → Prop}
theorem hm_s.fr : ∀ {W : List Nat}, (∀ i, i < W.length → υ.1 111 i = τ.1 111 i) → hm_s W τ → hm_s W υ
  | [], _, _ => trivial
  | _ :: W, h, ⟨h1, h2⟩ => ⟨(h W.length (by simp)).trans h1, hm_s.fr (fun i hi => h i (by simp; omega)) h2⟩
theorem hx_q.fr (H : hx_q C o σ) (F : hp_fr D σ τ) (h : ∀ q f, D q f → q ≠ 56 ∧ ¬ (q = 55 ∧ (f = 6 ∨ f = 8))) : hx_q C o τ := by
  refine ⟨?_, fun i v hi => ?_, ?_⟩
  · rw [F.i (fun z => (h _ _ z).2 ⟨rfl, .inl rfl⟩)]; exact H.1
  · rw [F.i (fun z => (h _ _ z).1 rfl)]; exact H.2.1 i v hi
  · rw [F.i (fun z => (h _ _ z).2 ⟨rfl, .inr rfl⟩)]; exact H.2.2
theorem hm_q.fr (H : hm_q C W o bs σ) (F : hp_fr D σ τ) (h : ∀ q f, D q f → q ≠ 110 ∧ q ≠ 111 ∧ ¬ (q = 64 ∧ 72 ≤ f ∧ f ≤ 76)) : hm_q C W o bs τ := by
  obtain ⟨⟨a1, a2⟩, ⟨a3, a4⟩, a5, a6⟩ := H
  refine ⟨⟨?_, fun i v hi => ?_⟩, ⟨?_, a4.fr (fun i hi => F.i (fun z => (h _ _ z).2.1 rfl))⟩, ?_, ?_⟩
  · rw [F.i (fun z => (h _ _ z).2.2 ⟨rfl, by omega⟩)]; exact a1
  · rw [F.i (fun z => (h _ _ z).1 rfl)]; exact a2 i v hi
  · rw [F.i (fun z => (h _ _ z).2.2 ⟨rfl, by omega⟩)]; exact a3
  · rw [F.i (fun z => (h _ _ z).2.2 ⟨rfl, by omega⟩)]; exact a5
  · rw [F.i (fun z => (h _ _ z).2.2 ⟨rfl, by omega⟩)]; exact a6
/-- a list with one more -/
theorem hp_app1 {α : Type} {l : List α} {a : α} {P : Nat → α → Prop} (h : ∀ i v, l[i]? = some v → P i v) (h1 : P l.length a) : ∀ i v, (l ++ [a])[i]? = some v → P i v := by
  intro i v hi
  rcases Nat.lt_trichotomy i l.length with e | e | e
  · rw [List.getElem?_append_left e] at hi
    exact h i v hi
  · subst e
    rw [List.getElem?_append_right (Nat.le_refl _), Nat.sub_self] at hi
    have : a = v := Option.some.inj hi
    rw [← this]
    exact h1
  · rw [List.getElem?_append_right (by omega)] at hi
    rw [List.getElem?_eq_none (by simp; omega)] at hi
    cases hi
theorem hp_lt_of {α : Type} {l : List α} {i : Nat} {v : α} (h : l[i]? = some v) : i < l.length := by
  rcases Nat.lt_or_ge i l.length with e | e
  · exact e
  · rw [List.getElem?_eq_none e] at h
    cases h
theorem hp_len1 {α : Type} {l : List α} {a : α} : (l ++ [a]).length = l.length + 1 := by simp
def hx_QE (q f : Nat) : Prop := q = 56 ∨ (q = 55 ∧ f = 6)
/-- the class emits -/
theorem hx_emit (H : hx_q C o σ) (hC : C.length < 1600) {c : Int32} (hc : c = hq_xc v) : ∃ σ', f_Qu_emit c σ = some σ' ∧ hp_fr hx_QE σ σ' ∧ hx_q (C ++ [v]) o σ' := by
  obtain ⟨h1, h2, h3⟩ := H
  have hb : hl_b (nI C.length) 1600 := (hl_nIb (by omega)).mpr hC
  unfold f_Qu_emit
  rw [h1, show (1600 : Int32) = nI 1600 from rfl, hp_withinT hC (by decide), if_neg (by decide), if_pos hb, nI_clamp (by omega)]
  have e6 : (hl_si σ 56 C.length c).1 55 6 = nI C.length := by rw [hp_sn (by omega)]; exact h1
  rw [e6, nI_1]
  refine ⟨_, rfl, (hp_fr.rf.si (.inl rfl)).si (.inr ⟨rfl, rfl⟩), by rw [hp_s01, hp_len1], ?_, ?_⟩
  · refine hp_app1 (P := fun i v => (hl_si (hl_si σ 56 C.length c) 55 6 (nI (C.length + 1))).1 56 i = hq_xc v) (fun i v hi => ?_) ?_
    · have := hp_lt_of hi
      rw [hp_sn (by omega), hp_sn (by omega)]
      exact h2 i v hi
    · rw [hp_sn (by omega), hp_s01, hc]
  · rw [hp_sn (by omega), hp_sn (by omega)]; exact h3
theorem hx_emit0 (c : Int32) : ∃ σ', f_Qu_emit c σ = some σ' ∧ hp_fr hx_QE σ σ' := by
  unfold f_Qu_emit f_X_within
  by_cases h0 : σ.1 55 6 < 0
  · rw [if_pos h0, if_pos rfl]
    exact ⟨_, rfl, .rf⟩
  · rw [if_neg h0]
    by_cases h1 : (1600 : Int32) ≤ σ.1 55 6
    · rw [if_pos h1, if_pos rfl]
      exact ⟨_, rfl, .rf⟩
    · obtain ⟨k, hk, e⟩ := nI_of h0
      rw [e] at h1
      have k16 : k < 1600 := by
        rcases Nat.lt_or_ge k 1600 with h | h
        · exact h
        · exact absurd (nI_le h hk) h1
      rw [e, if_neg h1, if_neg (by decide), if_pos ((hl_nIb hk).mpr k16)]
      exact ⟨_, rfl, (hp_fr.rf.si (.inl rfl)).si (.inr ⟨rfl, rfl⟩)⟩
def hm_QE (q f : Nat) : Prop := q = 110 ∨ (q = 64 ∧ f = 72)
/-- the model writes a code -/
theorem hm_code (H : hm_q C W o bs τ) (hC : C.length < 1700) {c : Int32} (hc : c = nI v) : ∃ τ', f_M_qCode c τ = some τ' ∧ hp_fr hm_QE τ τ' ∧ hm_q (C ++ [v]) W o bs τ' := by
  obtain ⟨⟨a1, a2⟩, ⟨a3, a4⟩, a5, a6⟩ := H
  have hb : hl_b (nI C.length) 1700 := (hl_nIb (by omega)).mpr hC
  unfold f_M_qCode
  rw [a1, if_pos hb, hp_let, nI_clamp (by omega), hc]
  have e6 : (hl_si τ 110 C.length (nI v)).1 64 72 = nI C.length := by rw [hp_sn (by omega)]; exact a1
  rw [e6, nI_1]
  refine ⟨_, rfl, (hp_fr.rf.si (.inl rfl)).si (.inr ⟨rfl, rfl⟩), ⟨by rw [hp_s01, hp_len1], ?_⟩, ⟨?_, a4.fr (fun i hi => ?_)⟩, ?_, ?_⟩
  · refine hp_app1 (P := fun i w => (hl_si (hl_si τ 110 C.length (nI v)) 64 72 (nI (C.length + 1))).1 110 i = nI w) (fun i v hi => ?_) ?_
    · have := hp_lt_of hi
      rw [hp_sn (by omega), hp_sn (by omega)]
      exact a2 i v hi
    · rw [hp_sn (by omega), hp_s01]
  · rw [hp_sn (by omega), hp_sn (by omega)]; exact a3
  · rw [hp_sn (by omega), hp_sn (by omega)]
  · rw [hp_sn (by omega), hp_sn (by omega)]; exact a5
  · rw [hp_sn (by omega), hp_sn (by omega)]; exact a6
theorem hm_code0 (h : ∃ k, k < 1700 ∧ τ.1 64 72 = nI k) (c : Int32) : ∃ τ', f_M_qCode c τ = some τ' ∧ hp_fr hm_QE τ τ' := by
  obtain ⟨k, hk, e⟩ := h
  unfold f_M_qCode
  rw [e, if_pos ((hl_nIb (by omega)).mpr hk), hp_let]
  exact ⟨_, rfl, (hp_fr.rf.si (.inl rfl)).si (.inr ⟨rfl, rfl⟩)⟩
/-- the stack's top -/
theorem hm_q.pop (H : hm_q C (v :: W) o bs τ) : hm_q C W o bs (hl_si τ 64 74 (nI W.length)) ∧ τ.1 111 W.length = nI v ∧ τ.1 64 74 - 1 = nI W.length ∧ τ.1 64 74 = nI (W.length + 1) := by
  obtain ⟨⟨a1, a2⟩, ⟨a3, a4, a7⟩, a5, a6⟩ := H
  refine ⟨⟨⟨?_, fun i v hi => ?_⟩, ⟨hp_s01, a7.fr (fun i hi => ?_)⟩, ?_, ?_⟩, a4, ?_, a3⟩
  · rw [hp_sn (by omega)]; exact a1
  · rw [hp_sn (by omega)]; exact a2 i v hi
  · rw [hp_sn (by omega)]
  · rw [hp_sn (by omega)]; exact a5
  · rw [hp_sn (by omega)]; exact a6
  · rw [a3, List.length_cons]
    exact hl_nsub (a := W.length + 1) (b := 1) (by omega)
def hm_QF (q f : Nat) : Prop := q = 110 ∨ (q = 64 ∧ (f = 72 ∨ f = 74))
theorem hm_drop (H : hm_q C (v :: W) o bs τ) (hC : C.length < 1700) (hW : W.length < 1700) : ∃ τ', f_M_qDrops τ = some τ' ∧ hp_fr hm_QF τ τ' ∧ hm_q (C ++ [v]) W o bs τ' := by
  obtain ⟨h1, h2, h3, h4⟩ := H.pop
  have hb : hl_b (nI W.length) 1700 := (hl_nIb (by omega)).mpr hW
  have e2 : (hl_si τ 64 74 (nI W.length)).1 111 W.length = nI v := by rw [hp_sn (by omega)]; exact h2
  obtain ⟨τ', r1, r2, r3⟩ := hm_code h1 hC (c := (hl_si τ 64 74 (nI W.length)).1 111 W.length) e2
  unfold f_M_qDrops
  rw [h3, hp_s01, if_pos hb, nI_clamp (by omega), r1, Option.bind_some]
  exact ⟨_, rfl, (hp_fr.rf.si (.inr ⟨rfl, .inr rfl⟩)).tr (r2.mono (fun q f h => by unfold hm_QE at h; unfold hm_QF; omega)), r3⟩
/-- one more on the stack -/
theorem hm_q.push (H : hm_q C W o bs τ) : hm_q C (v :: W) o bs (hl_si (hl_si τ 111 W.length (nI v)) 64 74 (nI (W.length + 1))) := by
  obtain ⟨⟨a1, a2⟩, ⟨a3, a4⟩, a5, a6⟩ := H
  refine ⟨⟨?_, fun i v hi => ?_⟩, ⟨hp_s01, ?_, a4.fr (fun i hi => ?_)⟩, ?_, ?_⟩
  · rw [hp_sn (by omega), hp_sn (by omega)]; exact a1
  · rw [hp_sn (by omega), hp_sn (by omega)]; exact a2 i v hi
  · rw [hp_sn (by omega), hp_s01]
  · rw [hp_sn (by omega), hp_sn (by omega)]
  · rw [hp_sn (by omega), hp_sn (by omega)]; exact a5
  · rw [hp_sn (by omega), hp_sn (by omega)]; exact a6
theorem hm_q.op (H : hm_q C W o bs τ) (k : Nat) : hm_q C W k bs (hl_si τ 64 75 (nI k)) := by
  obtain ⟨⟨a1, a2⟩, ⟨a3, a4⟩, a5, a6⟩ := H
  refine ⟨⟨?_, fun i v hi => ?_⟩, ⟨?_, a4.fr (fun i hi => ?_)⟩, hp_s01, ?_⟩
  · rw [hp_sn (by omega)]; exact a1
  · rw [hp_sn (by omega)]; exact a2 i v hi
  · rw [hp_sn (by omega)]; exact a3
  · rw [hp_sn (by omega)]
  · rw [hp_sn (by omega)]; exact a6
theorem hm_q.bs' (H : hm_q C W o bs τ) (k : Nat) : hm_q C W o k (hl_si τ 64 76 (nI k)) := by
  obtain ⟨⟨a1, a2⟩, ⟨a3, a4⟩, a5, a6⟩ := H
  refine ⟨⟨?_, fun i v hi => ?_⟩, ⟨?_, a4.fr (fun i hi => ?_)⟩, ?_, hp_s01⟩
  · rw [hp_sn (by omega)]; exact a1
  · rw [hp_sn (by omega)]; exact a2 i v hi
  · rw [hp_sn (by omega)]; exact a3
  · rw [hp_sn (by omega)]
  · rw [hp_sn (by omega)]; exact a5
theorem hx_q.op (H : hx_q C o σ) (k : Nat) : hx_q C k (hl_si σ 55 8 (nI k)) := by
  obtain ⟨a1, a2, a3⟩ := H
  refine ⟨?_, fun i v hi => ?_, hp_s01⟩
  · rw [hp_sn (by omega)]; exact a1
  · rw [hp_sn (by omega)]; exact a2 i v hi
/-- the model opens -/
theorem hm_opens (H : hm_q C W o bs τ) (h5 : τ.1 64 5 = 0) (ho : o < 6) (hW : W.length < 1700) (p : Int32) : ∃ τ', f_M_qOpens (nI v) p τ = some τ' ∧ hp_fr (fun q f => q = 111 ∨ (q = 64 ∧ (f = 74 ∨ f = 75))) τ τ' ∧ hm_q C (v :: W) (o + 1) bs τ' := by
  have h1 := (H.op (o + 1)).push (v := v)
  have e5 : τ.1 64 75 = nI o := H.2.2.1
  have n6 : ¬ nI o = 6 := by first | omega | (simp (disch := first | assumption | omega) only [↓hp_neg1, hp_l0, hp_l1, hp_l2, hp_l3, hp_l4, hp_l5, hp_l6, hp_l7, hp_l8, hp_l9, hp_l10, hp_l11, hp_l12, hp_l13, hp_l14, hp_l15, hp_l16, hp_l17, hp_l18, hp_l19, hp_l20, hp_l21, hp_l22, hp_l23, hp_l24, hp_l25, hp_l26, hp_l27, hp_l28, hp_l29, hp_l30, hp_l31, hp_l32, hp_l33, hp_l34, hp_l35, hp_l36, hp_l37, hp_l38, hp_l39, hp_l40, hp_l41, hp_l42, hp_l43, hp_l44, hp_l45, hp_l46, hp_l47, hp_l48, hp_l49, hp_l50, hp_l51, hp_l52, hp_l53, hp_l54, hp_l55, hp_l56, hp_l57, hp_l58, hp_l59, hp_l60, hp_l61, hp_l62, hp_l63, hp_l64, hp_l65, hp_l66, hp_l67, hp_l68, hp_l69, hp_l70, hp_l71, hp_l72, hp_l73, hp_l74, hp_l75, hp_l76, hp_l77, hp_l78, hp_l79, hp_l80, hp_l81, hp_l82, hp_l83, hp_l84, hp_l85, hp_l86, hp_l87, hp_l88, hp_l89, hp_l90, hp_l91, hp_l92, hp_l93, hp_l94, hp_l95, hp_l96, hp_l97, hp_l98, hp_l99, hp_l100, hp_l101, hp_l102, hp_l103, hp_l104, hp_l105, hp_l106, hp_l107, hp_l108, hp_l109, hp_l110, hp_l111, hp_l112, hp_l113, hp_l114, hp_l115, hp_l116, hp_l117, hp_l118, hp_l119, hp_l120, hp_l121, hp_l122, hp_l123, hp_l124, hp_l125, hp_l126, hp_l127, hp_l141, hp_l142, hp_l150, hp_l151, hp_l152, hp_l153, hp_l251, hp_l255, hp_l256, hp_l300, hp_l432, hp_l864, hp_l1000, hp_l1600, hp_l1700, hp_l2304, hp_l2916, hp_l3000, hp_l9999, hp_l10000, nI_add, pk_mul, nI_clamp, hl_lt, hl_le, hl_eq, hl_nIb, hl_nsub, hp_eqm, hp_meq, hp_ltm, hp_mlt, hp_lem, hp_mle, hp_addm, hp_meqm, hp_mlem, hp_withinE, hp_within0, if_pos, if_neg, Option.bind_some, hp_let, Sum.elim_inl, Sum.elim_inr, hp_s01, hp_s11, hp_s2, true_and, and_true, if_true, if_false, not_true_eq_false, not_false_eq_true, reduceCtorEq] <;> omega)
  have e4 : (hl_si τ 64 75 (nI (o + 1))).1 64 74 = nI W.length := by rw [hp_sn (by omega)]; exact H.2.1.1
  have hb : hl_b (nI W.length) 1700 := (hl_nIb (by omega)).mpr hW
  have e7 : (hl_si (hl_si τ 64 75 (nI (o + 1))) 111 W.length (nI v)).1 64 74 = nI W.length := by rw [hp_sn (by omega)]; exact e4
  unfold f_M_qOpens
  rw [if_pos h5, e5, if_neg n6, nI_1, e4, if_pos hb, hp_let, nI_clamp (by omega), e7, nI_1]
  exact ⟨_, rfl, ((hp_fr.rf.si (.inr ⟨rfl, .inr rfl⟩)).si (.inl rfl)).si (.inr ⟨rfl, .inl rfl⟩), h1⟩
theorem hm_opens6 (H : hm_q C W 6 bs τ) (h5 : τ.1 64 5 = 0) (c p : Int32) : f_M_qOpens c p τ = some (f_M_fail 4 p τ) := by
  unfold f_M_qOpens
  rw [if_pos h5, H.2.2.1, if_pos (by decide)]
end CODES
