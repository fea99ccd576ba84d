/-! both readers in step; words -/
def hx_FD (q _f : Nat) : Prop := q = 3
def hm_FD (q f : Nat) : Prop := q = 64 ∧ (f = 2 ∨ f = 4 ∨ f = 5 ∨ f = 6 ∨ f = 9 ∨ f = 19)
/-- the word stands there -/
def hp_is (b : Nat → Nat) (s t : Nat) (W : List Nat) : Prop := t - s = W.length ∧ ∀ i, i < W.length → b (s + i) = W.getD i 0
def hp_wv (W : List Nat) (v : Nat) (τ : hl_M) : Prop := hl_shp v = (103, W.length) ∧ ∀ k, k < W.length → τ.1 v k = nI (W.getD k 0)
def hp_le (W : List Nat) : Prop := 1 ≤ W.length ∧ W.length < 100 ∧ ∀ k, k < W.length → W.getD k 0 < 256
def q_ok (n : Nat) (b : Nat → Nat) (σ τ : hl_M) : Prop := ∃ a s t, hp_sk n b a s ∧ hp_tk n b s t ∧ τ.1 64 5 = 0 ∧ τ.1 64 2 = nI a ∧ (τ.1 64 4 = -1 ∨ ∃ e, e ≤ a ∧ τ.1 64 4 = nI e) ∧ σ.1 3 4 = 0 ∧ σ.1 3 2 = nI s ∧ σ.1 3 3 = nI t ∧ σ.1 3 1 = nI (if s = n then 0 else if τ.1 64 4 = nI s ∧ hp_kl (b s) ≠ 3 then 4 else hp_kl (b s)) ∧ (σ.1 3 5 = -1 ∧ τ.1 64 6 = -1)
def q_no (σ τ : hl_M) : Prop := σ.1 3 4 ≠ 0 ∧ τ.1 64 5 = σ.1 3 4 ∧ σ.1 3 1 = 5 ∧ σ.1 3 5 = τ.1 64 6
def q_st (n : Nat) (b : Nat → Nat) (σ τ : hl_M) : Prop := q_ok n b σ τ ∨ q_no σ τ
section WORD
variable {σ τ υ : hl_M} {n a s t k c j v : Nat} {b : Nat → Nat} {W : List Nat}
theorem hx_charAt (J : hl_sB j = W.map nI) (L : hp_le W) (h : k < W.length) : f_Str_charAt j (nI k) σ = some (nI (W.getD k 0)) := by
  have e : (hl_sB j).length = W.length := by rw [J, List.length_map]
  have e1 : (hl_sB j).getD k 0 = nI (W.getD k 0) := by
    rw [J, List.getD_eq_getElem?_getD, List.getElem?_map, List.getD_eq_getElem?_getD, List.getElem?_eq_getElem h]
    rfl
  have n1 : ¬ nI k < 0 := nI_pos (by have := L.2.1; omega)
  have n2 : nI k < nI W.length := nI_lt h (by have := L.2.1; omega)
  have n3 : hl_b (nI k) W.length := (hl_nIb (by have := L.2.1; omega)).mpr h
  have ch : ∀ c, c < 256 → vp_nar .char (vp_nar .char (((nI c &&& 255).toUInt32 % 65536).toInt32)) = nI c := by decide +kernel
  have lat : f_Str_isLatin1 j = 1 := rfl
  unfold f_Str_charAt f_SL_charAt f_Str_checkIndex f_Pre_checkIndex
  rw [lat, if_neg (by decide), e, show Int32.ofNat W.length = nI W.length from rfl, if_neg n1, if_pos n2, Option.bind_some, Option.bind_some, if_pos n3, nI_clamp (by have := L.2.1; omega), e1, Option.bind_some, ch _ (L.2.2 k h)]
theorem hx_len (J : hl_sB j = W.map nI) (L : hp_le W) : f_Str_length j = nI W.length := by
  have e : (hl_sB j).length = W.length := by rw [J, List.length_map]
  have h : ∀ m, m < 100 → (Int32.ofNat m >>> (f_Str_coder 0 &&& 31)) = nI m := by decide +kernel
  have ec : f_Str_coder j = f_Str_coder 0 := rfl
  unfold f_Str_length
  rw [e, ec, h _ L.2.1]
theorem hx_isWord (J : hl_sB j = W.map nI) (L : hp_le W) (T : hx_t n b σ) (h1 : σ.1 3 2 = nI s) (h2 : σ.1 3 3 = nI t) (h : s ≤ t) (ht : t ≤ n) : (σ.1 3 1 = 1 ∧ hp_is b s t W ∧ f_Rd_isWord j σ = some 1) ∨ (¬ (σ.1 3 1 = 1 ∧ hp_is b s t W) ∧ f_Rd_isWord j σ = some 0) := by
  have hn := T.1
  unfold f_Rd_isWord
  by_cases e : σ.1 3 1 = 1
  · rw [if_pos e, h1, h2, hl_nsub h, hx_len J L]
    by_cases e2 : t - s = W.length
    · rw [if_pos (by rw [e2])]
      have L2 := L.2.1
      refine hp_invX (b := f_Rd_isWord_L28 j σ) (s := 0) W.length (fun i x => x = nI i ∧ ∀ k, k < i → b (s + k) = W.getD k 0) (fun x => (x = .inl () ∧ hp_is b s t W) ∨ (x = .inr 0 ∧ ¬ hp_is b s t W)) (by omega) ⟨rfl, fun i hi => by omega⟩ ?_ ?_ ?_
      · intro x h3 h4
        rw [h3]
        rcases h4 with ⟨rfl, h5⟩ | ⟨rfl, h5⟩
        · exact .inl ⟨e, h5, rfl⟩
        · exact .inr ⟨fun z => h5 z.2, rfl⟩
      · rintro i _ hi ⟨rfl, h3⟩
        have hb := (T.2.2 (s + i) (by omega)).1
        have hw := L.2.2 i hi
        have n1 : ¬ nI W.length ≤ nI i := by first | omega | (simp (disch := first | assumption | omega) only [↓hp_neg1, hp_l0, hp_l1, hp_l2, hp_l3, hp_l4, hp_l5, hp_l6, hp_l7, hp_l8, hp_l9, hp_l10, hp_l11, hp_l12, hp_l13, hp_l14, hp_l15, hp_l16, hp_l17, hp_l18, hp_l19, hp_l20, hp_l21, hp_l22, hp_l23, hp_l24, hp_l25, hp_l26, hp_l27, hp_l28, hp_l29, hp_l30, hp_l31, hp_l32, hp_l33, hp_l34, hp_l35, hp_l36, hp_l37, hp_l38, hp_l39, hp_l40, hp_l41, hp_l42, hp_l43, hp_l44, hp_l45, hp_l46, hp_l47, hp_l48, hp_l49, hp_l50, hp_l51, hp_l52, hp_l53, hp_l54, hp_l55, hp_l56, hp_l57, hp_l58, hp_l59, hp_l60, hp_l61, hp_l62, hp_l63, hp_l64, hp_l65, hp_l66, hp_l67, hp_l68, hp_l69, hp_l70, hp_l71, hp_l72, hp_l73, hp_l74, hp_l75, hp_l76, hp_l77, hp_l78, hp_l79, hp_l80, hp_l81, hp_l82, hp_l83, hp_l84, hp_l85, hp_l86, hp_l87, hp_l88, hp_l89, hp_l90, hp_l91, hp_l92, hp_l93, hp_l94, hp_l95, hp_l96, hp_l97, hp_l98, hp_l99, hp_l100, hp_l101, hp_l102, hp_l103, hp_l104, hp_l105, hp_l106, hp_l107, hp_l108, hp_l109, hp_l110, hp_l111, hp_l112, hp_l113, hp_l114, hp_l115, hp_l116, hp_l117, hp_l118, hp_l119, hp_l120, hp_l121, hp_l122, hp_l123, hp_l124, hp_l125, hp_l126, hp_l127, hp_l141, hp_l142, hp_l150, hp_l151, hp_l152, hp_l153, hp_l251, hp_l255, hp_l256, hp_l300, hp_l432, hp_l864, hp_l1000, hp_l1600, hp_l1700, hp_l2304, hp_l2916, hp_l3000, hp_l9999, hp_l10000, nI_add, pk_mul, nI_clamp, hl_lt, hl_le, hl_eq, hl_nIb, hl_nsub, hp_eqm, hp_meq, hp_ltm, hp_mlt, hp_lem, hp_mle, hp_addm, hp_meqm, hp_mlem, hp_withinE, hp_within0, if_pos, if_neg, Option.bind_some, hp_let, Sum.elim_inl, Sum.elim_inr, hp_s01, hp_s11, hp_s2, true_and, and_true, if_true, if_false, not_true_eq_false, not_false_eq_true, reduceCtorEq] <;> omega)
        unfold f_Rd_isWord_L28
        rw [hx_len J L, if_neg n1, h1, nI_add, hx_at T (by omega), if_pos (by omega), Option.bind_some, hx_charAt J L hi, Option.bind_some]
        by_cases e3 : b (s + i) = W.getD i 0
        · rw [if_pos (by rw [e3]), nI_1]
          refine .inl ⟨_, rfl, rfl, fun k hk => ?_⟩
          by_cases ek : k = i
          · rw [ek]; exact e3
          · exact h3 k (by omega)
        · have n2 : ¬ nI (b (s + i)) = nI (W.getD i 0) := by first | omega | (simp (disch := first | assumption | omega) only [↓hp_neg1, hp_l0, hp_l1, hp_l2, hp_l3, hp_l4, hp_l5, hp_l6, hp_l7, hp_l8, hp_l9, hp_l10, hp_l11, hp_l12, hp_l13, hp_l14, hp_l15, hp_l16, hp_l17, hp_l18, hp_l19, hp_l20, hp_l21, hp_l22, hp_l23, hp_l24, hp_l25, hp_l26, hp_l27, hp_l28, hp_l29, hp_l30, hp_l31, hp_l32, hp_l33, hp_l34, hp_l35, hp_l36, hp_l37, hp_l38, hp_l39, hp_l40, hp_l41, hp_l42, hp_l43, hp_l44, hp_l45, hp_l46, hp_l47, hp_l48, hp_l49, hp_l50, hp_l51, hp_l52, hp_l53, hp_l54, hp_l55, hp_l56, hp_l57, hp_l58, hp_l59, hp_l60, hp_l61, hp_l62, hp_l63, hp_l64, hp_l65, hp_l66, hp_l67, hp_l68, hp_l69, hp_l70, hp_l71, hp_l72, hp_l73, hp_l74, hp_l75, hp_l76, hp_l77, hp_l78, hp_l79, hp_l80, hp_l81, hp_l82, hp_l83, hp_l84, hp_l85, hp_l86, hp_l87, hp_l88, hp_l89, hp_l90, hp_l91, hp_l92, hp_l93, hp_l94, hp_l95, hp_l96, hp_l97, hp_l98, hp_l99, hp_l100, hp_l101, hp_l102, hp_l103, hp_l104, hp_l105, hp_l106, hp_l107, hp_l108, hp_l109, hp_l110, hp_l111, hp_l112, hp_l113, hp_l114, hp_l115, hp_l116, hp_l117, hp_l118, hp_l119, hp_l120, hp_l121, hp_l122, hp_l123, hp_l124, hp_l125, hp_l126, hp_l127, hp_l141, hp_l142, hp_l150, hp_l151, hp_l152, hp_l153, hp_l251, hp_l255, hp_l256, hp_l300, hp_l432, hp_l864, hp_l1000, hp_l1600, hp_l1700, hp_l2304, hp_l2916, hp_l3000, hp_l9999, hp_l10000, nI_add, pk_mul, nI_clamp, hl_lt, hl_le, hl_eq, hl_nIb, hl_nsub, hp_eqm, hp_meq, hp_ltm, hp_mlt, hp_lem, hp_mle, hp_addm, hp_meqm, hp_mlem, hp_withinE, hp_within0, if_pos, if_neg, Option.bind_some, hp_let, Sum.elim_inl, Sum.elim_inr, hp_s01, hp_s11, hp_s2, true_and, and_true, if_true, if_false, not_true_eq_false, not_false_eq_true, reduceCtorEq] <;> omega)
          rw [if_neg n2]
          exact .inr ⟨_, rfl, .inr ⟨rfl, fun z => e3 (z.2 i hi)⟩⟩
      · rintro _ ⟨rfl, h3⟩
        unfold f_Rd_isWord_L28
        rw [hx_len J L, if_pos (by first | omega | (simp (disch := first | assumption | omega) only [↓hp_neg1, hp_l0, hp_l1, hp_l2, hp_l3, hp_l4, hp_l5, hp_l6, hp_l7, hp_l8, hp_l9, hp_l10, hp_l11, hp_l12, hp_l13, hp_l14, hp_l15, hp_l16, hp_l17, hp_l18, hp_l19, hp_l20, hp_l21, hp_l22, hp_l23, hp_l24, hp_l25, hp_l26, hp_l27, hp_l28, hp_l29, hp_l30, hp_l31, hp_l32, hp_l33, hp_l34, hp_l35, hp_l36, hp_l37, hp_l38, hp_l39, hp_l40, hp_l41, hp_l42, hp_l43, hp_l44, hp_l45, hp_l46, hp_l47, hp_l48, hp_l49, hp_l50, hp_l51, hp_l52, hp_l53, hp_l54, hp_l55, hp_l56, hp_l57, hp_l58, hp_l59, hp_l60, hp_l61, hp_l62, hp_l63, hp_l64, hp_l65, hp_l66, hp_l67, hp_l68, hp_l69, hp_l70, hp_l71, hp_l72, hp_l73, hp_l74, hp_l75, hp_l76, hp_l77, hp_l78, hp_l79, hp_l80, hp_l81, hp_l82, hp_l83, hp_l84, hp_l85, hp_l86, hp_l87, hp_l88, hp_l89, hp_l90, hp_l91, hp_l92, hp_l93, hp_l94, hp_l95, hp_l96, hp_l97, hp_l98, hp_l99, hp_l100, hp_l101, hp_l102, hp_l103, hp_l104, hp_l105, hp_l106, hp_l107, hp_l108, hp_l109, hp_l110, hp_l111, hp_l112, hp_l113, hp_l114, hp_l115, hp_l116, hp_l117, hp_l118, hp_l119, hp_l120, hp_l121, hp_l122, hp_l123, hp_l124, hp_l125, hp_l126, hp_l127, hp_l141, hp_l142, hp_l150, hp_l151, hp_l152, hp_l153, hp_l251, hp_l255, hp_l256, hp_l300, hp_l432, hp_l864, hp_l1000, hp_l1600, hp_l1700, hp_l2304, hp_l2916, hp_l3000, hp_l9999, hp_l10000, nI_add, pk_mul, nI_clamp, hl_lt, hl_le, hl_eq, hl_nIb, hl_nsub, hp_eqm, hp_meq, hp_ltm, hp_mlt, hp_lem, hp_mle, hp_addm, hp_meqm, hp_mlem, hp_withinE, hp_within0, if_pos, if_neg, Option.bind_some, hp_let, Sum.elim_inl, Sum.elim_inr, hp_s01, hp_s11, hp_s2, true_and, and_true, if_true, if_false, not_true_eq_false, not_false_eq_true, reduceCtorEq] <;> omega))]
        exact ⟨_, rfl, .inl ⟨rfl, e2, h3⟩⟩
    · have L2 := L.2.1
      have n1 : ¬ nI (t - s) = nI W.length := by first | omega | (simp (disch := first | assumption | omega) only [↓hp_neg1, hp_l0, hp_l1, hp_l2, hp_l3, hp_l4, hp_l5, hp_l6, hp_l7, hp_l8, hp_l9, hp_l10, hp_l11, hp_l12, hp_l13, hp_l14, hp_l15, hp_l16, hp_l17, hp_l18, hp_l19, hp_l20, hp_l21, hp_l22, hp_l23, hp_l24, hp_l25, hp_l26, hp_l27, hp_l28, hp_l29, hp_l30, hp_l31, hp_l32, hp_l33, hp_l34, hp_l35, hp_l36, hp_l37, hp_l38, hp_l39, hp_l40, hp_l41, hp_l42, hp_l43, hp_l44, hp_l45, hp_l46, hp_l47, hp_l48, hp_l49, hp_l50, hp_l51, hp_l52, hp_l53, hp_l54, hp_l55, hp_l56, hp_l57, hp_l58, hp_l59, hp_l60, hp_l61, hp_l62, hp_l63, hp_l64, hp_l65, hp_l66, hp_l67, hp_l68, hp_l69, hp_l70, hp_l71, hp_l72, hp_l73, hp_l74, hp_l75, hp_l76, hp_l77, hp_l78, hp_l79, hp_l80, hp_l81, hp_l82, hp_l83, hp_l84, hp_l85, hp_l86, hp_l87, hp_l88, hp_l89, hp_l90, hp_l91, hp_l92, hp_l93, hp_l94, hp_l95, hp_l96, hp_l97, hp_l98, hp_l99, hp_l100, hp_l101, hp_l102, hp_l103, hp_l104, hp_l105, hp_l106, hp_l107, hp_l108, hp_l109, hp_l110, hp_l111, hp_l112, hp_l113, hp_l114, hp_l115, hp_l116, hp_l117, hp_l118, hp_l119, hp_l120, hp_l121, hp_l122, hp_l123, hp_l124, hp_l125, hp_l126, hp_l127, hp_l141, hp_l142, hp_l150, hp_l151, hp_l152, hp_l153, hp_l251, hp_l255, hp_l256, hp_l300, hp_l432, hp_l864, hp_l1000, hp_l1600, hp_l1700, hp_l2304, hp_l2916, hp_l3000, hp_l9999, hp_l10000, nI_add, pk_mul, nI_clamp, hl_lt, hl_le, hl_eq, hl_nIb, hl_nsub, hp_eqm, hp_meq, hp_ltm, hp_mlt, hp_lem, hp_mle, hp_addm, hp_meqm, hp_mlem, hp_withinE, hp_within0, if_pos, if_neg, Option.bind_some, hp_let, Sum.elim_inl, Sum.elim_inr, hp_s01, hp_s11, hp_s2, true_and, and_true, if_true, if_false, not_true_eq_false, not_false_eq_true, reduceCtorEq] <;> omega)
      rw [if_neg n1]
      exact .inr ⟨fun z => e2 z.2.1, rfl⟩
  · rw [if_neg e]
    exact .inr ⟨fun z => e z.1, rfl⟩
/-- the run of letters ends at t -/
theorem hm_ends (R : hm_r n b τ) (E : hp_tk n b s t) (hs : s < n) (h1 : hp_kl (b s) = 1) : hl_lp (f_M_isHere_L35 v τ) hl_big (nI s) = some (nI t) := by
  have hn := R.1
  obtain ⟨e1, e2, e3⟩ := E
  obtain ⟨f1, f2, f3, f4⟩ := e3 hs
  refine hp_for' (t - s) (fun j => nI (s + j)) rfl (by omega) ?_ ?_
  · intro j hj
    have hb := R.2.2 (s + j) (by omega)
    have n1 : ¬ nI n ≤ nI (s + j) := by first | omega | (simp (disch := first | assumption | omega) only [↓hp_neg1, hp_l0, hp_l1, hp_l2, hp_l3, hp_l4, hp_l5, hp_l6, hp_l7, hp_l8, hp_l9, hp_l10, hp_l11, hp_l12, hp_l13, hp_l14, hp_l15, hp_l16, hp_l17, hp_l18, hp_l19, hp_l20, hp_l21, hp_l22, hp_l23, hp_l24, hp_l25, hp_l26, hp_l27, hp_l28, hp_l29, hp_l30, hp_l31, hp_l32, hp_l33, hp_l34, hp_l35, hp_l36, hp_l37, hp_l38, hp_l39, hp_l40, hp_l41, hp_l42, hp_l43, hp_l44, hp_l45, hp_l46, hp_l47, hp_l48, hp_l49, hp_l50, hp_l51, hp_l52, hp_l53, hp_l54, hp_l55, hp_l56, hp_l57, hp_l58, hp_l59, hp_l60, hp_l61, hp_l62, hp_l63, hp_l64, hp_l65, hp_l66, hp_l67, hp_l68, hp_l69, hp_l70, hp_l71, hp_l72, hp_l73, hp_l74, hp_l75, hp_l76, hp_l77, hp_l78, hp_l79, hp_l80, hp_l81, hp_l82, hp_l83, hp_l84, hp_l85, hp_l86, hp_l87, hp_l88, hp_l89, hp_l90, hp_l91, hp_l92, hp_l93, hp_l94, hp_l95, hp_l96, hp_l97, hp_l98, hp_l99, hp_l100, hp_l101, hp_l102, hp_l103, hp_l104, hp_l105, hp_l106, hp_l107, hp_l108, hp_l109, hp_l110, hp_l111, hp_l112, hp_l113, hp_l114, hp_l115, hp_l116, hp_l117, hp_l118, hp_l119, hp_l120, hp_l121, hp_l122, hp_l123, hp_l124, hp_l125, hp_l126, hp_l127, hp_l141, hp_l142, hp_l150, hp_l151, hp_l152, hp_l153, hp_l251, hp_l255, hp_l256, hp_l300, hp_l432, hp_l864, hp_l1000, hp_l1600, hp_l1700, hp_l2304, hp_l2916, hp_l3000, hp_l9999, hp_l10000, nI_add, pk_mul, nI_clamp, hl_lt, hl_le, hl_eq, hl_nIb, hl_nsub, hp_eqm, hp_meq, hp_ltm, hp_mlt, hp_lem, hp_mle, hp_addm, hp_meqm, hp_mlem, hp_withinE, hp_within0, if_pos, if_neg, Option.bind_some, hp_let, Sum.elim_inl, Sum.elim_inr, hp_s01, hp_s11, hp_s2, true_and, and_true, if_true, if_false, not_true_eq_false, not_false_eq_true, reduceCtorEq] <;> omega)
    unfold f_M_isHere_L35
    rw [R.2.1, if_neg n1, if_pos (by first | omega | (simp (disch := first | assumption | omega) only [↓hp_neg1, hp_l0, hp_l1, hp_l2, hp_l3, hp_l4, hp_l5, hp_l6, hp_l7, hp_l8, hp_l9, hp_l10, hp_l11, hp_l12, hp_l13, hp_l14, hp_l15, hp_l16, hp_l17, hp_l18, hp_l19, hp_l20, hp_l21, hp_l22, hp_l23, hp_l24, hp_l25, hp_l26, hp_l27, hp_l28, hp_l29, hp_l30, hp_l31, hp_l32, hp_l33, hp_l34, hp_l35, hp_l36, hp_l37, hp_l38, hp_l39, hp_l40, hp_l41, hp_l42, hp_l43, hp_l44, hp_l45, hp_l46, hp_l47, hp_l48, hp_l49, hp_l50, hp_l51, hp_l52, hp_l53, hp_l54, hp_l55, hp_l56, hp_l57, hp_l58, hp_l59, hp_l60, hp_l61, hp_l62, hp_l63, hp_l64, hp_l65, hp_l66, hp_l67, hp_l68, hp_l69, hp_l70, hp_l71, hp_l72, hp_l73, hp_l74, hp_l75, hp_l76, hp_l77, hp_l78, hp_l79, hp_l80, hp_l81, hp_l82, hp_l83, hp_l84, hp_l85, hp_l86, hp_l87, hp_l88, hp_l89, hp_l90, hp_l91, hp_l92, hp_l93, hp_l94, hp_l95, hp_l96, hp_l97, hp_l98, hp_l99, hp_l100, hp_l101, hp_l102, hp_l103, hp_l104, hp_l105, hp_l106, hp_l107, hp_l108, hp_l109, hp_l110, hp_l111, hp_l112, hp_l113, hp_l114, hp_l115, hp_l116, hp_l117, hp_l118, hp_l119, hp_l120, hp_l121, hp_l122, hp_l123, hp_l124, hp_l125, hp_l126, hp_l127, hp_l141, hp_l142, hp_l150, hp_l151, hp_l152, hp_l153, hp_l251, hp_l255, hp_l256, hp_l300, hp_l432, hp_l864, hp_l1000, hp_l1600, hp_l1700, hp_l2304, hp_l2916, hp_l3000, hp_l9999, hp_l10000, nI_add, pk_mul, nI_clamp, hl_lt, hl_le, hl_eq, hl_nIb, hl_nsub, hp_eqm, hp_meq, hp_ltm, hp_mlt, hp_lem, hp_mle, hp_addm, hp_meqm, hp_mlem, hp_withinE, hp_within0, if_pos, if_neg, Option.bind_some, hp_let, Sum.elim_inl, Sum.elim_inr, hp_s01, hp_s11, hp_s2, true_and, and_true, if_true, if_false, not_true_eq_false, not_false_eq_true, reduceCtorEq] <;> omega)), nI_clamp (by omega), hb.2, hm_isLetter hb.1, f2 (s + j) (by omega) (by omega), if_pos h1, if_neg (by decide), nI_1]
    rfl
  · unfold f_M_isHere_L35
    rw [show s + (t - s) = t by omega, R.2.1]
    by_cases e : t = n
    · rw [if_pos (by first | omega | (simp (disch := first | assumption | omega) only [↓hp_neg1, hp_l0, hp_l1, hp_l2, hp_l3, hp_l4, hp_l5, hp_l6, hp_l7, hp_l8, hp_l9, hp_l10, hp_l11, hp_l12, hp_l13, hp_l14, hp_l15, hp_l16, hp_l17, hp_l18, hp_l19, hp_l20, hp_l21, hp_l22, hp_l23, hp_l24, hp_l25, hp_l26, hp_l27, hp_l28, hp_l29, hp_l30, hp_l31, hp_l32, hp_l33, hp_l34, hp_l35, hp_l36, hp_l37, hp_l38, hp_l39, hp_l40, hp_l41, hp_l42, hp_l43, hp_l44, hp_l45, hp_l46, hp_l47, hp_l48, hp_l49, hp_l50, hp_l51, hp_l52, hp_l53, hp_l54, hp_l55, hp_l56, hp_l57, hp_l58, hp_l59, hp_l60, hp_l61, hp_l62, hp_l63, hp_l64, hp_l65, hp_l66, hp_l67, hp_l68, hp_l69, hp_l70, hp_l71, hp_l72, hp_l73, hp_l74, hp_l75, hp_l76, hp_l77, hp_l78, hp_l79, hp_l80, hp_l81, hp_l82, hp_l83, hp_l84, hp_l85, hp_l86, hp_l87, hp_l88, hp_l89, hp_l90, hp_l91, hp_l92, hp_l93, hp_l94, hp_l95, hp_l96, hp_l97, hp_l98, hp_l99, hp_l100, hp_l101, hp_l102, hp_l103, hp_l104, hp_l105, hp_l106, hp_l107, hp_l108, hp_l109, hp_l110, hp_l111, hp_l112, hp_l113, hp_l114, hp_l115, hp_l116, hp_l117, hp_l118, hp_l119, hp_l120, hp_l121, hp_l122, hp_l123, hp_l124, hp_l125, hp_l126, hp_l127, hp_l141, hp_l142, hp_l150, hp_l151, hp_l152, hp_l153, hp_l251, hp_l255, hp_l256, hp_l300, hp_l432, hp_l864, hp_l1000, hp_l1600, hp_l1700, hp_l2304, hp_l2916, hp_l3000, hp_l9999, hp_l10000, nI_add, pk_mul, nI_clamp, hl_lt, hl_le, hl_eq, hl_nIb, hl_nsub, hp_eqm, hp_meq, hp_ltm, hp_mlt, hp_lem, hp_mle, hp_addm, hp_meqm, hp_mlem, hp_withinE, hp_within0, if_pos, if_neg, Option.bind_some, hp_let, Sum.elim_inl, Sum.elim_inr, hp_s01, hp_s11, hp_s2, true_and, and_true, if_true, if_false, not_true_eq_false, not_false_eq_true, reduceCtorEq] <;> omega))]
    · have hb := R.2.2 t (by omega)
      have n1 : ¬ nI n ≤ nI t := by first | omega | (simp (disch := first | assumption | omega) only [↓hp_neg1, hp_l0, hp_l1, hp_l2, hp_l3, hp_l4, hp_l5, hp_l6, hp_l7, hp_l8, hp_l9, hp_l10, hp_l11, hp_l12, hp_l13, hp_l14, hp_l15, hp_l16, hp_l17, hp_l18, hp_l19, hp_l20, hp_l21, hp_l22, hp_l23, hp_l24, hp_l25, hp_l26, hp_l27, hp_l28, hp_l29, hp_l30, hp_l31, hp_l32, hp_l33, hp_l34, hp_l35, hp_l36, hp_l37, hp_l38, hp_l39, hp_l40, hp_l41, hp_l42, hp_l43, hp_l44, hp_l45, hp_l46, hp_l47, hp_l48, hp_l49, hp_l50, hp_l51, hp_l52, hp_l53, hp_l54, hp_l55, hp_l56, hp_l57, hp_l58, hp_l59, hp_l60, hp_l61, hp_l62, hp_l63, hp_l64, hp_l65, hp_l66, hp_l67, hp_l68, hp_l69, hp_l70, hp_l71, hp_l72, hp_l73, hp_l74, hp_l75, hp_l76, hp_l77, hp_l78, hp_l79, hp_l80, hp_l81, hp_l82, hp_l83, hp_l84, hp_l85, hp_l86, hp_l87, hp_l88, hp_l89, hp_l90, hp_l91, hp_l92, hp_l93, hp_l94, hp_l95, hp_l96, hp_l97, hp_l98, hp_l99, hp_l100, hp_l101, hp_l102, hp_l103, hp_l104, hp_l105, hp_l106, hp_l107, hp_l108, hp_l109, hp_l110, hp_l111, hp_l112, hp_l113, hp_l114, hp_l115, hp_l116, hp_l117, hp_l118, hp_l119, hp_l120, hp_l121, hp_l122, hp_l123, hp_l124, hp_l125, hp_l126, hp_l127, hp_l141, hp_l142, hp_l150, hp_l151, hp_l152, hp_l153, hp_l251, hp_l255, hp_l256, hp_l300, hp_l432, hp_l864, hp_l1000, hp_l1600, hp_l1700, hp_l2304, hp_l2916, hp_l3000, hp_l9999, hp_l10000, nI_add, pk_mul, nI_clamp, hl_lt, hl_le, hl_eq, hl_nIb, hl_nsub, hp_eqm, hp_meq, hp_ltm, hp_mlt, hp_lem, hp_mle, hp_addm, hp_meqm, hp_mlem, hp_withinE, hp_within0, if_pos, if_neg, Option.bind_some, hp_let, Sum.elim_inl, Sum.elim_inr, hp_s01, hp_s11, hp_s2, true_and, and_true, if_true, if_false, not_true_eq_false, not_false_eq_true, reduceCtorEq] <;> omega)
      rw [if_neg n1, if_pos (by first | omega | (simp (disch := first | assumption | omega) only [↓hp_neg1, hp_l0, hp_l1, hp_l2, hp_l3, hp_l4, hp_l5, hp_l6, hp_l7, hp_l8, hp_l9, hp_l10, hp_l11, hp_l12, hp_l13, hp_l14, hp_l15, hp_l16, hp_l17, hp_l18, hp_l19, hp_l20, hp_l21, hp_l22, hp_l23, hp_l24, hp_l25, hp_l26, hp_l27, hp_l28, hp_l29, hp_l30, hp_l31, hp_l32, hp_l33, hp_l34, hp_l35, hp_l36, hp_l37, hp_l38, hp_l39, hp_l40, hp_l41, hp_l42, hp_l43, hp_l44, hp_l45, hp_l46, hp_l47, hp_l48, hp_l49, hp_l50, hp_l51, hp_l52, hp_l53, hp_l54, hp_l55, hp_l56, hp_l57, hp_l58, hp_l59, hp_l60, hp_l61, hp_l62, hp_l63, hp_l64, hp_l65, hp_l66, hp_l67, hp_l68, hp_l69, hp_l70, hp_l71, hp_l72, hp_l73, hp_l74, hp_l75, hp_l76, hp_l77, hp_l78, hp_l79, hp_l80, hp_l81, hp_l82, hp_l83, hp_l84, hp_l85, hp_l86, hp_l87, hp_l88, hp_l89, hp_l90, hp_l91, hp_l92, hp_l93, hp_l94, hp_l95, hp_l96, hp_l97, hp_l98, hp_l99, hp_l100, hp_l101, hp_l102, hp_l103, hp_l104, hp_l105, hp_l106, hp_l107, hp_l108, hp_l109, hp_l110, hp_l111, hp_l112, hp_l113, hp_l114, hp_l115, hp_l116, hp_l117, hp_l118, hp_l119, hp_l120, hp_l121, hp_l122, hp_l123, hp_l124, hp_l125, hp_l126, hp_l127, hp_l141, hp_l142, hp_l150, hp_l151, hp_l152, hp_l153, hp_l251, hp_l255, hp_l256, hp_l300, hp_l432, hp_l864, hp_l1000, hp_l1600, hp_l1700, hp_l2304, hp_l2916, hp_l3000, hp_l9999, hp_l10000, nI_add, pk_mul, nI_clamp, hl_lt, hl_le, hl_eq, hl_nIb, hl_nsub, hp_eqm, hp_meq, hp_ltm, hp_mlt, hp_lem, hp_mle, hp_addm, hp_meqm, hp_mlem, hp_withinE, hp_within0, if_pos, if_neg, Option.bind_some, hp_let, Sum.elim_inl, Sum.elim_inr, hp_s01, hp_s11, hp_s2, true_and, and_true, if_true, if_false, not_true_eq_false, not_false_eq_true, reduceCtorEq] <;> omega)), nI_clamp (by omega), hb.2, hm_isLetter hb.1, if_neg (show ¬ hp_kl (b t) = 1 from fun z => f4 (by omega) (by omega) (z.trans h1.symm)), if_pos rfl]
theorem hm_isHere (V : hp_wv W v τ) (L : hp_le W) (v64 : v ≠ 64) (R : hm_r n b τ) (h5 : τ.1 64 5 = 0) (ha : τ.1 64 2 = nI a) (S : hp_sk n b a s) (E : hp_tk n b s t) : (s < n ∧ hp_kl (b s) = 1 ∧ τ.1 64 4 ≠ nI s ∧ hp_is b s t W ∧ f_M_isHere v τ = some (1, hl_si τ 64 2 (nI s))) ∨ (¬ (s < n ∧ hp_kl (b s) = 1 ∧ τ.1 64 4 ≠ nI s ∧ hp_is b s t W) ∧ f_M_isHere v τ = some (0, hl_si τ 64 2 (nI s))) := by
  have hn := R.1
  have L2 := L.2.1
  have hs := S.2.1
  have E1 := E.1
  have E2 := E.2.1
  have R' : hm_r n b (hl_si τ 64 2 (nI s)) := R.si (by omega)
  have v4 : (hl_si τ 64 2 (nI s)).1 64 4 = τ.1 64 4 := hp_sn (by omega)
  unfold f_M_isHere
  rw [if_pos h5, hm_look R ha S, Option.bind_some]
  by_cases e1 : s < n
  · have hb := R.2.2 s e1
    rw [if_pos e1]
    simp only [hm_isLetter hb.1]
    by_cases e2 : hp_kl (b s) = 1
    · rw [if_pos e2, if_neg (by decide), hp_s01, v4]
      by_cases e3 : nI s = τ.1 64 4
      · rw [if_pos e3]
        exact .inr ⟨fun z => z.2.2.1 e3.symm, rfl⟩
      · rw [if_neg e3, hm_ends R' E e1 e2, Option.bind_some, V.1, if_pos rfl, hl_nsub E1, show Int32.ofNat W.length = nI W.length from rfl]
        by_cases e4 : t - s = W.length
        · rw [if_pos (by rw [e4])]
          refine hp_invX (b := f_M_isHere_L76 v (hl_si τ 64 2 (nI s))) (s := 0) W.length (fun i x => x = nI i ∧ ∀ k, k < i → b (s + k) = W.getD k 0) (fun x => (x = .inl () ∧ hp_is b s t W) ∨ (x = .inr (0, hl_si τ 64 2 (nI s)) ∧ ¬ hp_is b s t W)) (by omega) ⟨rfl, fun i hi => by omega⟩ ?_ ?_ ?_
          · intro x h3 h4
            rw [h3]
            rcases h4 with ⟨rfl, h5⟩ | ⟨rfl, h5⟩
            · exact .inl ⟨e1, e2, fun z => e3 z.symm, h5, rfl⟩
            · exact .inr ⟨fun z => h5 z.2.2.2, rfl⟩
          · rintro i _ hi ⟨rfl, h3⟩
            have hb := R.2.2 (s + i) (by omega)
            have hw := L.2.2 i hi
            have n1 : ¬ nI W.length ≤ nI i := by first | omega | (simp (disch := first | assumption | omega) only [↓hp_neg1, hp_l0, hp_l1, hp_l2, hp_l3, hp_l4, hp_l5, hp_l6, hp_l7, hp_l8, hp_l9, hp_l10, hp_l11, hp_l12, hp_l13, hp_l14, hp_l15, hp_l16, hp_l17, hp_l18, hp_l19, hp_l20, hp_l21, hp_l22, hp_l23, hp_l24, hp_l25, hp_l26, hp_l27, hp_l28, hp_l29, hp_l30, hp_l31, hp_l32, hp_l33, hp_l34, hp_l35, hp_l36, hp_l37, hp_l38, hp_l39, hp_l40, hp_l41, hp_l42, hp_l43, hp_l44, hp_l45, hp_l46, hp_l47, hp_l48, hp_l49, hp_l50, hp_l51, hp_l52, hp_l53, hp_l54, hp_l55, hp_l56, hp_l57, hp_l58, hp_l59, hp_l60, hp_l61, hp_l62, hp_l63, hp_l64, hp_l65, hp_l66, hp_l67, hp_l68, hp_l69, hp_l70, hp_l71, hp_l72, hp_l73, hp_l74, hp_l75, hp_l76, hp_l77, hp_l78, hp_l79, hp_l80, hp_l81, hp_l82, hp_l83, hp_l84, hp_l85, hp_l86, hp_l87, hp_l88, hp_l89, hp_l90, hp_l91, hp_l92, hp_l93, hp_l94, hp_l95, hp_l96, hp_l97, hp_l98, hp_l99, hp_l100, hp_l101, hp_l102, hp_l103, hp_l104, hp_l105, hp_l106, hp_l107, hp_l108, hp_l109, hp_l110, hp_l111, hp_l112, hp_l113, hp_l114, hp_l115, hp_l116, hp_l117, hp_l118, hp_l119, hp_l120, hp_l121, hp_l122, hp_l123, hp_l124, hp_l125, hp_l126, hp_l127, hp_l141, hp_l142, hp_l150, hp_l151, hp_l152, hp_l153, hp_l251, hp_l255, hp_l256, hp_l300, hp_l432, hp_l864, hp_l1000, hp_l1600, hp_l1700, hp_l2304, hp_l2916, hp_l3000, hp_l9999, hp_l10000, nI_add, pk_mul, nI_clamp, hl_lt, hl_le, hl_eq, hl_nIb, hl_nsub, hp_eqm, hp_meq, hp_ltm, hp_mlt, hp_lem, hp_mle, hp_addm, hp_meqm, hp_mlem, hp_withinE, hp_within0, if_pos, if_neg, Option.bind_some, hp_let, Sum.elim_inl, Sum.elim_inr, hp_s01, hp_s11, hp_s2, true_and, and_true, if_true, if_false, not_true_eq_false, not_false_eq_true, reduceCtorEq] <;> omega)
            unfold f_M_isHere_L76
            rw [V.1, if_pos rfl, show Int32.ofNat W.length = nI W.length from rfl, if_neg n1, hp_s01, nI_add, if_pos (by first | omega | (simp (disch := first | assumption | omega) only [↓hp_neg1, hp_l0, hp_l1, hp_l2, hp_l3, hp_l4, hp_l5, hp_l6, hp_l7, hp_l8, hp_l9, hp_l10, hp_l11, hp_l12, hp_l13, hp_l14, hp_l15, hp_l16, hp_l17, hp_l18, hp_l19, hp_l20, hp_l21, hp_l22, hp_l23, hp_l24, hp_l25, hp_l26, hp_l27, hp_l28, hp_l29, hp_l30, hp_l31, hp_l32, hp_l33, hp_l34, hp_l35, hp_l36, hp_l37, hp_l38, hp_l39, hp_l40, hp_l41, hp_l42, hp_l43, hp_l44, hp_l45, hp_l46, hp_l47, hp_l48, hp_l49, hp_l50, hp_l51, hp_l52, hp_l53, hp_l54, hp_l55, hp_l56, hp_l57, hp_l58, hp_l59, hp_l60, hp_l61, hp_l62, hp_l63, hp_l64, hp_l65, hp_l66, hp_l67, hp_l68, hp_l69, hp_l70, hp_l71, hp_l72, hp_l73, hp_l74, hp_l75, hp_l76, hp_l77, hp_l78, hp_l79, hp_l80, hp_l81, hp_l82, hp_l83, hp_l84, hp_l85, hp_l86, hp_l87, hp_l88, hp_l89, hp_l90, hp_l91, hp_l92, hp_l93, hp_l94, hp_l95, hp_l96, hp_l97, hp_l98, hp_l99, hp_l100, hp_l101, hp_l102, hp_l103, hp_l104, hp_l105, hp_l106, hp_l107, hp_l108, hp_l109, hp_l110, hp_l111, hp_l112, hp_l113, hp_l114, hp_l115, hp_l116, hp_l117, hp_l118, hp_l119, hp_l120, hp_l121, hp_l122, hp_l123, hp_l124, hp_l125, hp_l126, hp_l127, hp_l141, hp_l142, hp_l150, hp_l151, hp_l152, hp_l153, hp_l251, hp_l255, hp_l256, hp_l300, hp_l432, hp_l864, hp_l1000, hp_l1600, hp_l1700, hp_l2304, hp_l2916, hp_l3000, hp_l9999, hp_l10000, nI_add, pk_mul, nI_clamp, hl_lt, hl_le, hl_eq, hl_nIb, hl_nsub, hp_eqm, hp_meq, hp_ltm, hp_mlt, hp_lem, hp_mle, hp_addm, hp_meqm, hp_mlem, hp_withinE, hp_within0, if_pos, if_neg, Option.bind_some, hp_let, Sum.elim_inl, Sum.elim_inr, hp_s01, hp_s11, hp_s2, true_and, and_true, if_true, if_false, not_true_eq_false, not_false_eq_true, reduceCtorEq] <;> omega)), if_pos ⟨rfl, (hl_nIb (by omega)).mpr hi⟩, nI_clamp (by omega), nI_clamp (by omega), (R'.2.2 _ (by omega)).2, hp_sn (by omega), V.2 i hi]
            by_cases e3 : b (s + i) = W.getD i 0
            · rw [if_pos (by rw [e3]), nI_1]
              refine .inl ⟨_, rfl, rfl, fun k hk => ?_⟩
              by_cases ek : k = i
              · rw [ek]; exact e3
              · exact h3 k (by omega)
            · have n2 : ¬ nI (b (s + i)) = nI (W.getD i 0) := by first | omega | (simp (disch := first | assumption | omega) only [↓hp_neg1, hp_l0, hp_l1, hp_l2, hp_l3, hp_l4, hp_l5, hp_l6, hp_l7, hp_l8, hp_l9, hp_l10, hp_l11, hp_l12, hp_l13, hp_l14, hp_l15, hp_l16, hp_l17, hp_l18, hp_l19, hp_l20, hp_l21, hp_l22, hp_l23, hp_l24, hp_l25, hp_l26, hp_l27, hp_l28, hp_l29, hp_l30, hp_l31, hp_l32, hp_l33, hp_l34, hp_l35, hp_l36, hp_l37, hp_l38, hp_l39, hp_l40, hp_l41, hp_l42, hp_l43, hp_l44, hp_l45, hp_l46, hp_l47, hp_l48, hp_l49, hp_l50, hp_l51, hp_l52, hp_l53, hp_l54, hp_l55, hp_l56, hp_l57, hp_l58, hp_l59, hp_l60, hp_l61, hp_l62, hp_l63, hp_l64, hp_l65, hp_l66, hp_l67, hp_l68, hp_l69, hp_l70, hp_l71, hp_l72, hp_l73, hp_l74, hp_l75, hp_l76, hp_l77, hp_l78, hp_l79, hp_l80, hp_l81, hp_l82, hp_l83, hp_l84, hp_l85, hp_l86, hp_l87, hp_l88, hp_l89, hp_l90, hp_l91, hp_l92, hp_l93, hp_l94, hp_l95, hp_l96, hp_l97, hp_l98, hp_l99, hp_l100, hp_l101, hp_l102, hp_l103, hp_l104, hp_l105, hp_l106, hp_l107, hp_l108, hp_l109, hp_l110, hp_l111, hp_l112, hp_l113, hp_l114, hp_l115, hp_l116, hp_l117, hp_l118, hp_l119, hp_l120, hp_l121, hp_l122, hp_l123, hp_l124, hp_l125, hp_l126, hp_l127, hp_l141, hp_l142, hp_l150, hp_l151, hp_l152, hp_l153, hp_l251, hp_l255, hp_l256, hp_l300, hp_l432, hp_l864, hp_l1000, hp_l1600, hp_l1700, hp_l2304, hp_l2916, hp_l3000, hp_l9999, hp_l10000, nI_add, pk_mul, nI_clamp, hl_lt, hl_le, hl_eq, hl_nIb, hl_nsub, hp_eqm, hp_meq, hp_ltm, hp_mlt, hp_lem, hp_mle, hp_addm, hp_meqm, hp_mlem, hp_withinE, hp_within0, if_pos, if_neg, Option.bind_some, hp_let, Sum.elim_inl, Sum.elim_inr, hp_s01, hp_s11, hp_s2, true_and, and_true, if_true, if_false, not_true_eq_false, not_false_eq_true, reduceCtorEq] <;> omega)
              rw [if_neg n2]
              exact .inr ⟨_, rfl, .inr ⟨rfl, fun z => e3 (z.2 i hi)⟩⟩
          · rintro _ ⟨rfl, h3⟩
            unfold f_M_isHere_L76
            rw [V.1, if_pos rfl, show Int32.ofNat W.length = nI W.length from rfl, if_pos (by first | omega | (simp (disch := first | assumption | omega) only [↓hp_neg1, hp_l0, hp_l1, hp_l2, hp_l3, hp_l4, hp_l5, hp_l6, hp_l7, hp_l8, hp_l9, hp_l10, hp_l11, hp_l12, hp_l13, hp_l14, hp_l15, hp_l16, hp_l17, hp_l18, hp_l19, hp_l20, hp_l21, hp_l22, hp_l23, hp_l24, hp_l25, hp_l26, hp_l27, hp_l28, hp_l29, hp_l30, hp_l31, hp_l32, hp_l33, hp_l34, hp_l35, hp_l36, hp_l37, hp_l38, hp_l39, hp_l40, hp_l41, hp_l42, hp_l43, hp_l44, hp_l45, hp_l46, hp_l47, hp_l48, hp_l49, hp_l50, hp_l51, hp_l52, hp_l53, hp_l54, hp_l55, hp_l56, hp_l57, hp_l58, hp_l59, hp_l60, hp_l61, hp_l62, hp_l63, hp_l64, hp_l65, hp_l66, hp_l67, hp_l68, hp_l69, hp_l70, hp_l71, hp_l72, hp_l73, hp_l74, hp_l75, hp_l76, hp_l77, hp_l78, hp_l79, hp_l80, hp_l81, hp_l82, hp_l83, hp_l84, hp_l85, hp_l86, hp_l87, hp_l88, hp_l89, hp_l90, hp_l91, hp_l92, hp_l93, hp_l94, hp_l95, hp_l96, hp_l97, hp_l98, hp_l99, hp_l100, hp_l101, hp_l102, hp_l103, hp_l104, hp_l105, hp_l106, hp_l107, hp_l108, hp_l109, hp_l110, hp_l111, hp_l112, hp_l113, hp_l114, hp_l115, hp_l116, hp_l117, hp_l118, hp_l119, hp_l120, hp_l121, hp_l122, hp_l123, hp_l124, hp_l125, hp_l126, hp_l127, hp_l141, hp_l142, hp_l150, hp_l151, hp_l152, hp_l153, hp_l251, hp_l255, hp_l256, hp_l300, hp_l432, hp_l864, hp_l1000, hp_l1600, hp_l1700, hp_l2304, hp_l2916, hp_l3000, hp_l9999, hp_l10000, nI_add, pk_mul, nI_clamp, hl_lt, hl_le, hl_eq, hl_nIb, hl_nsub, hp_eqm, hp_meq, hp_ltm, hp_mlt, hp_lem, hp_mle, hp_addm, hp_meqm, hp_mlem, hp_withinE, hp_within0, if_pos, if_neg, Option.bind_some, hp_let, Sum.elim_inl, Sum.elim_inr, hp_s01, hp_s11, hp_s2, true_and, and_true, if_true, if_false, not_true_eq_false, not_false_eq_true, reduceCtorEq] <;> omega))]
            exact ⟨_, rfl, .inl ⟨rfl, e4, h3⟩⟩
        · have n1 : ¬ nI (t - s) = nI W.length := by first | omega | (simp (disch := first | assumption | omega) only [↓hp_neg1, hp_l0, hp_l1, hp_l2, hp_l3, hp_l4, hp_l5, hp_l6, hp_l7, hp_l8, hp_l9, hp_l10, hp_l11, hp_l12, hp_l13, hp_l14, hp_l15, hp_l16, hp_l17, hp_l18, hp_l19, hp_l20, hp_l21, hp_l22, hp_l23, hp_l24, hp_l25, hp_l26, hp_l27, hp_l28, hp_l29, hp_l30, hp_l31, hp_l32, hp_l33, hp_l34, hp_l35, hp_l36, hp_l37, hp_l38, hp_l39, hp_l40, hp_l41, hp_l42, hp_l43, hp_l44, hp_l45, hp_l46, hp_l47, hp_l48, hp_l49, hp_l50, hp_l51, hp_l52, hp_l53, hp_l54, hp_l55, hp_l56, hp_l57, hp_l58, hp_l59, hp_l60, hp_l61, hp_l62, hp_l63, hp_l64, hp_l65, hp_l66, hp_l67, hp_l68, hp_l69, hp_l70, hp_l71, hp_l72, hp_l73, hp_l74, hp_l75, hp_l76, hp_l77, hp_l78, hp_l79, hp_l80, hp_l81, hp_l82, hp_l83, hp_l84, hp_l85, hp_l86, hp_l87, hp_l88, hp_l89, hp_l90, hp_l91, hp_l92, hp_l93, hp_l94, hp_l95, hp_l96, hp_l97, hp_l98, hp_l99, hp_l100, hp_l101, hp_l102, hp_l103, hp_l104, hp_l105, hp_l106, hp_l107, hp_l108, hp_l109, hp_l110, hp_l111, hp_l112, hp_l113, hp_l114, hp_l115, hp_l116, hp_l117, hp_l118, hp_l119, hp_l120, hp_l121, hp_l122, hp_l123, hp_l124, hp_l125, hp_l126, hp_l127, hp_l141, hp_l142, hp_l150, hp_l151, hp_l152, hp_l153, hp_l251, hp_l255, hp_l256, hp_l300, hp_l432, hp_l864, hp_l1000, hp_l1600, hp_l1700, hp_l2304, hp_l2916, hp_l3000, hp_l9999, hp_l10000, nI_add, pk_mul, nI_clamp, hl_lt, hl_le, hl_eq, hl_nIb, hl_nsub, hp_eqm, hp_meq, hp_ltm, hp_mlt, hp_lem, hp_mle, hp_addm, hp_meqm, hp_mlem, hp_withinE, hp_within0, if_pos, if_neg, Option.bind_some, hp_let, Sum.elim_inl, Sum.elim_inr, hp_s01, hp_s11, hp_s2, true_and, and_true, if_true, if_false, not_true_eq_false, not_false_eq_true, reduceCtorEq] <;> omega)
          rw [if_neg n1]
          exact .inr ⟨fun z => e4 z.2.2.2.1, rfl⟩
    · rw [if_neg e2, if_pos rfl]
      exact .inr ⟨fun z => e2 z.2.1, rfl⟩
  · rw [if_neg e1]
    simp only [show f_M_isLetter (-1) = 0 by decide]
    rw [if_pos trivial]
    exact .inr ⟨fun z => e1 z.1, rfl⟩
theorem q_fail {f p p' : Int32} (H : q_st n b σ τ) (hf : f ≠ 0) (hp : σ.1 3 4 = 0 → p = p') : q_no (f_Rd_fail f p σ) (f_M_fail f p' τ) ∧ hp_fr hx_FD σ (f_Rd_fail f p σ) ∧ hp_fr hm_FD τ (f_M_fail f p' τ) := by
  unfold f_Rd_fail f_Rd_fail_j17 f_M_fail
  rcases H with ⟨a, s, t, -, -, h5, -, -, h4, -⟩ | ⟨h1, h2, h3, h4⟩
  · rw [if_pos h4, if_pos h5, hp h4]
    refine ⟨⟨?_, ?_, hp_s01, ?_⟩, (((hp_fr.rf (D := hx_FD)).si (show hx_FD 3 4 from rfl)).si (show hx_FD 3 5 from rfl)).si (show hx_FD 3 1 from rfl), (hp_fr.rf.si ⟨rfl, by omega⟩).si ⟨rfl, by omega⟩⟩
    · rw [hp_sn (by omega), hp_sn (by omega), hp_s01]; exact hf
    · rw [hp_sn (by omega), hp_s01, hp_sn (by omega), hp_sn (by omega), hp_s01]
    · rw [hp_sn (by omega), hp_s01, hp_s01]
  · rw [if_neg h1, if_neg (by rw [h2]; exact h1)]
    refine ⟨⟨?_, ?_, hp_s01, ?_⟩, (hp_fr.rf (D := hx_FD)).si (show hx_FD 3 1 from rfl), .rf⟩
    · rw [hp_sn (by omega)]; exact h1
    · rw [hp_sn (by omega)]; exact h2
    · rw [hp_sn (by omega)]; exact h4
/-- the class reads on, the model stands behind the token -/
theorem q_adv (T : hx_t n b σ) (h3 : σ.1 3 3 = nI t) (ht : t ≤ n) (hk : σ.1 3 1 = nI k) (k1 : k = 1 ∨ k = 2 ∨ k = 3) (h4 : σ.1 3 4 = 0) (h5 : τ.1 64 5 = 0) (h2 : τ.1 64 2 = nI t) (he : (k ≠ 3 ∧ τ.1 64 4 = nI t) ∨ (k = 3 ∧ (τ.1 64 4 = -1 ∨ ∃ e, e < t ∧ τ.1 64 4 = nI e))) (h6 : σ.1 3 5 = -1 ∧ τ.1 64 6 = -1) : ∃ σ', f_Rd_advance σ = some σ' ∧ hp_fr hx_RD σ σ' ∧ q_ok n b σ' τ := by
  have hn := T.1
  obtain ⟨s, S⟩ := hp_sk_ex (n := n) (b := b) _ t ht rfl
  obtain ⟨t', E⟩ := hp_tk_ex (n := n) (b := b) S.2.1
  have S1 := S.1
  have S2 := S.2.1
  obtain ⟨σ', r1, r2, r3, r4, r5⟩ := hx_adv T h3 ht hk k1 S E
  refine ⟨σ', r1, r2, t, s, t', S, E, h5, h2, ?_, ?_, r3, r4, r5.trans ?_, by rw [r2.i (by unfold hx_RD; omega)]; exact h6.1, h6.2⟩
  · rcases he with ⟨_, h⟩ | ⟨_, h | ⟨e, h, h'⟩⟩
    · exact .inr ⟨t, Nat.le_refl _, h⟩
    · exact .inl h
    · exact .inr ⟨e, by omega, h'⟩
  · rw [r2.i (by unfold hx_RD; omega)]; exact h4
  · by_cases e : s = n
    · rw [if_pos e, if_pos e]
    · rw [if_neg e, if_neg e]
      rcases he with ⟨h, h'⟩ | ⟨h, h'⟩
      · rw [h']
        by_cases e2 : s = t ∧ hp_kl (b s) ≠ 3
        · rw [if_pos ⟨h, e2⟩, if_pos ⟨by rw [e2.1], e2.2⟩]
        · rw [if_neg (fun z => e2 z.2), if_neg (fun z => e2 ⟨by have := z.1; have n1 : s = t ↔ nI t = nI s := by first | omega | (simp (disch := first | assumption | omega) only [↓hp_neg1, hp_l0, hp_l1, hp_l2, hp_l3, hp_l4, hp_l5, hp_l6, hp_l7, hp_l8, hp_l9, hp_l10, hp_l11, hp_l12, hp_l13, hp_l14, hp_l15, hp_l16, hp_l17, hp_l18, hp_l19, hp_l20, hp_l21, hp_l22, hp_l23, hp_l24, hp_l25, hp_l26, hp_l27, hp_l28, hp_l29, hp_l30, hp_l31, hp_l32, hp_l33, hp_l34, hp_l35, hp_l36, hp_l37, hp_l38, hp_l39, hp_l40, hp_l41, hp_l42, hp_l43, hp_l44, hp_l45, hp_l46, hp_l47, hp_l48, hp_l49, hp_l50, hp_l51, hp_l52, hp_l53, hp_l54, hp_l55, hp_l56, hp_l57, hp_l58, hp_l59, hp_l60, hp_l61, hp_l62, hp_l63, hp_l64, hp_l65, hp_l66, hp_l67, hp_l68, hp_l69, hp_l70, hp_l71, hp_l72, hp_l73, hp_l74, hp_l75, hp_l76, hp_l77, hp_l78, hp_l79, hp_l80, hp_l81, hp_l82, hp_l83, hp_l84, hp_l85, hp_l86, hp_l87, hp_l88, hp_l89, hp_l90, hp_l91, hp_l92, hp_l93, hp_l94, hp_l95, hp_l96, hp_l97, hp_l98, hp_l99, hp_l100, hp_l101, hp_l102, hp_l103, hp_l104, hp_l105, hp_l106, hp_l107, hp_l108, hp_l109, hp_l110, hp_l111, hp_l112, hp_l113, hp_l114, hp_l115, hp_l116, hp_l117, hp_l118, hp_l119, hp_l120, hp_l121, hp_l122, hp_l123, hp_l124, hp_l125, hp_l126, hp_l127, hp_l141, hp_l142, hp_l150, hp_l151, hp_l152, hp_l153, hp_l251, hp_l255, hp_l256, hp_l300, hp_l432, hp_l864, hp_l1000, hp_l1600, hp_l1700, hp_l2304, hp_l2916, hp_l3000, hp_l9999, hp_l10000, nI_add, pk_mul, nI_clamp, hl_lt, hl_le, hl_eq, hl_nIb, hl_nsub, hp_eqm, hp_meq, hp_ltm, hp_mlt, hp_lem, hp_mle, hp_addm, hp_meqm, hp_mlem, hp_withinE, hp_within0, if_pos, if_neg, Option.bind_some, hp_let, Sum.elim_inl, Sum.elim_inr, hp_s01, hp_s11, hp_s2, true_and, and_true, if_true, if_false, not_true_eq_false, not_false_eq_true, reduceCtorEq] <;> omega)
                                                                exact n1.mpr this, z.2⟩)]
      · rw [if_neg (fun z => z.1 h), if_neg]
        rintro ⟨z, _⟩
        rcases h' with h' | ⟨e, h', h''⟩
        · rw [h'] at z
          exact hl_nm1 (by omega) z.symm
        · rw [h''] at z
          have n1 : ¬ nI e = nI s := by first | omega | (simp (disch := first | assumption | omega) only [↓hp_neg1, hp_l0, hp_l1, hp_l2, hp_l3, hp_l4, hp_l5, hp_l6, hp_l7, hp_l8, hp_l9, hp_l10, hp_l11, hp_l12, hp_l13, hp_l14, hp_l15, hp_l16, hp_l17, hp_l18, hp_l19, hp_l20, hp_l21, hp_l22, hp_l23, hp_l24, hp_l25, hp_l26, hp_l27, hp_l28, hp_l29, hp_l30, hp_l31, hp_l32, hp_l33, hp_l34, hp_l35, hp_l36, hp_l37, hp_l38, hp_l39, hp_l40, hp_l41, hp_l42, hp_l43, hp_l44, hp_l45, hp_l46, hp_l47, hp_l48, hp_l49, hp_l50, hp_l51, hp_l52, hp_l53, hp_l54, hp_l55, hp_l56, hp_l57, hp_l58, hp_l59, hp_l60, hp_l61, hp_l62, hp_l63, hp_l64, hp_l65, hp_l66, hp_l67, hp_l68, hp_l69, hp_l70, hp_l71, hp_l72, hp_l73, hp_l74, hp_l75, hp_l76, hp_l77, hp_l78, hp_l79, hp_l80, hp_l81, hp_l82, hp_l83, hp_l84, hp_l85, hp_l86, hp_l87, hp_l88, hp_l89, hp_l90, hp_l91, hp_l92, hp_l93, hp_l94, hp_l95, hp_l96, hp_l97, hp_l98, hp_l99, hp_l100, hp_l101, hp_l102, hp_l103, hp_l104, hp_l105, hp_l106, hp_l107, hp_l108, hp_l109, hp_l110, hp_l111, hp_l112, hp_l113, hp_l114, hp_l115, hp_l116, hp_l117, hp_l118, hp_l119, hp_l120, hp_l121, hp_l122, hp_l123, hp_l124, hp_l125, hp_l126, hp_l127, hp_l141, hp_l142, hp_l150, hp_l151, hp_l152, hp_l153, hp_l251, hp_l255, hp_l256, hp_l300, hp_l432, hp_l864, hp_l1000, hp_l1600, hp_l1700, hp_l2304, hp_l2916, hp_l3000, hp_l9999, hp_l10000, nI_add, pk_mul, nI_clamp, hl_lt, hl_le, hl_eq, hl_nIb, hl_nsub, hp_eqm, hp_meq, hp_ltm, hp_mlt, hp_lem, hp_mle, hp_addm, hp_meqm, hp_mlem, hp_withinE, hp_within0, if_pos, if_neg, Option.bind_some, hp_let, Sum.elim_inl, Sum.elim_inr, hp_s01, hp_s11, hp_s2, true_and, and_true, if_true, if_false, not_true_eq_false, not_false_eq_true, reduceCtorEq] <;> omega)
          exact n1 z
/-- the wanted word -/
theorem q_want (J : hl_sB j = W.map nI) (V : hp_wv W v τ) (L : hp_le W) (v64 : v ≠ 64) (T : hx_t n b σ) (R : hm_r n b τ) (H : q_st n b σ τ) : ∃ σ' τ', f_Rd_wantWord j σ = some σ' ∧ f_M_asks v τ = some τ' ∧ hp_fr hx_FD σ σ' ∧ hp_fr hm_FD τ τ' ∧ q_st n b σ' τ' := by
  have hn := T.1
  rcases H with H | H
  · have H0 := H
    obtain ⟨a, s, t, S, E, h5, h2, he, h4, x2, x3, x1, x6⟩ := H
    have S1 := S.1
    have S2 := S.2.1
    have E1 := E.1
    have E2 := E.2.1
    have c1 : (σ.1 3 1 = 1 ∧ hp_is b s t W) ↔ (s < n ∧ hp_kl (b s) = 1 ∧ τ.1 64 4 ≠ nI s ∧ hp_is b s t W) := by
      have := hp_kl_le (b s)
      rw [x1]
      by_cases e1 : s = n
      · rw [if_pos e1]
        exact ⟨fun z => absurd z.1 (by decide), fun z => by omega⟩
      · rw [if_neg e1]
        by_cases e2 : τ.1 64 4 = nI s ∧ hp_kl (b s) ≠ 3
        · rw [if_pos e2]
          exact ⟨fun z => absurd z.1 (by decide), fun z => absurd e2.1 z.2.2.1⟩
        · rw [if_neg e2]
          constructor
          · rintro ⟨z1, z2⟩
            have z3 : hp_kl (b s) = 1 := by
              have n1 : (nI (hp_kl (b s)) = nI 1) ↔ hp_kl (b s) = 1 := hl_eq (by omega) (by omega)
              exact n1.mp z1
            exact ⟨by omega, z3, fun z => e2 ⟨z, by omega⟩, z2⟩
          · rintro ⟨z1, z2, z3, z4⟩
            exact ⟨by rw [z2]; rfl, z4⟩
    have H' : q_ok n b σ (hl_si τ 64 2 (nI s)) := ⟨s, s, t, ⟨Nat.le_refl _, S2, fun k _ _ => by omega, S.2.2.2⟩, E, by rw [hp_sn (by omega)]; exact h5, hp_s01, by
      rw [hp_sn (by omega)]
      rcases he with h | ⟨e, e1, e2⟩
      · exact .inl h
      · exact .inr ⟨e, by omega, e2⟩, h4, x2, x3, by rw [hp_sn (by omega)]; exact x1, x6.1, by rw [hp_sn (by omega)]; exact x6.2⟩
    have FM : hp_fr hm_FD τ (hl_si τ 64 2 (nI s)) := hp_fr.rf.si ⟨rfl, by omega⟩
    unfold f_Rd_wantWord f_M_asks f_M_takes
    rw [if_pos h5]
    rcases hx_isWord J L T x2 x3 E1 E2 with ⟨q1, q2, q3⟩ | ⟨q1, q3⟩ <;> rcases hm_isHere V L v64 R h5 h2 S E with ⟨m1, m2, m3, m4, m5⟩ | ⟨m1, m5⟩
    · rw [q3, Option.bind_some, if_neg (by decide), m5, Option.bind_some, if_neg (show ¬ (1 : Int32) = 0 by decide), V.1, if_pos rfl, hp_let, Option.bind_some, if_neg (show ¬ (1 : Int32) = 0 by decide)]
      have ew : nI s + Int32.ofNat W.length = nI t := by
        rw [show Int32.ofNat W.length = nI W.length from rfl, nI_add]
        congr 1
        have := m4.1
        omega
      rw [hp_s01, ew]
      have x1' : σ.1 3 1 = nI 1 := q1
      obtain ⟨σ', r1, r2, r3⟩ := q_adv (τ := hl_si (hl_si (hl_si τ 64 2 (nI s)) 64 2 (nI t)) 64 4 ((hl_si (hl_si τ 64 2 (nI s)) 64 2 (nI t)).1 64 2)) T x3 E2 x1' (.inl rfl) h4 (by rw [hp_sn (by omega), hp_sn (by omega), hp_sn (by omega)]; exact h5) (by rw [hp_sn (by omega), hp_s01]) (.inl ⟨by decide, by rw [hp_s01, hp_s01]⟩) ⟨x6.1, by rw [hp_sn (by omega), hp_sn (by omega), hp_sn (by omega)]; exact x6.2⟩
      rw [r1, Option.bind_some]
      exact ⟨_, _, rfl, rfl, r2.mono (fun q f h => h.1), (FM.si ⟨rfl, by omega⟩).si ⟨rfl, by omega⟩, .inl r3⟩
    · exact absurd (c1.mp ⟨q1, q2⟩) m1
    · exact absurd (c1.mpr ⟨m1, m2, m3, m4⟩) q1
    · rw [q3, Option.bind_some, if_pos rfl, m5, Option.bind_some, if_pos rfl, Option.bind_some, if_pos rfl]
      obtain ⟨r1, r2, r3⟩ := q_fail (f := 1) (p := σ.1 3 2) (p' := (hl_si τ 64 2 (nI s)).1 64 2) (.inl H') (by decide) (fun _ => by rw [hp_s01, x2])
      exact ⟨_, _, rfl, rfl, r2, FM.tr r3, .inr r1⟩
  · obtain ⟨h1, h2, h3, h4⟩ := H
    have w0 : f_Rd_isWord j σ = some 0 := by
      unfold f_Rd_isWord
      rw [h3, if_neg (by decide)]
    unfold f_Rd_wantWord f_M_asks
    rw [w0, Option.bind_some, if_pos rfl, if_neg (by rw [h2]; exact h1)]
    obtain ⟨r1, r2, r3⟩ := q_fail (n := n) (b := b) (f := 1) (p := σ.1 3 2) (p' := σ.1 3 2) (σ := σ) (τ := τ) (.inr ⟨h1, h2, h3, h4⟩) (by decide) (fun _ => rfl)
    have e : f_M_fail 1 (σ.1 3 2) τ = τ := by
      unfold f_M_fail
      rw [if_neg (by rw [h2]; exact h1)]
    rw [e] at r1 r3
    exact ⟨_, _, rfl, rfl, r2, r3, .inr r1⟩
end WORD
