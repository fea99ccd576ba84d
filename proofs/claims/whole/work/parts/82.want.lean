/-! numbers, signs, names, STEPS, both readers in step -/
def hp_dec (b : Nat → Nat) (s : Nat) : Nat → Nat
  | 0 => 0
  | k + 1 => 10 * hp_dec b s k + (b (s + k) - 48)
def hp_W (i : Nat) : List Nat := ([[103, 114, 111, 117, 110, 100], [119, 97, 108, 108], [112, 101, 114, 115, 111, 110], [97, 116], [108, 97, 109, 112], [119, 97, 108, 107, 115], [119, 111, 114, 100], [104, 121, 109, 110], [98, 101, 97, 116]] : List (List Nat)).getD i []
def hm_k (τ : hl_M) : Prop := ∀ i, i < 9 → hp_wv (hp_W i) (66 + i) τ
section WANT
variable {σ τ υ : hl_M} {n a s t k c j v : Nat} {b : Nat → Nat} {W : List Nat}
theorem hp_WL {i : Nat} (h : i < 9) : hp_le (hp_W i) := by
  have : ∀ i, i < 9 → (1 ≤ (hp_W i).length ∧ (hp_W i).length < 100 ∧ ∀ k, k < (hp_W i).length → (hp_W i).getD k 0 < 256) := by decide +kernel
  exact this i h
theorem hp_WJ {i : Nat} (h : i < 9) : hl_sB (3 + i) = (hp_W i).map nI := by
  have : ∀ i, i < 9 → hl_sB (3 + i) = (hp_W i).map nI := by decide +kernel
  exact this i h
theorem hm_k.fr {D : Nat → Nat → Prop} (K : hm_k τ) (F : hp_fr D τ υ) (h : ∀ q f, D q f → ¬ (66 ≤ q ∧ q ≤ 74)) : hm_k υ := fun i hi => ⟨(K i hi).1, fun k hk => by rw [F.i (fun z => h _ _ z (by omega))]; exact (K i hi).2 k hk⟩
theorem q_fail0 {f p : Int32} (h4 : σ.1 3 4 = 0) (h5 : τ.1 64 5 = 0) (hf : f ≠ 0) : q_no (f_Rd_fail f p σ) (f_M_fail f p τ) ∧ hp_fr hx_FD σ (f_Rd_fail f p σ) ∧ hp_fr hm_FD τ (f_M_fail f p τ) := by
  unfold f_Rd_fail f_Rd_fail_j17 f_M_fail
  rw [if_pos h4, if_pos h5]
  refine ⟨⟨?_, ?_, hp_s01, ?_⟩, (((hp_fr.rf (D := hx_FD)).si (show hx_FD 3 4 from rfl)).si (show hx_FD 3 5 from rfl)).si (show hx_FD 3 1 from rfl), (hp_fr.rf.si ⟨rfl, by omega⟩).si ⟨rfl, by omega⟩⟩
  · rw [hp_sn (by omega), hp_sn (by omega), hp_s01]; exact hf
  · rw [hp_sn (by omega), hp_s01, hp_sn (by omega), hp_sn (by omega), hp_s01]
  · rw [hp_sn (by omega), hp_s01, hp_s01]
/-- both failed before: the class fails again, the model rests -/
theorem q_failN {f p : Int32} (H : q_no σ τ) : q_no (f_Rd_fail f p σ) τ ∧ hp_fr hx_FD σ (f_Rd_fail f p σ) := by
  obtain ⟨h1, h2, h3, h4⟩ := H
  unfold f_Rd_fail f_Rd_fail_j17
  rw [if_neg h1]
  refine ⟨⟨?_, ?_, hp_s01, ?_⟩, (hp_fr.rf (D := hx_FD)).si (show hx_FD 3 1 from rfl)⟩
  · rw [hp_sn (by omega)]; exact h1
  · rw [hp_sn (by omega)]; exact h2
  · rw [hp_sn (by omega)]; exact h4
theorem hp_dec_lt : ∀ k, (∀ j, j < k → b (s + j) ≤ 57) → hp_dec b s k < 10 ^ k
  | 0, _ => by show 0 < 10 ^ 0; decide
  | k + 1, h => by
    have ih := hp_dec_lt k (fun j hj => h j (by omega))
    have h2 := h k (by omega)
    rw [Nat.pow_succ]
    show 10 * hp_dec b s k + (b (s + k) - 48) < _
    omega
theorem hp_dec_le (hk : k ≤ 4) (h : ∀ j, j < k → b (s + j) ≤ 57) : hp_dec b s k < 10000 := by
  have h1 := hp_dec_lt k h
  have h2 : 10 ^ k ≤ 10 ^ 4 := Nat.pow_le_pow_right (by decide) hk
  omega
theorem hp_dec_nI {x : Nat} (h : 48 ≤ x) : (10 * nI k + nI x - 48 : Int32) = nI (10 * k + (x - 48)) := by
  rw [show (10 : Int32) = nI 10 from rfl, pk_mul, nI_add, show (48 : Int32) = nI 48 from rfl, hl_nsub (by omega)]
  congr 1
  omega
theorem q_ok.n5 (H : q_ok n b σ τ) : σ.1 3 5 = -1 ∧ τ.1 64 6 = -1 := by
  obtain ⟨a, s, t, S, E, h5, h2, he, h4, x2, x3, x1, x6⟩ := H
  exact x6
/-- what stands at the token, in the model -/
theorem q_kind (H : q_ok n b σ τ) : ∃ a s t, hp_sk n b a s ∧ hp_tk n b s t ∧ τ.1 64 5 = 0 ∧ τ.1 64 2 = nI a ∧ (τ.1 64 4 = -1 ∨ ∃ e, e ≤ a ∧ τ.1 64 4 = nI e) ∧ σ.1 3 4 = 0 ∧ σ.1 3 2 = nI s ∧ σ.1 3 3 = nI t ∧ (∀ k, k = 1 ∨ k = 2 → (σ.1 3 1 = nI k ↔ (s < n ∧ hp_kl (b s) = k ∧ τ.1 64 4 ≠ nI s))) ∧ (σ.1 3 1 = 3 ↔ (s < n ∧ hp_kl (b s) = 3)) ∧ (σ.1 3 1 = 0 ↔ s = n) := by
  obtain ⟨a, s, t, S, E, h5, h2, he, h4, x2, x3, x1, -⟩ := H
  have := hp_kl_le (b s)
  have S2 := S.2.1
  have q : ∀ x y : Nat, x < 10 → y < 10 → (nI x = nI y ↔ x = y) := fun x y hx hy => hl_eq (by omega) (by omega)
  refine ⟨a, s, t, S, E, h5, h2, he, h4, x2, x3, fun k hk => ?_, ?_, ?_⟩
  · rw [x1]
    by_cases e1 : s = n
    · rw [if_pos e1, q _ _ (by omega) (by omega)]
      exact ⟨fun z => by omega, fun z => by omega⟩
    · rw [if_neg e1]
      by_cases e2 : τ.1 64 4 = nI s ∧ hp_kl (b s) ≠ 3
      · rw [if_pos e2, q _ _ (by omega) (by omega)]
        exact ⟨fun z => by omega, fun z => absurd e2.1 z.2.2⟩
      · rw [if_neg e2, q _ _ (by omega) (by omega)]
        exact ⟨fun z => ⟨by omega, z, fun w => e2 ⟨w, by omega⟩⟩, fun z => z.2.1⟩
  · rw [x1, show (3 : Int32) = nI 3 from rfl]
    by_cases e1 : s = n
    · rw [if_pos e1, q _ _ (by omega) (by omega)]
      exact ⟨fun z => by omega, fun z => by omega⟩
    · rw [if_neg e1]
      by_cases e2 : τ.1 64 4 = nI s ∧ hp_kl (b s) ≠ 3
      · rw [if_pos e2, q _ _ (by omega) (by omega)]
        exact ⟨fun z => by omega, fun z => absurd z.2 e2.2⟩
      · rw [if_neg e2, q _ _ (by omega) (by omega)]
        exact ⟨fun z => ⟨by omega, z⟩, fun z => z.2⟩
  · rw [x1, show (0 : Int32) = nI 0 from rfl]
    by_cases e1 : s = n
    · rw [if_pos e1]
      exact ⟨fun _ => e1, fun _ => rfl⟩
    · rw [if_neg e1]
      by_cases e2 : τ.1 64 4 = nI s ∧ hp_kl (b s) ≠ 3
      · rw [if_pos e2, q _ _ (by omega) (by omega)]
        exact ⟨fun z => by omega, fun z => absurd z e1⟩
      · rw [if_neg e2, q _ _ (by omega) (by omega)]
        exact ⟨fun z => by omega, fun z => absurd z e1⟩
theorem q_at (S : hp_sk n b a s) (H : q_ok n b σ τ) (ha : τ.1 64 2 = nI a) (han : n ≤ 1600) : q_ok n b σ (hl_si τ 64 2 (nI s)) := by
  obtain ⟨a', s', t, S', E, h5, h2, he, h4, x2, x3, x1, x6⟩ := H
  have z1 := S.1
  have z2 := S.2.1
  have z3 := S'.1
  have z4 := S'.2.1
  have ea : a' = a := by
    rw [ha] at h2
    have q : nI a = nI a' ↔ a = a' := hl_eq (by omega) (by omega)
    exact (q.mp h2).symm
  subst ea
  have es : s' = s := by
    rcases Nat.lt_trichotomy s' s with h | h | h
    · exact absurd (S.2.2.1 s' z3 h) (S'.2.2.2 (by omega))
    · exact h
    · exact absurd (S'.2.2.1 s z1 h) (S.2.2.2 (by omega))
  subst es
  refine ⟨s', s', t, ⟨Nat.le_refl _, z2, fun k _ _ => by omega, S.2.2.2⟩, E, by rw [hp_sn (by omega)]; exact h5, hp_s01, ?_, h4, x2, x3, by rw [hp_sn (by omega)]; exact x1, x6.1, by rw [hp_sn (by omega)]; exact x6.2⟩
  rw [hp_sn (by omega)]
  rcases he with h | ⟨e, e1, e2⟩
  · exact .inl h
  · exact .inr ⟨e, by omega, e2⟩
theorem q_number2 (T : hx_t n b σ) (R : hm_r n b τ) (H : q_st n b σ τ) (lo hi : Int32) {u : Nat} (hu : q_ok n b σ τ → σ.1 3 3 = nI u) : ∃ x y σ' τ', f_Rd_wantNumber lo hi σ = some (x, σ') ∧ f_M_number lo hi τ = some (y, τ') ∧ hp_fr hx_FD σ σ' ∧ hp_fr hm_FD τ τ' ∧ q_st n b σ' τ' ∧ (σ'.1 3 4 = 0 → x = y ∧ ¬ x < lo ∧ ¬ hi < x ∧ (∃ v, v < 10000 ∧ x = nI v) ∧ σ'.1 3 6 = τ'.1 64 9 ∧ τ'.1 64 2 = nI u) := by
  have hn := T.1
  rcases H with H | H
  · obtain ⟨a, s, t, S, E, h5, h2, he, h4, x2, x3, kd, -, -⟩ := q_kind H
    have kd2 := kd 2 (.inr rfl)
    rw [show nI 2 = (2 : Int32) from rfl] at kd2
    have S2 := S.2.1
    have E1 := E.1
    have E2 := E.2.1
    have H' := q_at S H h2 hn
    have FM : hp_fr hm_FD τ (hl_si τ 64 2 (nI s)) := hp_fr.rf.si ⟨rfl, by omega⟩
    have R' : ∀ x, hm_r n b (hl_si τ 64 2 x) := fun x => R.si (by omega)
    have h5' : ∀ x, (hl_si τ 64 2 x).1 64 5 = 0 := fun x => by rw [hp_sn (by omega)]; exact h5
    unfold f_Rd_wantNumber f_M_number
    rw [if_pos h5, hm_look R h2 S, Option.bind_some]
    dsimp only
    by_cases e : σ.1 3 1 = 2
    · obtain ⟨e1, e2, e3⟩ := kd2.mp e
      have hb := R.2.2 s e1
      have d0 : f_M_isDigit (nI (b s)) = 1 := by rw [hm_isDigit hb.1, if_pos e2]
      have e3' : ¬ nI s = (hl_si τ 64 2 (nI s)).1 64 4 := by rw [hp_sn (by omega)]; exact fun z => e3 z.symm
      obtain ⟨f1, f2, f3, f4⟩ := E.2.2 e1
      have dg : ∀ j, j < t - s → 48 ≤ b (s + j) ∧ b (s + j) ≤ 57 ∧ hp_kl (b (s + j)) = 2 := fun j hj => by
        have h := (f2 (s + j) (by omega) (by omega)).trans e2
        have := hp_kl_2 h
        exact ⟨this.1, this.2, h⟩
      rw [if_pos e, x2, x3, hl_nsub E1, if_pos e1, d0, if_neg (show ¬ (1 : Int32) = 0 by decide), hp_s01, if_neg e3']
      have step : ∀ j, j < t - s → j < 4 → f_M_number_L49 lo hi (nI s) (nI (hp_dec b s j), hl_si τ 64 2 (nI (s + j))) = some (.inl (nI (hp_dec b s (j + 1)), hl_si τ 64 2 (nI (s + (j + 1))))) := by
        intro j hj hj4
        obtain ⟨g1, g2, g3⟩ := dg j hj
        have n1 : ¬ nI n ≤ nI (s + j) := by first | omega | (simp (disch := first | assumption | omega) only [↓hp_neg1, hp_l0, hp_l1, hp_l2, hp_l3, hp_l4, hp_l5, hp_l6, hp_l7, hp_l8, hp_l9, hp_l10, hp_l11, hp_l12, hp_l13, hp_l14, hp_l15, hp_l16, hp_l17, hp_l18, hp_l19, hp_l20, hp_l21, hp_l22, hp_l23, hp_l24, hp_l25, hp_l26, hp_l27, hp_l28, hp_l29, hp_l30, hp_l31, hp_l32, hp_l33, hp_l34, hp_l35, hp_l36, hp_l37, hp_l38, hp_l39, hp_l40, hp_l41, hp_l42, hp_l43, hp_l44, hp_l45, hp_l46, hp_l47, hp_l48, hp_l49, hp_l50, hp_l51, hp_l52, hp_l53, hp_l54, hp_l55, hp_l56, hp_l57, hp_l58, hp_l59, hp_l60, hp_l61, hp_l62, hp_l63, hp_l64, hp_l65, hp_l66, hp_l67, hp_l68, hp_l69, hp_l70, hp_l71, hp_l72, hp_l73, hp_l74, hp_l75, hp_l76, hp_l77, hp_l78, hp_l79, hp_l80, hp_l81, hp_l82, hp_l83, hp_l84, hp_l85, hp_l86, hp_l87, hp_l88, hp_l89, hp_l90, hp_l91, hp_l92, hp_l93, hp_l94, hp_l95, hp_l96, hp_l97, hp_l98, hp_l99, hp_l100, hp_l101, hp_l102, hp_l103, hp_l104, hp_l105, hp_l106, hp_l107, hp_l108, hp_l109, hp_l110, hp_l111, hp_l112, hp_l113, hp_l114, hp_l115, hp_l116, hp_l117, hp_l118, hp_l119, hp_l120, hp_l121, hp_l122, hp_l123, hp_l124, hp_l125, hp_l126, hp_l127, hp_l141, hp_l142, hp_l150, hp_l151, hp_l152, hp_l153, hp_l251, hp_l255, hp_l256, hp_l300, hp_l432, hp_l864, hp_l1000, hp_l1600, hp_l1700, hp_l2304, hp_l2916, hp_l3000, hp_l9999, hp_l10000, nI_add, pk_mul, nI_clamp, hl_lt, hl_le, hl_eq, hl_nIb, hl_nsub, hp_eqm, hp_meq, hp_ltm, hp_mlt, hp_lem, hp_mle, hp_addm, hp_meqm, hp_mlem, hp_withinE, hp_within0, if_pos, if_neg, Option.bind_some, hp_let, Sum.elim_inl, Sum.elim_inr, hp_s01, hp_s11, hp_s2, true_and, and_true, if_true, if_false, not_true_eq_false, not_false_eq_true, reduceCtorEq] <;> omega)
        have n2 : hl_b (nI (s + j)) 1600 := by first | omega | (simp (disch := first | assumption | omega) only [↓hp_neg1, hp_l0, hp_l1, hp_l2, hp_l3, hp_l4, hp_l5, hp_l6, hp_l7, hp_l8, hp_l9, hp_l10, hp_l11, hp_l12, hp_l13, hp_l14, hp_l15, hp_l16, hp_l17, hp_l18, hp_l19, hp_l20, hp_l21, hp_l22, hp_l23, hp_l24, hp_l25, hp_l26, hp_l27, hp_l28, hp_l29, hp_l30, hp_l31, hp_l32, hp_l33, hp_l34, hp_l35, hp_l36, hp_l37, hp_l38, hp_l39, hp_l40, hp_l41, hp_l42, hp_l43, hp_l44, hp_l45, hp_l46, hp_l47, hp_l48, hp_l49, hp_l50, hp_l51, hp_l52, hp_l53, hp_l54, hp_l55, hp_l56, hp_l57, hp_l58, hp_l59, hp_l60, hp_l61, hp_l62, hp_l63, hp_l64, hp_l65, hp_l66, hp_l67, hp_l68, hp_l69, hp_l70, hp_l71, hp_l72, hp_l73, hp_l74, hp_l75, hp_l76, hp_l77, hp_l78, hp_l79, hp_l80, hp_l81, hp_l82, hp_l83, hp_l84, hp_l85, hp_l86, hp_l87, hp_l88, hp_l89, hp_l90, hp_l91, hp_l92, hp_l93, hp_l94, hp_l95, hp_l96, hp_l97, hp_l98, hp_l99, hp_l100, hp_l101, hp_l102, hp_l103, hp_l104, hp_l105, hp_l106, hp_l107, hp_l108, hp_l109, hp_l110, hp_l111, hp_l112, hp_l113, hp_l114, hp_l115, hp_l116, hp_l117, hp_l118, hp_l119, hp_l120, hp_l121, hp_l122, hp_l123, hp_l124, hp_l125, hp_l126, hp_l127, hp_l141, hp_l142, hp_l150, hp_l151, hp_l152, hp_l153, hp_l251, hp_l255, hp_l256, hp_l300, hp_l432, hp_l864, hp_l1000, hp_l1600, hp_l1700, hp_l2304, hp_l2916, hp_l3000, hp_l9999, hp_l10000, nI_add, pk_mul, nI_clamp, hl_lt, hl_le, hl_eq, hl_nIb, hl_nsub, hp_eqm, hp_meq, hp_ltm, hp_mlt, hp_lem, hp_mle, hp_addm, hp_meqm, hp_mlem, hp_withinE, hp_within0, if_pos, if_neg, Option.bind_some, hp_let, Sum.elim_inl, Sum.elim_inr, hp_s01, hp_s11, hp_s2, true_and, and_true, if_true, if_false, not_true_eq_false, not_false_eq_true, reduceCtorEq] <;> omega)
        have n3 : ¬ nI (s + j) - nI s = 4 := by
          rw [hl_nsub (by omega)]
          first | omega | (simp (disch := first | assumption | omega) only [↓hp_neg1, hp_l0, hp_l1, hp_l2, hp_l3, hp_l4, hp_l5, hp_l6, hp_l7, hp_l8, hp_l9, hp_l10, hp_l11, hp_l12, hp_l13, hp_l14, hp_l15, hp_l16, hp_l17, hp_l18, hp_l19, hp_l20, hp_l21, hp_l22, hp_l23, hp_l24, hp_l25, hp_l26, hp_l27, hp_l28, hp_l29, hp_l30, hp_l31, hp_l32, hp_l33, hp_l34, hp_l35, hp_l36, hp_l37, hp_l38, hp_l39, hp_l40, hp_l41, hp_l42, hp_l43, hp_l44, hp_l45, hp_l46, hp_l47, hp_l48, hp_l49, hp_l50, hp_l51, hp_l52, hp_l53, hp_l54, hp_l55, hp_l56, hp_l57, hp_l58, hp_l59, hp_l60, hp_l61, hp_l62, hp_l63, hp_l64, hp_l65, hp_l66, hp_l67, hp_l68, hp_l69, hp_l70, hp_l71, hp_l72, hp_l73, hp_l74, hp_l75, hp_l76, hp_l77, hp_l78, hp_l79, hp_l80, hp_l81, hp_l82, hp_l83, hp_l84, hp_l85, hp_l86, hp_l87, hp_l88, hp_l89, hp_l90, hp_l91, hp_l92, hp_l93, hp_l94, hp_l95, hp_l96, hp_l97, hp_l98, hp_l99, hp_l100, hp_l101, hp_l102, hp_l103, hp_l104, hp_l105, hp_l106, hp_l107, hp_l108, hp_l109, hp_l110, hp_l111, hp_l112, hp_l113, hp_l114, hp_l115, hp_l116, hp_l117, hp_l118, hp_l119, hp_l120, hp_l121, hp_l122, hp_l123, hp_l124, hp_l125, hp_l126, hp_l127, hp_l141, hp_l142, hp_l150, hp_l151, hp_l152, hp_l153, hp_l251, hp_l255, hp_l256, hp_l300, hp_l432, hp_l864, hp_l1000, hp_l1600, hp_l1700, hp_l2304, hp_l2916, hp_l3000, hp_l9999, hp_l10000, nI_add, pk_mul, nI_clamp, hl_lt, hl_le, hl_eq, hl_nIb, hl_nsub, hp_eqm, hp_meq, hp_ltm, hp_mlt, hp_lem, hp_mle, hp_addm, hp_meqm, hp_mlem, hp_withinE, hp_within0, if_pos, if_neg, Option.bind_some, hp_let, Sum.elim_inl, Sum.elim_inr, hp_s01, hp_s11, hp_s2, true_and, and_true, if_true, if_false, not_true_eq_false, not_false_eq_true, reduceCtorEq] <;> omega)
        unfold f_M_number_L49
        dsimp only
        rw [(R' _).2.1, hp_s01, if_neg n1, if_pos n2, nI_clamp (by omega), ((R' _).2.2 _ (by omega)).2, hm_isDigit (by omega), if_pos g3, if_neg (show ¬ (1 : Int32) = 0 by decide), if_neg n3, if_pos n2, hp_dec_nI g1, nI_1, hp_ss]
        rfl
      by_cases e4 : t - s ≤ 4
      · have bd := hp_dec_le (b := b) (s := s) e4 (fun j hj => (dg j hj).2.1)
        have lx : hl_lp (f_Rd_wantNumber_L53 lo hi σ) hl_big (0, nI s) = some (nI (hp_dec b s (t - s))) := by
          refine hp_for' (t - s) (fun j => (nI (hp_dec b s j), nI (s + j))) rfl (by omega) ?_ ?_
          · intro j hj
            obtain ⟨g1, g2, g3⟩ := dg j hj
            have n1 : ¬ nI t ≤ nI (s + j) := by first | omega | (simp (disch := first | assumption | omega) only [↓hp_neg1, hp_l0, hp_l1, hp_l2, hp_l3, hp_l4, hp_l5, hp_l6, hp_l7, hp_l8, hp_l9, hp_l10, hp_l11, hp_l12, hp_l13, hp_l14, hp_l15, hp_l16, hp_l17, hp_l18, hp_l19, hp_l20, hp_l21, hp_l22, hp_l23, hp_l24, hp_l25, hp_l26, hp_l27, hp_l28, hp_l29, hp_l30, hp_l31, hp_l32, hp_l33, hp_l34, hp_l35, hp_l36, hp_l37, hp_l38, hp_l39, hp_l40, hp_l41, hp_l42, hp_l43, hp_l44, hp_l45, hp_l46, hp_l47, hp_l48, hp_l49, hp_l50, hp_l51, hp_l52, hp_l53, hp_l54, hp_l55, hp_l56, hp_l57, hp_l58, hp_l59, hp_l60, hp_l61, hp_l62, hp_l63, hp_l64, hp_l65, hp_l66, hp_l67, hp_l68, hp_l69, hp_l70, hp_l71, hp_l72, hp_l73, hp_l74, hp_l75, hp_l76, hp_l77, hp_l78, hp_l79, hp_l80, hp_l81, hp_l82, hp_l83, hp_l84, hp_l85, hp_l86, hp_l87, hp_l88, hp_l89, hp_l90, hp_l91, hp_l92, hp_l93, hp_l94, hp_l95, hp_l96, hp_l97, hp_l98, hp_l99, hp_l100, hp_l101, hp_l102, hp_l103, hp_l104, hp_l105, hp_l106, hp_l107, hp_l108, hp_l109, hp_l110, hp_l111, hp_l112, hp_l113, hp_l114, hp_l115, hp_l116, hp_l117, hp_l118, hp_l119, hp_l120, hp_l121, hp_l122, hp_l123, hp_l124, hp_l125, hp_l126, hp_l127, hp_l141, hp_l142, hp_l150, hp_l151, hp_l152, hp_l153, hp_l251, hp_l255, hp_l256, hp_l300, hp_l432, hp_l864, hp_l1000, hp_l1600, hp_l1700, hp_l2304, hp_l2916, hp_l3000, hp_l9999, hp_l10000, nI_add, pk_mul, nI_clamp, hl_lt, hl_le, hl_eq, hl_nIb, hl_nsub, hp_eqm, hp_meq, hp_ltm, hp_mlt, hp_lem, hp_mle, hp_addm, hp_meqm, hp_mlem, hp_withinE, hp_within0, if_pos, if_neg, Option.bind_some, hp_let, Sum.elim_inl, Sum.elim_inr, hp_s01, hp_s11, hp_s2, true_and, and_true, if_true, if_false, not_true_eq_false, not_false_eq_true, reduceCtorEq] <;> omega)
            unfold f_Rd_wantNumber_L53
            dsimp only
            rw [x3, if_neg n1, hx_at T (by omega), if_pos (by omega), Option.bind_some, hp_dec_nI g1, nI_1]
            rfl
          · unfold f_Rd_wantNumber_L53
            dsimp only
            rw [x3, if_pos (by first | omega | (simp (disch := first | assumption | omega) only [↓hp_neg1, hp_l0, hp_l1, hp_l2, hp_l3, hp_l4, hp_l5, hp_l6, hp_l7, hp_l8, hp_l9, hp_l10, hp_l11, hp_l12, hp_l13, hp_l14, hp_l15, hp_l16, hp_l17, hp_l18, hp_l19, hp_l20, hp_l21, hp_l22, hp_l23, hp_l24, hp_l25, hp_l26, hp_l27, hp_l28, hp_l29, hp_l30, hp_l31, hp_l32, hp_l33, hp_l34, hp_l35, hp_l36, hp_l37, hp_l38, hp_l39, hp_l40, hp_l41, hp_l42, hp_l43, hp_l44, hp_l45, hp_l46, hp_l47, hp_l48, hp_l49, hp_l50, hp_l51, hp_l52, hp_l53, hp_l54, hp_l55, hp_l56, hp_l57, hp_l58, hp_l59, hp_l60, hp_l61, hp_l62, hp_l63, hp_l64, hp_l65, hp_l66, hp_l67, hp_l68, hp_l69, hp_l70, hp_l71, hp_l72, hp_l73, hp_l74, hp_l75, hp_l76, hp_l77, hp_l78, hp_l79, hp_l80, hp_l81, hp_l82, hp_l83, hp_l84, hp_l85, hp_l86, hp_l87, hp_l88, hp_l89, hp_l90, hp_l91, hp_l92, hp_l93, hp_l94, hp_l95, hp_l96, hp_l97, hp_l98, hp_l99, hp_l100, hp_l101, hp_l102, hp_l103, hp_l104, hp_l105, hp_l106, hp_l107, hp_l108, hp_l109, hp_l110, hp_l111, hp_l112, hp_l113, hp_l114, hp_l115, hp_l116, hp_l117, hp_l118, hp_l119, hp_l120, hp_l121, hp_l122, hp_l123, hp_l124, hp_l125, hp_l126, hp_l127, hp_l141, hp_l142, hp_l150, hp_l151, hp_l152, hp_l153, hp_l251, hp_l255, hp_l256, hp_l300, hp_l432, hp_l864, hp_l1000, hp_l1600, hp_l1700, hp_l2304, hp_l2916, hp_l3000, hp_l9999, hp_l10000, nI_add, pk_mul, nI_clamp, hl_lt, hl_le, hl_eq, hl_nIb, hl_nsub, hp_eqm, hp_meq, hp_ltm, hp_mlt, hp_lem, hp_mle, hp_addm, hp_meqm, hp_mlem, hp_withinE, hp_within0, if_pos, if_neg, Option.bind_some, hp_let, Sum.elim_inl, Sum.elim_inr, hp_s01, hp_s11, hp_s2, true_and, and_true, if_true, if_false, not_true_eq_false, not_false_eq_true, reduceCtorEq] <;> omega))]
        have lm : hl_lp (f_M_number_L49 lo hi (nI s)) hl_big (0, hl_si τ 64 2 (nI s)) = some (.inl (nI (hp_dec b s (t - s)), hl_si τ 64 2 (nI t))) := by
          refine hp_for' (t - s) (fun j => (nI (hp_dec b s j), hl_si τ 64 2 (nI (s + j)))) rfl (by omega) (fun j hj => step j hj (by omega)) ?_
          unfold f_M_number_L49
          dsimp only
          rw [show s + (t - s) = t by omega, (R' _).2.1, hp_s01]
          by_cases e5 : t = n
          · rw [if_pos (by first | omega | (simp (disch := first | assumption | omega) only [↓hp_neg1, hp_l0, hp_l1, hp_l2, hp_l3, hp_l4, hp_l5, hp_l6, hp_l7, hp_l8, hp_l9, hp_l10, hp_l11, hp_l12, hp_l13, hp_l14, hp_l15, hp_l16, hp_l17, hp_l18, hp_l19, hp_l20, hp_l21, hp_l22, hp_l23, hp_l24, hp_l25, hp_l26, hp_l27, hp_l28, hp_l29, hp_l30, hp_l31, hp_l32, hp_l33, hp_l34, hp_l35, hp_l36, hp_l37, hp_l38, hp_l39, hp_l40, hp_l41, hp_l42, hp_l43, hp_l44, hp_l45, hp_l46, hp_l47, hp_l48, hp_l49, hp_l50, hp_l51, hp_l52, hp_l53, hp_l54, hp_l55, hp_l56, hp_l57, hp_l58, hp_l59, hp_l60, hp_l61, hp_l62, hp_l63, hp_l64, hp_l65, hp_l66, hp_l67, hp_l68, hp_l69, hp_l70, hp_l71, hp_l72, hp_l73, hp_l74, hp_l75, hp_l76, hp_l77, hp_l78, hp_l79, hp_l80, hp_l81, hp_l82, hp_l83, hp_l84, hp_l85, hp_l86, hp_l87, hp_l88, hp_l89, hp_l90, hp_l91, hp_l92, hp_l93, hp_l94, hp_l95, hp_l96, hp_l97, hp_l98, hp_l99, hp_l100, hp_l101, hp_l102, hp_l103, hp_l104, hp_l105, hp_l106, hp_l107, hp_l108, hp_l109, hp_l110, hp_l111, hp_l112, hp_l113, hp_l114, hp_l115, hp_l116, hp_l117, hp_l118, hp_l119, hp_l120, hp_l121, hp_l122, hp_l123, hp_l124, hp_l125, hp_l126, hp_l127, hp_l141, hp_l142, hp_l150, hp_l151, hp_l152, hp_l153, hp_l251, hp_l255, hp_l256, hp_l300, hp_l432, hp_l864, hp_l1000, hp_l1600, hp_l1700, hp_l2304, hp_l2916, hp_l3000, hp_l9999, hp_l10000, nI_add, pk_mul, nI_clamp, hl_lt, hl_le, hl_eq, hl_nIb, hl_nsub, hp_eqm, hp_meq, hp_ltm, hp_mlt, hp_lem, hp_mle, hp_addm, hp_meqm, hp_mlem, hp_withinE, hp_within0, if_pos, if_neg, Option.bind_some, hp_let, Sum.elim_inl, Sum.elim_inr, hp_s01, hp_s11, hp_s2, true_and, and_true, if_true, if_false, not_true_eq_false, not_false_eq_true, reduceCtorEq] <;> omega))]
          · have hbt := R.2.2 t (by omega)
            have n1 : ¬ nI n ≤ nI t := by first | omega | (simp (disch := first | assumption | omega) only [↓hp_neg1, hp_l0, hp_l1, hp_l2, hp_l3, hp_l4, hp_l5, hp_l6, hp_l7, hp_l8, hp_l9, hp_l10, hp_l11, hp_l12, hp_l13, hp_l14, hp_l15, hp_l16, hp_l17, hp_l18, hp_l19, hp_l20, hp_l21, hp_l22, hp_l23, hp_l24, hp_l25, hp_l26, hp_l27, hp_l28, hp_l29, hp_l30, hp_l31, hp_l32, hp_l33, hp_l34, hp_l35, hp_l36, hp_l37, hp_l38, hp_l39, hp_l40, hp_l41, hp_l42, hp_l43, hp_l44, hp_l45, hp_l46, hp_l47, hp_l48, hp_l49, hp_l50, hp_l51, hp_l52, hp_l53, hp_l54, hp_l55, hp_l56, hp_l57, hp_l58, hp_l59, hp_l60, hp_l61, hp_l62, hp_l63, hp_l64, hp_l65, hp_l66, hp_l67, hp_l68, hp_l69, hp_l70, hp_l71, hp_l72, hp_l73, hp_l74, hp_l75, hp_l76, hp_l77, hp_l78, hp_l79, hp_l80, hp_l81, hp_l82, hp_l83, hp_l84, hp_l85, hp_l86, hp_l87, hp_l88, hp_l89, hp_l90, hp_l91, hp_l92, hp_l93, hp_l94, hp_l95, hp_l96, hp_l97, hp_l98, hp_l99, hp_l100, hp_l101, hp_l102, hp_l103, hp_l104, hp_l105, hp_l106, hp_l107, hp_l108, hp_l109, hp_l110, hp_l111, hp_l112, hp_l113, hp_l114, hp_l115, hp_l116, hp_l117, hp_l118, hp_l119, hp_l120, hp_l121, hp_l122, hp_l123, hp_l124, hp_l125, hp_l126, hp_l127, hp_l141, hp_l142, hp_l150, hp_l151, hp_l152, hp_l153, hp_l251, hp_l255, hp_l256, hp_l300, hp_l432, hp_l864, hp_l1000, hp_l1600, hp_l1700, hp_l2304, hp_l2916, hp_l3000, hp_l9999, hp_l10000, nI_add, pk_mul, nI_clamp, hl_lt, hl_le, hl_eq, hl_nIb, hl_nsub, hp_eqm, hp_meq, hp_ltm, hp_mlt, hp_lem, hp_mle, hp_addm, hp_meqm, hp_mlem, hp_withinE, hp_within0, if_pos, if_neg, Option.bind_some, hp_let, Sum.elim_inl, Sum.elim_inr, hp_s01, hp_s11, hp_s2, true_and, and_true, if_true, if_false, not_true_eq_false, not_false_eq_true, reduceCtorEq] <;> omega)
            have n2 : hl_b (nI t) 1600 := by first | omega | (simp (disch := first | assumption | omega) only [↓hp_neg1, hp_l0, hp_l1, hp_l2, hp_l3, hp_l4, hp_l5, hp_l6, hp_l7, hp_l8, hp_l9, hp_l10, hp_l11, hp_l12, hp_l13, hp_l14, hp_l15, hp_l16, hp_l17, hp_l18, hp_l19, hp_l20, hp_l21, hp_l22, hp_l23, hp_l24, hp_l25, hp_l26, hp_l27, hp_l28, hp_l29, hp_l30, hp_l31, hp_l32, hp_l33, hp_l34, hp_l35, hp_l36, hp_l37, hp_l38, hp_l39, hp_l40, hp_l41, hp_l42, hp_l43, hp_l44, hp_l45, hp_l46, hp_l47, hp_l48, hp_l49, hp_l50, hp_l51, hp_l52, hp_l53, hp_l54, hp_l55, hp_l56, hp_l57, hp_l58, hp_l59, hp_l60, hp_l61, hp_l62, hp_l63, hp_l64, hp_l65, hp_l66, hp_l67, hp_l68, hp_l69, hp_l70, hp_l71, hp_l72, hp_l73, hp_l74, hp_l75, hp_l76, hp_l77, hp_l78, hp_l79, hp_l80, hp_l81, hp_l82, hp_l83, hp_l84, hp_l85, hp_l86, hp_l87, hp_l88, hp_l89, hp_l90, hp_l91, hp_l92, hp_l93, hp_l94, hp_l95, hp_l96, hp_l97, hp_l98, hp_l99, hp_l100, hp_l101, hp_l102, hp_l103, hp_l104, hp_l105, hp_l106, hp_l107, hp_l108, hp_l109, hp_l110, hp_l111, hp_l112, hp_l113, hp_l114, hp_l115, hp_l116, hp_l117, hp_l118, hp_l119, hp_l120, hp_l121, hp_l122, hp_l123, hp_l124, hp_l125, hp_l126, hp_l127, hp_l141, hp_l142, hp_l150, hp_l151, hp_l152, hp_l153, hp_l251, hp_l255, hp_l256, hp_l300, hp_l432, hp_l864, hp_l1000, hp_l1600, hp_l1700, hp_l2304, hp_l2916, hp_l3000, hp_l9999, hp_l10000, nI_add, pk_mul, nI_clamp, hl_lt, hl_le, hl_eq, hl_nIb, hl_nsub, hp_eqm, hp_meq, hp_ltm, hp_mlt, hp_lem, hp_mle, hp_addm, hp_meqm, hp_mlem, hp_withinE, hp_within0, if_pos, if_neg, Option.bind_some, hp_let, Sum.elim_inl, Sum.elim_inr, hp_s01, hp_s11, hp_s2, true_and, and_true, if_true, if_false, not_true_eq_false, not_false_eq_true, reduceCtorEq] <;> omega)
            have n3 : ¬ hp_kl (b t) = 2 := fun z => f4 (by omega) (by omega) (z.trans e2.symm)
            rw [if_neg n1, if_pos n2, nI_clamp (by omega), ((R' _).2.2 _ (by omega)).2, hm_isDigit hbt.1, if_neg n3, if_pos rfl]
        rw [if_pos (show nI (t - s) ≤ 4 from nI_le e4 (by decide)), lx, Option.bind_some, lm, Option.bind_some]
        rw [Sum.elim_inl, hp_isIn32]
        generalize hp_dec b s (t - s) = V at *
        have FM2 : hp_fr hm_FD τ (hl_si (hl_si (hl_si τ 64 2 (nI t)) 64 4 ((hl_si τ 64 2 (nI t)).1 64 2)) 64 9 (nI s)) := ((hp_fr.rf.si ⟨rfl, by omega⟩).si ⟨rfl, by omega⟩).si ⟨rfl, by omega⟩
        have b5 : (hl_si (hl_si (hl_si τ 64 2 (nI t)) 64 4 ((hl_si τ 64 2 (nI t)).1 64 2)) 64 9 (nI s)).1 64 5 = 0 := by rw [hp_sn (by omega), hp_sn (by omega), hp_sn (by omega)]; exact h5
        have bad : ∃ x y σ' τ', f_Rd_wantNumber_j104 (hl_si σ 3 6 (nI s)) = some (x, σ') ∧ some (nI V, f_M_fail 2 (nI s) (hl_si (hl_si (hl_si τ 64 2 (nI t)) 64 4 ((hl_si τ 64 2 (nI t)).1 64 2)) 64 9 (nI s))) = some (y, τ') ∧ hp_fr hx_FD σ σ' ∧ hp_fr hm_FD τ τ' ∧ q_st n b σ' τ' ∧ (σ'.1 3 4 = 0 → x = y ∧ ¬ x < lo ∧ ¬ hi < x ∧ (∃ v, v < 10000 ∧ x = nI v) ∧ σ'.1 3 6 = τ'.1 64 9 ∧ τ'.1 64 2 = nI u) := by
          have h4' : (hl_si σ 3 6 (nI s)).1 3 4 = 0 := by rw [hp_sn (by omega)]; exact h4
          obtain ⟨r1, r2, r3⟩ := q_fail0 (f := 2) (p := nI s) h4' b5 (by decide)
          unfold f_Rd_wantNumber_j104
          rw [hp_sn (show ¬ (3 = 3 ∧ 2 = 6) by omega), x2]
          exact ⟨_, _, _, _, rfl, rfl, ((hp_fr.rf (D := hx_FD)).si (show hx_FD 3 6 from rfl)).tr r2, FM2.tr r3, .inr r1, fun z => absurd z r1.1⟩
        by_cases e5 : nI V < lo
        · simp only [if_pos e5]
          exact bad
        · simp only [if_neg e5]
          by_cases e6 : hi < nI V
          · have n1 : ¬ nI V ≤ hi := Int32.not_le.mpr e6
            simp only [if_pos e6, if_neg n1]
            exact bad
          · have n1 : nI V ≤ hi := Int32.not_lt.mp e6
            simp only [if_neg e6, if_pos n1]
            rw [if_neg (show ¬ (1 : Int32) = 0 by decide)]
            obtain ⟨σ', r1, r2, r3⟩ := q_adv (σ := hl_si σ 3 6 (nI s)) (k := 2) (τ := hl_si (hl_si (hl_si τ 64 2 (nI t)) 64 4 ((hl_si τ 64 2 (nI t)).1 64 2)) 64 9 (nI s)) (T.si (by omega)) (by rw [hp_sn (by omega)]; exact x3) E2 (by rw [hp_sn (by omega)]; exact e) (.inr (.inl rfl)) (by rw [hp_sn (by omega)]; exact h4) b5 (by rw [hp_sn (by omega), hp_sn (by omega), hp_s01]) (.inl ⟨by decide, by rw [hp_sn (by omega), hp_s01, hp_s01]⟩) ⟨by rw [hp_sn (by omega)]; exact H.n5.1, by rw [hp_sn (by omega), hp_sn (by omega), hp_sn (by omega)]; exact H.n5.2⟩
            rw [r1, Option.bind_some]
            refine ⟨_, _, _, _, rfl, rfl, ((hp_fr.rf (D := hx_FD)).si (show hx_FD 3 6 from rfl)).tr (r2.mono (fun q f h => h.1)), FM2, .inl r3, fun _ => ⟨rfl, e5, e6, ⟨V, bd, rfl⟩, ?_, by rw [hp_sn (by omega), hp_sn (by omega), hp_s01]; exact x3.symm.trans (hu H)⟩⟩
            rw [r2.i (by unfold hx_RD; omega), hp_s01, hp_s01]
      · have n0 : ¬ nI (t - s) ≤ 4 := by first | omega | (simp (disch := first | assumption | omega) only [↓hp_neg1, hp_l0, hp_l1, hp_l2, hp_l3, hp_l4, hp_l5, hp_l6, hp_l7, hp_l8, hp_l9, hp_l10, hp_l11, hp_l12, hp_l13, hp_l14, hp_l15, hp_l16, hp_l17, hp_l18, hp_l19, hp_l20, hp_l21, hp_l22, hp_l23, hp_l24, hp_l25, hp_l26, hp_l27, hp_l28, hp_l29, hp_l30, hp_l31, hp_l32, hp_l33, hp_l34, hp_l35, hp_l36, hp_l37, hp_l38, hp_l39, hp_l40, hp_l41, hp_l42, hp_l43, hp_l44, hp_l45, hp_l46, hp_l47, hp_l48, hp_l49, hp_l50, hp_l51, hp_l52, hp_l53, hp_l54, hp_l55, hp_l56, hp_l57, hp_l58, hp_l59, hp_l60, hp_l61, hp_l62, hp_l63, hp_l64, hp_l65, hp_l66, hp_l67, hp_l68, hp_l69, hp_l70, hp_l71, hp_l72, hp_l73, hp_l74, hp_l75, hp_l76, hp_l77, hp_l78, hp_l79, hp_l80, hp_l81, hp_l82, hp_l83, hp_l84, hp_l85, hp_l86, hp_l87, hp_l88, hp_l89, hp_l90, hp_l91, hp_l92, hp_l93, hp_l94, hp_l95, hp_l96, hp_l97, hp_l98, hp_l99, hp_l100, hp_l101, hp_l102, hp_l103, hp_l104, hp_l105, hp_l106, hp_l107, hp_l108, hp_l109, hp_l110, hp_l111, hp_l112, hp_l113, hp_l114, hp_l115, hp_l116, hp_l117, hp_l118, hp_l119, hp_l120, hp_l121, hp_l122, hp_l123, hp_l124, hp_l125, hp_l126, hp_l127, hp_l141, hp_l142, hp_l150, hp_l151, hp_l152, hp_l153, hp_l251, hp_l255, hp_l256, hp_l300, hp_l432, hp_l864, hp_l1000, hp_l1600, hp_l1700, hp_l2304, hp_l2916, hp_l3000, hp_l9999, hp_l10000, nI_add, pk_mul, nI_clamp, hl_lt, hl_le, hl_eq, hl_nIb, hl_nsub, hp_eqm, hp_meq, hp_ltm, hp_mlt, hp_lem, hp_mle, hp_addm, hp_meqm, hp_mlem, hp_withinE, hp_within0, if_pos, if_neg, Option.bind_some, hp_let, Sum.elim_inl, Sum.elim_inr, hp_s01, hp_s11, hp_s2, true_and, and_true, if_true, if_false, not_true_eq_false, not_false_eq_true, reduceCtorEq] <;> omega)
        have lm : hl_lp (f_M_number_L49 lo hi (nI s)) hl_big (0, hl_si τ 64 2 (nI s)) = some (.inr (hl_si τ 64 2 (nI (s + 4)))) := by
          refine hp_for' 4 (fun j => (nI (hp_dec b s j), hl_si τ 64 2 (nI (s + j)))) rfl (by omega) (fun j hj => step j (by omega) hj) ?_
          obtain ⟨g1, g2, g3⟩ := dg 4 (by omega)
          have n1 : ¬ nI n ≤ nI (s + 4) := by first | omega | (simp (disch := first | assumption | omega) only [↓hp_neg1, hp_l0, hp_l1, hp_l2, hp_l3, hp_l4, hp_l5, hp_l6, hp_l7, hp_l8, hp_l9, hp_l10, hp_l11, hp_l12, hp_l13, hp_l14, hp_l15, hp_l16, hp_l17, hp_l18, hp_l19, hp_l20, hp_l21, hp_l22, hp_l23, hp_l24, hp_l25, hp_l26, hp_l27, hp_l28, hp_l29, hp_l30, hp_l31, hp_l32, hp_l33, hp_l34, hp_l35, hp_l36, hp_l37, hp_l38, hp_l39, hp_l40, hp_l41, hp_l42, hp_l43, hp_l44, hp_l45, hp_l46, hp_l47, hp_l48, hp_l49, hp_l50, hp_l51, hp_l52, hp_l53, hp_l54, hp_l55, hp_l56, hp_l57, hp_l58, hp_l59, hp_l60, hp_l61, hp_l62, hp_l63, hp_l64, hp_l65, hp_l66, hp_l67, hp_l68, hp_l69, hp_l70, hp_l71, hp_l72, hp_l73, hp_l74, hp_l75, hp_l76, hp_l77, hp_l78, hp_l79, hp_l80, hp_l81, hp_l82, hp_l83, hp_l84, hp_l85, hp_l86, hp_l87, hp_l88, hp_l89, hp_l90, hp_l91, hp_l92, hp_l93, hp_l94, hp_l95, hp_l96, hp_l97, hp_l98, hp_l99, hp_l100, hp_l101, hp_l102, hp_l103, hp_l104, hp_l105, hp_l106, hp_l107, hp_l108, hp_l109, hp_l110, hp_l111, hp_l112, hp_l113, hp_l114, hp_l115, hp_l116, hp_l117, hp_l118, hp_l119, hp_l120, hp_l121, hp_l122, hp_l123, hp_l124, hp_l125, hp_l126, hp_l127, hp_l141, hp_l142, hp_l150, hp_l151, hp_l152, hp_l153, hp_l251, hp_l255, hp_l256, hp_l300, hp_l432, hp_l864, hp_l1000, hp_l1600, hp_l1700, hp_l2304, hp_l2916, hp_l3000, hp_l9999, hp_l10000, nI_add, pk_mul, nI_clamp, hl_lt, hl_le, hl_eq, hl_nIb, hl_nsub, hp_eqm, hp_meq, hp_ltm, hp_mlt, hp_lem, hp_mle, hp_addm, hp_meqm, hp_mlem, hp_withinE, hp_within0, if_pos, if_neg, Option.bind_some, hp_let, Sum.elim_inl, Sum.elim_inr, hp_s01, hp_s11, hp_s2, true_and, and_true, if_true, if_false, not_true_eq_false, not_false_eq_true, reduceCtorEq] <;> omega)
          have n2 : hl_b (nI (s + 4)) 1600 := by first | omega | (simp (disch := first | assumption | omega) only [↓hp_neg1, hp_l0, hp_l1, hp_l2, hp_l3, hp_l4, hp_l5, hp_l6, hp_l7, hp_l8, hp_l9, hp_l10, hp_l11, hp_l12, hp_l13, hp_l14, hp_l15, hp_l16, hp_l17, hp_l18, hp_l19, hp_l20, hp_l21, hp_l22, hp_l23, hp_l24, hp_l25, hp_l26, hp_l27, hp_l28, hp_l29, hp_l30, hp_l31, hp_l32, hp_l33, hp_l34, hp_l35, hp_l36, hp_l37, hp_l38, hp_l39, hp_l40, hp_l41, hp_l42, hp_l43, hp_l44, hp_l45, hp_l46, hp_l47, hp_l48, hp_l49, hp_l50, hp_l51, hp_l52, hp_l53, hp_l54, hp_l55, hp_l56, hp_l57, hp_l58, hp_l59, hp_l60, hp_l61, hp_l62, hp_l63, hp_l64, hp_l65, hp_l66, hp_l67, hp_l68, hp_l69, hp_l70, hp_l71, hp_l72, hp_l73, hp_l74, hp_l75, hp_l76, hp_l77, hp_l78, hp_l79, hp_l80, hp_l81, hp_l82, hp_l83, hp_l84, hp_l85, hp_l86, hp_l87, hp_l88, hp_l89, hp_l90, hp_l91, hp_l92, hp_l93, hp_l94, hp_l95, hp_l96, hp_l97, hp_l98, hp_l99, hp_l100, hp_l101, hp_l102, hp_l103, hp_l104, hp_l105, hp_l106, hp_l107, hp_l108, hp_l109, hp_l110, hp_l111, hp_l112, hp_l113, hp_l114, hp_l115, hp_l116, hp_l117, hp_l118, hp_l119, hp_l120, hp_l121, hp_l122, hp_l123, hp_l124, hp_l125, hp_l126, hp_l127, hp_l141, hp_l142, hp_l150, hp_l151, hp_l152, hp_l153, hp_l251, hp_l255, hp_l256, hp_l300, hp_l432, hp_l864, hp_l1000, hp_l1600, hp_l1700, hp_l2304, hp_l2916, hp_l3000, hp_l9999, hp_l10000, nI_add, pk_mul, nI_clamp, hl_lt, hl_le, hl_eq, hl_nIb, hl_nsub, hp_eqm, hp_meq, hp_ltm, hp_mlt, hp_lem, hp_mle, hp_addm, hp_meqm, hp_mlem, hp_withinE, hp_within0, if_pos, if_neg, Option.bind_some, hp_let, Sum.elim_inl, Sum.elim_inr, hp_s01, hp_s11, hp_s2, true_and, and_true, if_true, if_false, not_true_eq_false, not_false_eq_true, reduceCtorEq] <;> omega)
          have n3 : nI (s + 4) - nI s = 4 := by
            rw [hl_nsub (by omega), show s + 4 - s = 4 by omega]
            rfl
          unfold f_M_number_L49
          dsimp only
          rw [(R' _).2.1, hp_s01, if_neg n1, if_pos n2, nI_clamp (by omega), ((R' _).2.2 _ (by omega)).2, hm_isDigit (by omega), if_pos g3, if_neg (show ¬ (1 : Int32) = 0 by decide), if_pos n3]
        rw [if_neg n0, lm, Option.bind_some, Sum.elim_inr, hp_s01, show (4 : Int32) = nI 4 from rfl, nI_add]
        obtain ⟨r1, r2, r3⟩ := q_fail0 (σ := σ) (τ := hl_si τ 64 2 (nI (s + 4))) (f := 1) (p := nI (s + 4)) h4 (h5' _) (by decide)
        exact ⟨_, _, _, _, rfl, rfl, r2, (hp_fr.rf.si (show hm_FD 64 2 from ⟨rfl, by omega⟩)).tr r3, .inr r1, fun z => absurd z r1.1⟩
    · have ne : ¬ (s < n ∧ hp_kl (b s) = 2 ∧ τ.1 64 4 ≠ nI s) := fun z => e (kd2.mpr z)
      obtain ⟨r1, r2, r3⟩ := q_fail0 (σ := σ) (τ := hl_si τ 64 2 (nI s)) (f := 1) (p := nI s) h4 (h5' _) (by decide)
      have j30 : f_M_number_j30 (hl_si τ 64 2 (nI s)) = some (0, f_M_fail 1 (nI s) (hl_si τ 64 2 (nI s))) := by
        unfold f_M_number_j30
        rw [hp_s01]
      have all : ∃ x y σ' τ', some (-1, f_Rd_fail 1 (nI s) σ) = some (x, σ') ∧ f_M_number_j30 (hl_si τ 64 2 (nI s)) = some (y, τ') ∧ hp_fr hx_FD σ σ' ∧ hp_fr hm_FD τ τ' ∧ q_st n b σ' τ' ∧ (σ'.1 3 4 = 0 → x = y ∧ ¬ x < lo ∧ ¬ hi < x ∧ (∃ v, v < 10000 ∧ x = nI v) ∧ σ'.1 3 6 = τ'.1 64 9 ∧ τ'.1 64 2 = nI u) := ⟨_, _, _, _, rfl, j30, r2, FM.tr r3, .inr r1, fun z => absurd z r1.1⟩
      rw [if_neg e, x2]
      by_cases e1 : s < n
      · have hb := R.2.2 s e1
        rw [if_pos e1, hm_isDigit hb.1]
        by_cases e2 : hp_kl (b s) = 2
        · have e3 : nI s = (hl_si τ 64 2 (nI s)).1 64 4 := by
            rw [hp_sn (by omega)]
            by_cases e4 : τ.1 64 4 = nI s
            · exact e4.symm
            · exact absurd ⟨e1, e2, e4⟩ ne
          rw [if_pos e2, if_neg (show ¬ (1 : Int32) = 0 by decide), hp_s01, if_pos e3]
          exact all
        · rw [if_neg e2, if_pos rfl]
          exact all
      · rw [if_neg e1, show f_M_isDigit (-1) = 0 by decide, if_pos rfl]
        exact all
  · obtain ⟨h1, h2, h3, h4⟩ := H
    unfold f_Rd_wantNumber f_M_number
    rw [h3, if_neg (by decide), if_neg (by rw [h2]; exact h1)]
    obtain ⟨r1, r2⟩ := q_failN (f := 1) (p := σ.1 3 2) ⟨h1, h2, h3, h4⟩
    exact ⟨_, _, _, _, rfl, rfl, r2, .rf, .inr r1, fun z => absurd z r1.1⟩
theorem q_number (T : hx_t n b σ) (R : hm_r n b τ) (H : q_st n b σ τ) (lo hi : Int32) : ∃ x y σ' τ', f_Rd_wantNumber lo hi σ = some (x, σ') ∧ f_M_number lo hi τ = some (y, τ') ∧ hp_fr hx_FD σ σ' ∧ hp_fr hm_FD τ τ' ∧ q_st n b σ' τ' ∧ (σ'.1 3 4 = 0 → x = y ∧ ¬ x < lo ∧ ¬ hi < x ∧ (∃ v, v < 10000 ∧ x = nI v) ∧ σ'.1 3 6 = τ'.1 64 9) := by
  obtain ⟨x, y, σ', τ', h1, h2, h3, h4, h5, h6⟩ := q_number2 T R H lo hi (u := (σ.1 3 3).toNatClampNeg) (fun z => by
    obtain ⟨a, s, t, S, E, h5, h2, he, h4, x2, x3, -⟩ := z
    have := E.2.1
    have := T.1
    rw [x3, nI_clamp (by omega)])
  exact ⟨x, y, σ', τ', h1, h2, h3, h4, h5, fun z => ⟨(h6 z).1, (h6 z).2.1, (h6 z).2.2.1, (h6 z).2.2.2.1, (h6 z).2.2.2.2.1⟩⟩
end WANT
