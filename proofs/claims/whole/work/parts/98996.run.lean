/-! questions: codes run from the first to the last; a beat's value -/
section RUNS
variable {G P : hp_G} {σ τ σ' τ' υ : hl_M} {k j v N bb o bs : Nat} {x y z : Int64} {p q : List Int64} {C A : List Nat} {pv : Nat → Nat} {ov : Nat → Int64 → Nat}
/-- what one code does, by kinds -/
theorem hq_e1c (h : hq_e1 pv ov v p = some q) : (1000 ≤ v ∧ v < 20000 ∧ p.length < 64 ∧ q = lN (v - 1000) :: p) ∨ (∃ k x p', k < 3 ∧ v = 60 + k ∧ p = x :: p' ∧ q = lN (ov k x) :: p') ∨ (∃ k, k < 4 ∧ v = 40 + k ∧ p.length < 64 ∧ q = lN (pv k) :: p) ∨ (v = 13 ∧ p.length < 64 ∧ q = 1 :: p) ∨ (∃ x p', v = 12 ∧ p = x :: p' ∧ (x = 0 ∨ x = 1) ∧ q = (1 - x) :: p') ∨ (∃ x y z p', 1 ≤ v ∧ v ≤ 11 ∧ p = y :: x :: p' ∧ hq_j v x y = some z ∧ q = z :: p') := by
  unfold hq_e1 at h
  by_cases h1 : 1000 ≤ v
  · rw [if_pos h1] at h
    by_cases h2 : v < 20000
    · rw [if_pos h2] at h
      unfold hq_pu at h
      by_cases h3 : p.length < 64
      · rw [if_pos h3] at h
        exact .inl ⟨h1, h2, h3, (Option.some.inj h).symm⟩
      · rw [if_neg h3] at h; cases h
    · rw [if_neg h2] at h; cases h
  · rw [if_neg h1] at h
    by_cases h2 : 60 ≤ v
    · rw [if_pos h2] at h
      by_cases h3 : v < 63
      · rw [if_pos h3] at h
        cases p with
        | nil => cases h
        | cons x p' => exact .inr (.inl ⟨v - 60, x, p', by omega, by omega, rfl, (Option.some.inj h).symm⟩)
      · rw [if_neg h3] at h; cases h
    · rw [if_neg h2] at h
      by_cases h3 : 40 ≤ v
      · rw [if_pos h3] at h
        by_cases h4 : v < 44
        · rw [if_pos h4] at h
          unfold hq_pu at h
          by_cases h5 : p.length < 64
          · rw [if_pos h5] at h
            exact .inr (.inr (.inl ⟨v - 40, by omega, by omega, h5, (Option.some.inj h).symm⟩))
          · rw [if_neg h5] at h; cases h
        · rw [if_neg h4] at h; cases h
      · rw [if_neg h3] at h
        by_cases h4 : v = 13
        · rw [if_pos h4] at h
          unfold hq_pu at h
          by_cases h5 : p.length < 64
          · rw [if_pos h5] at h
            exact .inr (.inr (.inr (.inl ⟨h4, h5, (Option.some.inj h).symm⟩)))
          · rw [if_neg h5] at h; cases h
        · rw [if_neg h4] at h
          by_cases h5 : v = 12
          · rw [if_pos h5] at h
            cases p with
            | nil => cases h
            | cons x p' =>
              have h' : (if x = 0 ∨ x = 1 then some ((1 - x) :: p') else none) = some q := h
              by_cases h6 : x = 0 ∨ x = 1
              · rw [if_pos h6] at h'
                exact .inr (.inr (.inr (.inr (.inl ⟨x, p', h5, rfl, h6, (Option.some.inj h').symm⟩))))
              · rw [if_neg h6] at h'; cases h'
          · rw [if_neg h5] at h
            cases p with
            | nil => cases h
            | cons y p1 =>
              cases p1 with
              | nil => cases h
              | cons x p' =>
                have h' : (hq_j v x y).map (fun z => z :: p') = some q := h
                cases hj : hq_j v x y with
                | none => rw [hj] at h'; cases h'
                | some z =>
                  rw [hj] at h'
                  obtain ⟨g1, g2⟩ := hq_jv hj
                  exact .inr (.inr (.inr (.inr (.inr ⟨x, y, z, p', g1, g2, rfl, hj, (Option.some.inj h').symm⟩))))
theorem hx_v.PD {f : Nat → Nat} (V : hx_v f σ) (F : hp_fr hx_PD σ σ') : hx_v f σ' := by
  unfold hx_v at V ⊢
  rw [F.l (by unfold hx_PD; omega), F.l (by unfold hx_PD; omega)]
  exact V
theorem hx_run {f : Nat → Nat} (SX : ∀ σ', hx G P σ' → hx_v f σ' → (∀ k, k < 4 → f_Qu_seen (hq_xc (40 + k)) (nI bb) σ' = some (lN (pv k))) ∧ ∀ k x, k < 3 → f_Qu_found (hq_xc (60 + k)) x (nI bb) σ' = some (lN (ov k x))) : ∀ (rest A : List Nat) (σ : hl_M) (p q : List Int64) (m : Nat), hx G P σ → hx_v f σ → hx_q (A ++ rest) o σ → (A ++ rest).length < 1601 → hx_plq p σ → p.length ≤ 64 → hq_ev pv ov rest p = some q → rest.length + 1 ≤ m → ∃ σ', hl_lp (f_Qu_valueIn_L16 (nI bb)) m (nI A.length, σ) = some σ' ∧ hp_fr hx_PD σ σ' ∧ hx_plq q σ' := by
  intro rest
  induction rest with
  | nil =>
    intro A σ p q m H V Q hl HP hp he hm
    obtain ⟨m, rfl⟩ : ∃ g, m = g + 1 := ⟨m - 1, by simp at hm; omega⟩
    have e : p = q := Option.some.inj he
    subst e
    rw [List.append_nil] at Q hl
    refine ⟨σ, hl_lp_e ?_, .rf, HP⟩
    unfold f_Qu_valueIn_L16
    dsimp only
    rw [Q.1, if_pos (nI_le (Nat.le_refl _) (by omega))]
  | cons v rest ih =>
    intro A σ p q m H V Q hl HP hp he hm
    rw [List.length_cons] at hm
    obtain ⟨m, rfl⟩ : ∃ g, m = g + 1 := ⟨m - 1, by omega⟩
    have hlen : (A ++ v :: rest).length = A.length + (rest.length + 1) := by rw [List.length_append, List.length_cons]
    have hv : σ.1 56 A.length = hq_xc v := Q.2.1 A.length v (by rw [List.getElem?_append_right (Nat.le_refl _), Nat.sub_self]; rfl)
    have as : A ++ v :: rest = (A ++ [v]) ++ rest := by simp
    have n1 : ¬ nI (A ++ v :: rest).length ≤ nI A.length := by first | omega | (simp (disch := first | assumption | omega) only [↓hp_neg1, hp_l0, hp_l1, hp_l2, hp_l3, hp_l4, hp_l5, hp_l6, hp_l7, hp_l8, hp_l9, hp_l10, hp_l11, hp_l12, hp_l13, hp_l14, hp_l15, hp_l16, hp_l17, hp_l18, hp_l19, hp_l20, hp_l21, hp_l22, hp_l23, hp_l24, hp_l25, hp_l26, hp_l27, hp_l28, hp_l29, hp_l30, hp_l31, hp_l32, hp_l33, hp_l34, hp_l35, hp_l36, hp_l37, hp_l38, hp_l39, hp_l40, hp_l41, hp_l42, hp_l43, hp_l44, hp_l45, hp_l46, hp_l47, hp_l48, hp_l49, hp_l50, hp_l51, hp_l52, hp_l53, hp_l54, hp_l55, hp_l56, hp_l57, hp_l58, hp_l59, hp_l60, hp_l61, hp_l62, hp_l63, hp_l64, hp_l65, hp_l66, hp_l67, hp_l68, hp_l69, hp_l70, hp_l71, hp_l72, hp_l73, hp_l74, hp_l75, hp_l76, hp_l77, hp_l78, hp_l79, hp_l80, hp_l81, hp_l82, hp_l83, hp_l84, hp_l85, hp_l86, hp_l87, hp_l88, hp_l89, hp_l90, hp_l91, hp_l92, hp_l93, hp_l94, hp_l95, hp_l96, hp_l97, hp_l98, hp_l99, hp_l100, hp_l101, hp_l102, hp_l103, hp_l104, hp_l105, hp_l106, hp_l107, hp_l108, hp_l109, hp_l110, hp_l111, hp_l112, hp_l113, hp_l114, hp_l115, hp_l116, hp_l117, hp_l118, hp_l119, hp_l120, hp_l121, hp_l122, hp_l123, hp_l124, hp_l125, hp_l126, hp_l127, hp_l141, hp_l142, hp_l150, hp_l151, hp_l152, hp_l153, hp_l251, hp_l255, hp_l256, hp_l300, hp_l432, hp_l864, hp_l1000, hp_l1600, hp_l1700, hp_l2304, hp_l2916, hp_l3000, hp_l9999, hp_l10000, nI_add, pk_mul, nI_clamp, hl_lt, hl_le, hl_eq, hl_nIb, hl_nsub, hp_eqm, hp_meq, hp_ltm, hp_mlt, hp_lem, hp_mle, hp_addm, hp_meqm, hp_mlem, hp_withinE, hp_within0, if_pos, if_neg, Option.bind_some, hp_let, Sum.elim_inl, Sum.elim_inr, hp_s01, hp_s11, hp_s2, true_and, and_true, if_true, if_false, not_true_eq_false, not_false_eq_true, reduceCtorEq] <;> omega)
    have n2 : ¬ (1600 : Int32) ≤ nI A.length := by first | omega | (simp (disch := first | assumption | omega) only [↓hp_neg1, hp_l0, hp_l1, hp_l2, hp_l3, hp_l4, hp_l5, hp_l6, hp_l7, hp_l8, hp_l9, hp_l10, hp_l11, hp_l12, hp_l13, hp_l14, hp_l15, hp_l16, hp_l17, hp_l18, hp_l19, hp_l20, hp_l21, hp_l22, hp_l23, hp_l24, hp_l25, hp_l26, hp_l27, hp_l28, hp_l29, hp_l30, hp_l31, hp_l32, hp_l33, hp_l34, hp_l35, hp_l36, hp_l37, hp_l38, hp_l39, hp_l40, hp_l41, hp_l42, hp_l43, hp_l44, hp_l45, hp_l46, hp_l47, hp_l48, hp_l49, hp_l50, hp_l51, hp_l52, hp_l53, hp_l54, hp_l55, hp_l56, hp_l57, hp_l58, hp_l59, hp_l60, hp_l61, hp_l62, hp_l63, hp_l64, hp_l65, hp_l66, hp_l67, hp_l68, hp_l69, hp_l70, hp_l71, hp_l72, hp_l73, hp_l74, hp_l75, hp_l76, hp_l77, hp_l78, hp_l79, hp_l80, hp_l81, hp_l82, hp_l83, hp_l84, hp_l85, hp_l86, hp_l87, hp_l88, hp_l89, hp_l90, hp_l91, hp_l92, hp_l93, hp_l94, hp_l95, hp_l96, hp_l97, hp_l98, hp_l99, hp_l100, hp_l101, hp_l102, hp_l103, hp_l104, hp_l105, hp_l106, hp_l107, hp_l108, hp_l109, hp_l110, hp_l111, hp_l112, hp_l113, hp_l114, hp_l115, hp_l116, hp_l117, hp_l118, hp_l119, hp_l120, hp_l121, hp_l122, hp_l123, hp_l124, hp_l125, hp_l126, hp_l127, hp_l141, hp_l142, hp_l150, hp_l151, hp_l152, hp_l153, hp_l251, hp_l255, hp_l256, hp_l300, hp_l432, hp_l864, hp_l1000, hp_l1600, hp_l1700, hp_l2304, hp_l2916, hp_l3000, hp_l9999, hp_l10000, nI_add, pk_mul, nI_clamp, hl_lt, hl_le, hl_eq, hl_nIb, hl_nsub, hp_eqm, hp_meq, hp_ltm, hp_mlt, hp_lem, hp_mle, hp_addm, hp_meqm, hp_mlem, hp_withinE, hp_within0, if_pos, if_neg, Option.bind_some, hp_let, Sum.elim_inl, Sum.elim_inr, hp_s01, hp_s11, hp_s2, true_and, and_true, if_true, if_false, not_true_eq_false, not_false_eq_true, reduceCtorEq] <;> omega)
    have hb : hl_b (nI A.length) 1600 := (hl_nIb (by omega)).mpr (by omega)
    have he1 : (hq_e1 pv ov v p).bind (hq_ev pv ov rest) = some q := he
    cases h1 : hq_e1 pv ov v p with
    | none => rw [h1] at he1; cases he1
    | some p1 =>
      rw [h1, Option.bind_some] at he1
      obtain ⟨S1, S2⟩ := SX σ H V
      -- on with the rest
      have go : ∀ σ1, f_Qu_valueIn_L16 (nI bb) (nI A.length, σ) = some (.inl (nI A.length + 1, σ1)) → hp_fr hx_PD σ σ1 → hx_plq p1 σ1 → p1.length ≤ 64 → ∃ σ', hl_lp (f_Qu_valueIn_L16 (nI bb)) (m + 1) (nI A.length, σ) = some σ' ∧ hp_fr hx_PD σ σ' ∧ hx_plq q σ' := by
        intro σ1 st F HP1 hp1
        rw [as] at Q hl
        obtain ⟨σ', r1, r2, r3⟩ := ih (A ++ [v]) σ1 p1 q m (H.fr F (fun q f h => by unfold hx_PD at h; omega)) (V.PD F) (Q.fr F (fun q f h => by unfold hx_PD at h; omega)) hl HP1 hp1 he1 (by omega)
        rw [hl_lp_s st, nI_1, ← hp_len1 (l := A) (a := v)]
        exact ⟨σ', r1, F.tr r2, r3⟩
      have bd : f_Qu_valueIn_L16 (nI bb) (nI A.length, σ) = if hq_xc v < 0 then
  if ((-9)) < hq_xc v then
  if ((-5)) < hq_xc v then
  (f_Qu_seen (hq_xc v) (nI bb) σ).bind fun x2 =>
  (f_Qu_push x2 σ).bind fun x3 =>
  some (.inl ((nI A.length + 1, x3))) else
  (f_Qu_pop σ).bind fun x4 =>
  (f_Qu_found (hq_xc v) x4.1 (nI bb) x4.2).bind fun x5 =>
  (f_Qu_push x5 x4.2).bind fun x6 =>
  some (.inl ((nI A.length + 1, x6))) else
  (f_Qu_pop σ).bind fun x7 =>
  (f_Qu_pop x7.2).bind fun x8 =>
  (f_Qu_joined (hq_xc v) x8.1 x7.1).bind fun x9 =>
  (f_Qu_push x9 x8.2).bind fun x10 =>
  some (.inl ((nI A.length + 1, x10))) else
  (f_Qu_push ((hq_xc v).toInt64) σ).bind fun x11 =>
  some (.inl ((nI A.length + 1, x11))) := by
        unfold f_Qu_valueIn_L16
        dsimp only
        rw [Q.1, if_neg n1, if_neg n2, if_pos hb, nI_clamp (by omega), hv]
      rcases hq_e1c h1 with ⟨g1, g2, g3, rfl⟩ | ⟨k, x, p', g1, rfl, rfl, rfl⟩ | ⟨k, g1, rfl, g2, rfl⟩ | ⟨rfl, g2, rfl⟩ | ⟨x, p', rfl, rfl, g2, rfl⟩ | ⟨x, y, z, p', g1, g2, rfl, g3, rfl⟩
      · have ex : hq_xc v = nI (v - 1000) := by unfold hq_xc; rw [if_pos g1]
        obtain ⟨σ1, r1, r2, r3⟩ := hx_push HP g3 (lN (v - 1000))
        rw [ex, if_neg (nI_pos (by omega)), nI_l (by omega), r1, Option.bind_some] at bd
        exact go σ1 bd r2 r3 (by rw [List.length_cons]; omega)
      · rw [List.length_cons] at hp
        obtain ⟨σ1, r1, r2, r3⟩ := hx_pop HP (by omega)
        have S3 := (SX σ1 (H.fr r2 (fun q f h => by unfold hx_PD at h; omega)) (V.PD r2)).2 k x g1
        obtain ⟨σ2, s1, s2, s3⟩ := hx_push r3 (by omega) (lN (ov k x))
        have c : hq_xc (60 + k) < 0 ∧ (-9 : Int32) < hq_xc (60 + k) ∧ ¬ (-5 : Int32) < hq_xc (60 + k) := by
          have : k = 0 ∨ k = 1 ∨ k = 2 := by omega
          rcases this with rfl | rfl | rfl <;> decide
        rw [if_pos c.1, if_pos c.2.1, if_neg c.2.2, r1, Option.bind_some] at bd
        dsimp only at bd
        rw [S3, Option.bind_some, s1, Option.bind_some] at bd
        exact go σ2 bd (r2.tr s2) s3 (by rw [List.length_cons]; omega)
      · obtain ⟨σ1, r1, r2, r3⟩ := hx_push HP g2 (lN (pv k))
        have c : hq_xc (40 + k) < 0 ∧ (-9 : Int32) < hq_xc (40 + k) ∧ (-5 : Int32) < hq_xc (40 + k) := by
          have : k = 0 ∨ k = 1 ∨ k = 2 ∨ k = 3 := by omega
          rcases this with rfl | rfl | rfl | rfl <;> decide
        rw [if_pos c.1, if_pos c.2.1, if_pos c.2.2, S1 k g1, Option.bind_some, r1, Option.bind_some] at bd
        exact go σ1 bd r2 r3 (by rw [List.length_cons]; omega)
      · obtain ⟨σ1, r1, r2, r3⟩ := hx_push HP g2 1
        have ex : hq_xc 13 = 1 := by decide
        rw [ex, if_neg (by decide), show (1 : Int32).toInt64 = 1 from by decide, r1, Option.bind_some] at bd
        exact go σ1 bd r2 r3 (by rw [List.length_cons]; omega)
      · rw [List.length_cons] at hp
        obtain ⟨σ1, r1, r2, r3⟩ := hx_pop HP (by omega)
        obtain ⟨σ2, s1, s2, s3⟩ := hx_push r3 (by omega) (1 - x)
        have ex : hq_xc 12 = -8 := by decide
        have ef : f_Qu_found (-8) x (nI bb) σ1 = some (1 - x) := by
          unfold f_Qu_found
          rw [if_neg (by decide), if_neg (by decide), if_neg (by decide)]
          rcases g2 with rfl | rfl
          · rw [if_pos rfl]; decide
          · rw [if_neg (by decide)]; decide
        rw [ex, if_pos (by decide), if_pos (by decide), if_neg (by decide), r1, Option.bind_some] at bd
        dsimp only at bd
        rw [ef, Option.bind_some, s1, Option.bind_some] at bd
        exact go σ2 bd (r2.tr s2) s3 (by rw [List.length_cons]; omega)
      · rw [List.length_cons, List.length_cons] at hp
        obtain ⟨σ1, r1, r2, r3⟩ := hx_pop HP (by rw [List.length_cons]; omega)
        obtain ⟨σ2, s1, s2, s3⟩ := hx_pop r3 (by omega)
        obtain ⟨σ3, t1, t2, t3⟩ := hx_push s3 (by omega) z
        have c : hq_xc v < 0 ∧ ¬ (-9 : Int32) < hq_xc v := by
          have : v = 1 ∨ v = 2 ∨ v = 3 ∨ v = 4 ∨ v = 5 ∨ v = 6 ∨ v = 7 ∨ v = 8 ∨ v = 9 ∨ v = 10 ∨ v = 11 := by omega
          rcases this with rfl | rfl | rfl | rfl | rfl | rfl | rfl | rfl | rfl | rfl | rfl <;> decide
        rw [if_pos c.1, if_neg c.2, r1, Option.bind_some] at bd
        dsimp only at bd
        rw [s1, Option.bind_some] at bd
        dsimp only at bd
        rw [hx_joined g3, Option.bind_some, t1, Option.bind_some] at bd
        exact go σ3 bd ((r2.tr s2).tr t2) t3 (by rw [List.length_cons]; omega)
theorem hm_run (SP : ∀ k, pv k < 1000) (SO : ∀ k x, ov k x < 1000) (SM : ∀ τ', hm G P τ' → hm_o 1000 1000 0 τ' → (∀ k, k < 4 → f_M_qPartOf (nI k) (nI bb) τ' = some (lN (pv k))) ∧ ∀ k x, k < 3 → f_M_qOf (nI k) x (nI bb) τ' = some (lN (ov k x))) : ∀ (rest A : List Nat) (τ : hl_M) (p q : List Int64) (m : Nat), hm G P τ → hm_o 1000 1000 0 τ → hm_q (A ++ rest) [] o bs τ → (A ++ rest).length < 1601 → hm_plq p τ → p.length ≤ 64 → hq_ev pv ov rest p = some q → rest.length + 1 ≤ m → ∃ τ', hl_lp (f_M_qTold_L7 (nI bb)) m (nI A.length, τ) = some τ' ∧ hp_fr hm_PD τ τ' ∧ hm_plq q τ' := by
  intro rest
  induction rest with
  | nil =>
    intro A τ p q m K O Q hl HP hp he hm
    obtain ⟨m, rfl⟩ : ∃ g, m = g + 1 := ⟨m - 1, by simp at hm; omega⟩
    have e : p = q := Option.some.inj he
    subst e
    rw [List.append_nil] at Q hl
    refine ⟨τ, hl_lp_e ?_, .rf, HP⟩
    unfold f_M_qTold_L7
    dsimp only
    rw [Q.1.1, if_pos (nI_le (Nat.le_refl _) (by omega))]
  | cons v rest ih =>
    intro A τ p q m K O Q hl HP hp he hm
    rw [List.length_cons] at hm
    obtain ⟨m, rfl⟩ : ∃ g, m = g + 1 := ⟨m - 1, by omega⟩
    have hlen : (A ++ v :: rest).length = A.length + (rest.length + 1) := by rw [List.length_append, List.length_cons]
    have hv : τ.1 110 A.length = nI v := Q.1.2 A.length v (by rw [List.getElem?_append_right (Nat.le_refl _), Nat.sub_self]; rfl)
    have as : A ++ v :: rest = (A ++ [v]) ++ rest := by simp
    have n1 : ¬ nI (A ++ v :: rest).length ≤ nI A.length := by first | omega | (simp (disch := first | assumption | omega) only [↓hp_neg1, hp_l0, hp_l1, hp_l2, hp_l3, hp_l4, hp_l5, hp_l6, hp_l7, hp_l8, hp_l9, hp_l10, hp_l11, hp_l12, hp_l13, hp_l14, hp_l15, hp_l16, hp_l17, hp_l18, hp_l19, hp_l20, hp_l21, hp_l22, hp_l23, hp_l24, hp_l25, hp_l26, hp_l27, hp_l28, hp_l29, hp_l30, hp_l31, hp_l32, hp_l33, hp_l34, hp_l35, hp_l36, hp_l37, hp_l38, hp_l39, hp_l40, hp_l41, hp_l42, hp_l43, hp_l44, hp_l45, hp_l46, hp_l47, hp_l48, hp_l49, hp_l50, hp_l51, hp_l52, hp_l53, hp_l54, hp_l55, hp_l56, hp_l57, hp_l58, hp_l59, hp_l60, hp_l61, hp_l62, hp_l63, hp_l64, hp_l65, hp_l66, hp_l67, hp_l68, hp_l69, hp_l70, hp_l71, hp_l72, hp_l73, hp_l74, hp_l75, hp_l76, hp_l77, hp_l78, hp_l79, hp_l80, hp_l81, hp_l82, hp_l83, hp_l84, hp_l85, hp_l86, hp_l87, hp_l88, hp_l89, hp_l90, hp_l91, hp_l92, hp_l93, hp_l94, hp_l95, hp_l96, hp_l97, hp_l98, hp_l99, hp_l100, hp_l101, hp_l102, hp_l103, hp_l104, hp_l105, hp_l106, hp_l107, hp_l108, hp_l109, hp_l110, hp_l111, hp_l112, hp_l113, hp_l114, hp_l115, hp_l116, hp_l117, hp_l118, hp_l119, hp_l120, hp_l121, hp_l122, hp_l123, hp_l124, hp_l125, hp_l126, hp_l127, hp_l141, hp_l142, hp_l150, hp_l151, hp_l152, hp_l153, hp_l251, hp_l255, hp_l256, hp_l300, hp_l432, hp_l864, hp_l1000, hp_l1600, hp_l1700, hp_l2304, hp_l2916, hp_l3000, hp_l9999, hp_l10000, nI_add, pk_mul, nI_clamp, hl_lt, hl_le, hl_eq, hl_nIb, hl_nsub, hp_eqm, hp_meq, hp_ltm, hp_mlt, hp_lem, hp_mle, hp_addm, hp_meqm, hp_mlem, hp_withinE, hp_within0, if_pos, if_neg, Option.bind_some, hp_let, Sum.elim_inl, Sum.elim_inr, hp_s01, hp_s11, hp_s2, true_and, and_true, if_true, if_false, not_true_eq_false, not_false_eq_true, reduceCtorEq] <;> omega)
    have hb : hl_b (nI A.length) 1700 := (hl_nIb (by omega)).mpr (by omega)
    have he1 : (hq_e1 pv ov v p).bind (hq_ev pv ov rest) = some q := he
    cases h1 : hq_e1 pv ov v p with
    | none => rw [h1] at he1; cases he1
    | some p1 =>
      rw [h1, Option.bind_some] at he1
      obtain ⟨S1, S2⟩ := SM τ K O
      have go : ∀ τ1, f_M_qTold_L7 (nI bb) (nI A.length, τ) = some (.inl (nI A.length + 1, τ1)) → hp_fr hm_PD τ τ1 → hm_plq p1 τ1 → p1.length ≤ 64 → ∃ τ', hl_lp (f_M_qTold_L7 (nI bb)) (m + 1) (nI A.length, τ) = some τ' ∧ hp_fr hm_PD τ τ' ∧ hm_plq q τ' := by
        intro τ1 st F HP1 hp1
        rw [as] at Q hl
        obtain ⟨τ', r1, r2, r3⟩ := ih (A ++ [v]) τ1 p1 q m (K.fr F (fun q f h => by unfold hm_PD at h; unfold hm_dep; omega)) ⟨O.1, O.2.1, O.2.2.1, by rw [F.i (by unfold hm_PD; omega)]; exact O.2.2.2.1, by rw [F.i (by unfold hm_PD; omega)]; exact O.2.2.2.2.1, fun h => absurd rfl h⟩ (Q.fr F (fun q f h => by unfold hm_PD at h; omega)) hl HP1 hp1 he1 (by omega)
        rw [hl_lp_s st, nI_1, ← hp_len1 (l := A) (a := v)]
        exact ⟨τ', r1, F.tr r2, r3⟩
      have bd : f_M_qTold_L7 (nI bb) (nI A.length, τ) = if nI v < 1000 then
  if nI v < 60 then
  if nI v < 40 then
  if nI v = 13 then
  (f_M_qPuts 1 τ).bind fun x2 =>
  some (.inl ((nI A.length + 1, x2))) else
  if nI v = 12 then
  if hl_b ((τ.1 64 78) - 1) 1700 then
  if hl_b ((τ.1 64 78) - 1) 1700 then
  some (.inl ((nI A.length + 1, hl_sl τ 112 ((τ.1 64 78) - 1).toNatClampNeg (1 - (τ.2 112 ((τ.1 64 78) - 1).toNatClampNeg))))) else none else none else
  (f_M_qJoins (nI v) τ).bind fun x1 =>
  some (.inl ((nI A.length + 1, x1))) else
  (f_M_qPartOf (nI v - 40) (nI bb) τ).bind fun x3 =>
  (f_M_qPuts (f_M_qClip x3) τ).bind fun x4 =>
  some (.inl ((nI A.length + 1, x4))) else
  if hl_b ((τ.1 64 78) - 1) 1700 then
  (f_M_qOf (nI v - 60) (τ.2 112 ((τ.1 64 78) - 1).toNatClampNeg) (nI bb) τ).bind fun x5 =>
  if hl_b ((τ.1 64 78) - 1) 1700 then
  some (.inl ((nI A.length + 1, hl_sl τ 112 ((τ.1 64 78) - 1).toNatClampNeg (f_M_qClip x5)))) else none else none else
  (f_M_qPuts ((nI v - 1000).toInt64) τ).bind fun x6 =>
  some (.inl ((nI A.length + 1, x6))) := by
        unfold f_M_qTold_L7
        dsimp only
        rw [Q.1.1, if_neg n1, if_pos hb, nI_clamp (by omega), hv]
      have l1000 : v < 20000 → (nI v < (1000 : Int32) ↔ v < 1000) := fun hv => hl_lt (b := 1000) (by omega) (by omega)
      have l60 : v < 20000 → (nI v < (60 : Int32) ↔ v < 60) := fun hv => hl_lt (b := 60) (by omega) (by omega)
      have l40 : v < 20000 → (nI v < (40 : Int32) ↔ v < 40) := fun hv => hl_lt (b := 40) (by omega) (by omega)
      have e12 : v < 20000 → (nI v = (12 : Int32) ↔ v = 12) := fun hv => hl_eq (b := 12) (by omega) (by omega)
      have e13 : v < 20000 → (nI v = (13 : Int32) ↔ v = 13) := fun hv => hl_eq (b := 13) (by omega) (by omega)
      rcases hq_e1c h1 with ⟨g1, g2, g3, rfl⟩ | ⟨k, x, p', g1, rfl, rfl, rfl⟩ | ⟨k, g1, rfl, g2, rfl⟩ | ⟨rfl, g2, rfl⟩ | ⟨x, p', rfl, rfl, g2, rfl⟩ | ⟨x, y, z, p', g1, g2, rfl, g3, rfl⟩
      · obtain ⟨τ1, r1, r2, r3⟩ := hm_put HP (by omega) (lN (v - 1000))
        have es : nI v - 1000 = nI (v - 1000) := hl_nsub (a := v) (b := 1000) g1
        rw [if_neg (fun z => by have := (l1000 (by omega)).mp z; omega), es, nI_l (by omega), r1, Option.bind_some] at bd
        exact go τ1 bd r2 r3 (by rw [List.length_cons]; omega)
      · rw [List.length_cons] at hp
        obtain ⟨t1, t2, t3⟩ := hm_top HP (lN (ov k x))
        have hb2 : hl_b (nI p'.length) 1700 := (hl_nIb (by omega)).mpr (by omega)
        have es : nI (60 + k) - 60 = nI k := by rw [show (60 : Int32) = nI 60 from rfl, hl_nsub (by omega), show 60 + k - 60 = k by omega]
        rw [if_pos ((l1000 (by omega)).mpr (by omega)), if_neg (fun z => by have := (l60 (by omega)).mp z; omega), t2, if_pos hb2, nI_clamp (by omega), t3, es, S2 k x g1, Option.bind_some, if_pos hb2, hp_clipS (SO k x)] at bd
        exact go _ bd (hp_fr.rf.sl (.inl rfl)) t1 (by rw [List.length_cons]; omega)
      · obtain ⟨τ1, r1, r2, r3⟩ := hm_put HP (by omega) (lN (pv k))
        have es : nI (40 + k) - 40 = nI k := by rw [show (40 : Int32) = nI 40 from rfl, hl_nsub (by omega), show 40 + k - 40 = k by omega]
        rw [if_pos ((l1000 (by omega)).mpr (by omega)), if_pos ((l60 (by omega)).mpr (by omega)), if_neg (fun z => by have := (l40 (by omega)).mp z; omega), es, S1 k g1, Option.bind_some, hp_clipS (SP k), r1, Option.bind_some] at bd
        exact go τ1 bd r2 r3 (by rw [List.length_cons]; omega)
      · obtain ⟨τ1, r1, r2, r3⟩ := hm_put HP (by omega) 1
        rw [if_pos (by decide), if_pos (by decide), if_pos (by decide), if_pos (show nI 13 = (13 : Int32) from rfl), r1, Option.bind_some] at bd
        exact go τ1 bd r2 r3 (by rw [List.length_cons]; omega)
      · rw [List.length_cons] at hp
        obtain ⟨t1, t2, t3⟩ := hm_top HP (1 - x)
        have hb2 : hl_b (nI p'.length) 1700 := (hl_nIb (by omega)).mpr (by omega)
        rw [if_pos (by decide), if_pos (by decide), if_pos (by decide), if_neg (by decide), if_pos (show nI 12 = (12 : Int32) from rfl), t2, if_pos hb2, if_pos hb2, nI_clamp (by omega), t3] at bd
        exact go _ bd (hp_fr.rf.sl (.inl rfl)) t1 (by rw [List.length_cons]; omega)
      · rw [List.length_cons, List.length_cons] at hp
        obtain ⟨τ1, r1, r2, r3⟩ := hm_joins HP (by omega) g3
        rw [if_pos ((l1000 (by omega)).mpr (by omega)), if_pos ((l60 (by omega)).mpr (by omega)), if_pos ((l40 (by omega)).mpr (by omega)), if_neg (fun z => by have := (e13 (by omega)).mp z; omega), if_neg (fun z => by have := (e12 (by omega)).mp z; omega), r1, Option.bind_some] at bd
        exact go τ1 bd r2 r3 (by rw [List.length_cons]; omega)
def hx_VD (q f : Nat) : Prop := q = 37 ∨ hx_PD q f
/-- a beat's value, both sides -/
theorem q_value (H : hx G P σ) (K : hm G P τ) (O : hm_o 1000 1000 0 τ) (hl : C.length < 1601) (hb : bb < 100) {kd : Nat} (hG : 3 ≤ kd → hq_G 21 C) (hT : kd < 3 → hq_T 24 C) : ∃ v : Int64, (kd < 3 → v = 0 ∨ v = 1) ∧ (∀ σ', hx G P σ' → hx_q C o σ' → ∃ σ'', f_Qu_valueIn (nI bb) σ' = some (v, σ'') ∧ hp_fr hx_VD σ' σ'') ∧ (∀ τ', hm G P τ' → hm_o 1000 1000 0 τ' → hm_q C [] o bs τ' → ∃ τ'', f_M_qTold (nI bb) τ' = some (v, τ'') ∧ hp_fr hm_PD τ' τ'') := by
  obtain ⟨σ0, l1, l2, l3⟩ := hx_look H hb (d := 1000) (by omega)
  obtain ⟨pv, ov, SP, SO, SX, SM⟩ := q_beatV (H.fr l3 (fun q f h => by omega)) K O hb l2
  have ev : ∃ v : Int64, (kd < 3 → v = 0 ∨ v = 1) ∧ hq_ev pv ov C [] = some [v] := by
    by_cases h : kd < 3
    · obtain ⟨v, v1, v2⟩ := hT h pv ov [] (by simp)
      exact ⟨v, fun _ => v1, v2⟩
    · obtain ⟨v, v2⟩ := hG (by omega) pv ov [] (by simp)
      exact ⟨v, fun z => absurd z h, v2⟩
  obtain ⟨v, v1, v2⟩ := ev
  refine ⟨v, v1, fun σ' H' Q' => ?_, fun τ' K' O' Q' => ?_⟩
  · obtain ⟨σ1, a1, a2, a3⟩ := hx_look H' hb (d := 1000) (by omega)
    have F1 : hp_fr hx_VD σ' (hl_si σ1 55 7 0) := (a3.mono (fun q f h => .inl h)).si (.inr (.inr ⟨rfl, rfl⟩))
    have F2 : hp_fr hx_PD σ1 (hl_si σ1 55 7 0) := hp_fr.rf.si (.inr ⟨rfl, rfl⟩)
    obtain ⟨σ2, r1, r2, r3⟩ := hx_run SX C [] (hl_si σ1 55 7 0) [] [v] hl_big (H'.fr F1 (fun q f h => by unfold hx_VD hx_PD at h; omega)) (a2.PD F2) (Q'.fr F1 (fun q f h => by unfold hx_VD hx_PD at h; omega)) (by simpa using hl) ⟨hp_s01, trivial⟩ (by simp) v2 (by unfold hl_big; omega)
    obtain ⟨σ3, s1, s2, s3⟩ := hx_pop r3 (by simp)
    have a1' : f_Vw_look (nI bb) (-1) σ' = some σ1 := a1
    have r1' : hl_lp (f_Qu_valueIn_L16 (nI bb)) hl_big (0, hl_si σ1 55 7 0) = some σ2 := r1
    unfold f_Qu_valueIn
    rw [a1', Option.bind_some, r1', Option.bind_some, s1, Option.bind_some]
    exact ⟨σ3, rfl, (F1.tr (r2.mono (fun q f h => .inr h))).tr (s2.mono (fun q f h => .inr h))⟩
  · have F1 : hp_fr hm_PD τ' (hl_si τ' 64 78 0) := hp_fr.rf.si (.inr ⟨rfl, rfl⟩)
    obtain ⟨τ2, r1, r2, r3⟩ := hm_run SP SO SM C [] (hl_si τ' 64 78 0) [] [v] hl_big (K'.fr F1 (fun q f h => by unfold hm_PD at h; unfold hm_dep; omega)) ⟨O'.1, O'.2.1, O'.2.2.1, by rw [F1.i (by unfold hm_PD; omega)]; exact O'.2.2.2.1, by rw [F1.i (by unfold hm_PD; omega)]; exact O'.2.2.2.2.1, fun h => absurd rfl h⟩ (Q'.fr F1 (fun q f h => by unfold hm_PD at h; omega)) (by simpa using hl) ⟨hp_s01, trivial⟩ (by simp) v2 (by unfold hl_big; omega)
    have r1' : hl_lp (f_M_qTold_L7 (nI bb)) hl_big (0, hl_si τ' 64 78 0) = some τ2 := r1
    have ev : τ2.2 112 (0 : Int32).toNatClampNeg = v := r3.2.1
    unfold f_M_qTold
    rw [r1', Option.bind_some, if_pos (by decide), ev]
    exact ⟨τ2, rfl, F1.tr r2⟩
end RUNS
