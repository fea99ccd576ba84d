/-! signs, names and STEPS wanted, both readers in step -/
section NAME
variable {σ τ υ : hl_M} {n a s t k c j v : Nat} {b : Nat → Nat} {W : List Nat}
theorem q_sign (hv : v < 256) (hv3 : hp_kl v = 3) (T : hx_t n b σ) (R : hm_r n b τ) (H : q_st n b σ τ) : ∃ σ' τ', f_Rd_wantSign (nI v) σ = some σ' ∧ f_M_asksSign (nI v) τ = some τ' ∧ hp_fr hx_FD σ σ' ∧ hp_fr hm_FD τ τ' ∧ q_st n b σ' τ' := by
  have hn := T.1
  rcases H with H | H
  · obtain ⟨a, s, t, S, E, h5, h2, he, h4, x2, x3, -, kd3, -⟩ := q_kind H
    have S1 := S.1
    have S2 := S.2.1
    have E1 := E.1
    have E2 := E.2.1
    have H' := q_at S H h2 hn
    have FM : hp_fr hm_FD τ (hl_si τ 64 2 (nI s)) := hp_fr.rf.si ⟨rfl, by omega⟩
    have h5' : ∀ x, (hl_si τ 64 2 x).1 64 5 = 0 := fun x => by rw [hp_sn (by omega)]; exact h5
    have yes : s < n → b s = v → f_Rd_isSign (nI v) σ = some 1 ∧ f_M_takesSign (nI v) τ = some (1, hl_si τ 64 2 (nI (s + 1))) := by
      intro e1 e2
      constructor
      · unfold f_Rd_isSign
        rw [if_pos (kd3.mpr ⟨e1, by rw [e2]; exact hv3⟩), x2, hx_at T (by omega), if_pos e1, Option.bind_some, if_pos (by rw [e2])]
      · unfold f_M_takesSign
        rw [if_pos h5, hm_look R h2 S, Option.bind_some, if_pos e1, if_pos (by rw [e2]), hp_s01, nI_1, hp_ss]
    have no : ¬ (s < n ∧ b s = v) → f_Rd_isSign (nI v) σ = some 0 ∧ f_M_takesSign (nI v) τ = some (0, hl_si τ 64 2 (nI s)) := by
      intro e
      constructor
      · unfold f_Rd_isSign
        by_cases e3 : σ.1 3 1 = 3
        · obtain ⟨e1, e2⟩ := kd3.mp e3
          have hb := R.2.2 s e1
          have n1 : ¬ nI (b s) = nI v := by
            have n2 : nI (b s) = nI v ↔ b s = v := hl_eq (by omega) (by omega)
            exact fun z => e ⟨e1, n2.mp z⟩
          rw [if_pos e3, x2, hx_at T (by omega), if_pos e1, Option.bind_some, if_neg n1]
        · rw [if_neg e3]
      · unfold f_M_takesSign
        rw [if_pos h5, hm_look R h2 S, Option.bind_some]
        by_cases e1 : s < n
        · have hb := R.2.2 s e1
          have n1 : ¬ nI (b s) = nI v := by
            have n2 : nI (b s) = nI v ↔ b s = v := hl_eq (by omega) (by omega)
            exact fun z => e ⟨e1, n2.mp z⟩
          rw [if_pos e1, if_neg n1]
        · have n1 : ¬ (-1 : Int32) = nI v := fun z => hl_nm1 (by omega) z.symm
          rw [if_neg e1, if_neg n1]
    unfold f_Rd_wantSign f_M_asksSign
    rw [if_pos h5]
    by_cases e : s < n ∧ b s = v
    · obtain ⟨y1, y2⟩ := yes e.1 e.2
      obtain ⟨f1, f2, f3, f4⟩ := E.2.2 e.1
      have et : t = s + 1 := f3 (by rw [e.2]; exact hv3)
      rw [y1, Option.bind_some, if_neg (by decide), y2, Option.bind_some, if_neg (show ¬ (1 : Int32) = 0 by decide)]
      obtain ⟨σ', r1, r2, r3⟩ := q_adv (k := 3) (τ := hl_si τ 64 2 (nI (s + 1))) T x3 E2 (kd3.mpr ⟨e.1, by rw [e.2]; exact hv3⟩) (.inr (.inr rfl)) h4 (h5' _) (by rw [hp_s01, et]) (.inr ⟨rfl, by
        rw [hp_sn (by omega)]
        rcases he with h | ⟨e, e1, e2⟩
        · exact .inl h
        · exact .inr ⟨e, by omega, e2⟩⟩) ⟨H.n5.1, by rw [hp_sn (by omega)]; exact H.n5.2⟩
      rw [r1, Option.bind_some]
      exact ⟨_, _, rfl, rfl, r2.mono (fun q f h => h.1), hp_fr.rf.si ⟨rfl, by omega⟩, .inl r3⟩
    · obtain ⟨y1, y2⟩ := no e
      rw [y1, Option.bind_some, if_pos rfl, y2, Option.bind_some, if_pos rfl]
      dsimp only
      rw [hp_s01, x2]
      obtain ⟨r1, r2, r3⟩ := q_fail0 (σ := σ) (τ := hl_si τ 64 2 (nI s)) (f := 1) (p := nI s) h4 (h5' _) (by decide)
      exact ⟨_, _, rfl, rfl, r2, FM.tr r3, .inr r1⟩
  · obtain ⟨h1, h2, h3, h4⟩ := H
    have w0 : f_Rd_isSign (nI v) σ = some 0 := by
      unfold f_Rd_isSign
      rw [h3, if_neg (by decide)]
    unfold f_Rd_wantSign f_M_asksSign
    rw [w0, Option.bind_some, if_pos rfl, if_neg (by rw [h2]; exact h1)]
    obtain ⟨r1, r2⟩ := q_failN (f := 1) (p := σ.1 3 2) ⟨h1, h2, h3, h4⟩
    exact ⟨_, _, rfl, rfl, r2, .rf, .inr r1⟩
theorem q_own (h : ∀ i, i < 9 → (f_Rd_isWord (3 + i) σ = some 1 ∧ f_M_isHere (66 + i) τ = some (1, τ)) ∨ (f_Rd_isWord (3 + i) σ = some 0 ∧ f_M_isHere (66 + i) τ = some (0, τ))) : (f_Rd_isOwnWord σ = some 1 ∧ f_M_isOwnHere τ = some (1, τ)) ∨ (f_Rd_isOwnWord σ = some 0 ∧ f_M_isOwnHere τ = some (0, τ)) := by
  have h0 := h 0 (by omega)
  have h1 := h 1 (by omega)
  have h2 := h 2 (by omega)
  have h3 := h 3 (by omega)
  have h4 := h 4 (by omega)
  have h5 := h 5 (by omega)
  have h6 := h 6 (by omega)
  have h7 := h 7 (by omega)
  have h8 := h 8 (by omega)
  simp only [Nat.reduceAdd] at h0 h1 h2 h3 h4 h5 h6 h7 h8
  have z : ¬ (1 : Int32) = 0 := by decide
  unfold f_Rd_isOwnWord f_M_isOwnHere f_M_isOwnHere_j60
  rcases h0 with ⟨x, y⟩ | ⟨x, y⟩
  · left; simp only [x, y, Option.bind_some, z, if_false, and_self]
  simp only [x, y, Option.bind_some, if_true]
  rcases h1 with ⟨x, y⟩ | ⟨x, y⟩
  · left; simp only [x, y, Option.bind_some, z, if_false, and_self]
  simp only [x, y, Option.bind_some, if_true]
  rcases h2 with ⟨x, y⟩ | ⟨x, y⟩
  · left; simp only [x, y, Option.bind_some, z, if_false, and_self]
  simp only [x, y, Option.bind_some, if_true]
  rcases h3 with ⟨x, y⟩ | ⟨x, y⟩
  · left; simp only [x, y, Option.bind_some, z, if_false, and_self]
  simp only [x, y, Option.bind_some, if_true]
  rcases h4 with ⟨x, y⟩ | ⟨x, y⟩
  · left; simp only [x, y, Option.bind_some, z, if_false, and_self]
  simp only [x, y, Option.bind_some, if_true]
  rcases h5 with ⟨x, y⟩ | ⟨x, y⟩
  · left; simp only [x, y, Option.bind_some, z, if_false, and_self]
  simp only [x, y, Option.bind_some, if_true]
  rcases h6 with ⟨x, y⟩ | ⟨x, y⟩
  · left; simp only [x, y, Option.bind_some, z, if_false, and_self]
  simp only [x, y, Option.bind_some, if_true]
  rcases h7 with ⟨x, y⟩ | ⟨x, y⟩
  · left; simp only [x, y, Option.bind_some, z, if_false, and_self]
  simp only [x, y, Option.bind_some, if_true]
  rcases h8 with ⟨x, y⟩ | ⟨x, y⟩
  · left; simp only [x, y, Option.bind_some, z, if_false, and_self]
  right
  simp only [x, y, Option.bind_some, if_true, and_self]
def hp_ltr (b : Nat → Nat) (s k : Nat) : Nat := b (s + k) - 96
theorem hp_nw_add {l : Nat → Nat} (hk : k < 6) (h : ∀ j, j ≤ k → l j < 32) {x : Nat} (hx : 97 ≤ x) (hl : l k = x - 96) : (nI (hp_nw l k) ||| ((nI x - 97 + 1) <<< ((5 * nI k) &&& 31)) : Int32) = nI (hp_nw l (k + 1)) := by
  have sh : ∀ k, k < 6 → ∀ l, l < 32 → (nI l <<< ((5 * nI k) &&& 31) : Int32) = nI (l * 2 ^ (5 * k)) := by decide +kernel
  have e1 : (nI x - 97 + 1 : Int32) = nI (l k) := by
    rw [show (97 : Int32) = nI 97 from rfl, hl_nsub hx, nI_1, hl]
    congr 1
    omega
  have hb := hp_nw_lt k (fun j hj => h j (by omega))
  rw [e1, sh k hk _ (h k (Nat.le_refl _)), fa_or]
  congr 1
  rw [Nat.or_comm, Nat.mul_comm, ← Nat.two_pow_add_eq_or_of_lt hb]
  show 2 ^ (5 * k) * l k + hp_nw l k = hp_nw l k + l k * 2 ^ (5 * k)
  rw [Nat.mul_comm, Nat.add_comm]
theorem hp_n27_add {l : Nat → Nat} {x : Nat} (hx : 97 ≤ x) (hx2 : x < 256) (hl : l k = x - 96) : ((27 * lN (hp_n27 l k)) + (nI x).toInt64 - 97 + 1 : Int64) = lN (hp_n27 l (k + 1)) := by
  have m : ∀ a b : Nat, lN a * lN b = lN (a * b) := fun a b => (Int64.ofNat_mul a b).symm
  have p : ∀ a b : Nat, lN a + lN b = lN (a + b) := fun a b => (Int64.ofNat_add a b).symm
  rw [nI_l (by omega), show (27 : Int64) = lN 27 from rfl, m, p, show 27 * hp_n27 l k + x = 27 * hp_n27 l k + (x - 97) + 97 by omega, ← p _ 97, show (97 : Int64) = lN 97 from rfl, Int64.add_sub_cancel, show (1 : Int64) = lN 1 from rfl, p]
  congr 1
  show _ = 27 * hp_n27 l k + l k
  omega
theorem q_name (KK : hm_k τ) (T : hx_t n b σ) (R : hm_r n b τ) (H : q_st n b σ τ) : ∃ x y σ' τ', f_Rd_wantName σ = some (x, σ') ∧ f_M_name τ = some (y, τ') ∧ hp_fr hx_FD σ σ' ∧ hp_fr hm_FD τ τ' ∧ q_st n b σ' τ' ∧ (σ'.1 3 4 = 0 → (∃ m l, 1 ≤ m ∧ m ≤ 6 ∧ (∀ k, k < m → 1 ≤ l k ∧ l k ≤ 26) ∧ x = nI (hp_nw l m) ∧ y = lN (hp_n27 l m)) ∧ σ'.1 3 6 = τ'.1 64 19) := by
  have hn := T.1
  rcases H with H | H
  · obtain ⟨a, s, t, S, E, h5, h2, he, h4, x2, x3, kd, -, -⟩ := q_kind H
    have kd1 := kd 1 (.inl rfl)
    rw [show nI 1 = (1 : Int32) from rfl] at kd1
    have S2 := S.2.1
    have E1 := E.1
    have E2 := E.2.1
    have FM : hp_fr hm_FD τ (hl_si τ 64 2 (nI s)) := hp_fr.rf.si ⟨rfl, by omega⟩
    have h5' : ∀ x, (hl_si τ 64 2 x).1 64 5 = 0 := fun x => by rw [hp_sn (by omega)]; exact h5
    have Rs : hm_r n b (hl_si τ 64 2 (nI s)) := R.si (by omega)
    have Ks : hm_k (hl_si τ 64 2 (nI s)) := KK.fr FM (fun q f h => by have := h.1; omega)
    have Ss : hp_sk n b s s := ⟨Nat.le_refl _, S2, fun k _ _ => by omega, S.2.2.2⟩
    obtain ⟨r1, r2, r3⟩ := q_fail0 (σ := σ) (τ := hl_si τ 64 2 (nI s)) (f := 1) (p := nI s) h4 (h5' _) (by decide)
    have j37 : f_M_name_j37 (hl_si τ 64 2 (nI s)) = some (0, f_M_fail 1 (nI s) (hl_si τ 64 2 (nI s))) := by
      unfold f_M_name_j37
      rw [hp_s01]
    have all : ∃ x y σ' τ', f_Rd_wantName_j15 σ = some (x, σ') ∧ f_M_name_j37 (hl_si τ 64 2 (nI s)) = some (y, τ') ∧ hp_fr hx_FD σ σ' ∧ hp_fr hm_FD τ τ' ∧ q_st n b σ' τ' ∧ (σ'.1 3 4 = 0 → (∃ m l, 1 ≤ m ∧ m ≤ 6 ∧ (∀ k, k < m → 1 ≤ l k ∧ l k ≤ 26) ∧ x = nI (hp_nw l m) ∧ y = lN (hp_n27 l m)) ∧ σ'.1 3 6 = τ'.1 64 19) := by
      unfold f_Rd_wantName_j15
      rw [x2]
      exact ⟨_, _, _, _, rfl, j37, r2, FM.tr r3, .inr r1, fun z => absurd z r1.1⟩
    unfold f_Rd_wantName f_M_name
    rw [if_pos h5, hm_look R h2 S, Option.bind_some]
    dsimp only
    by_cases e : σ.1 3 1 = 1
    · obtain ⟨e1, e2, e3⟩ := kd1.mp e
      have hb := R.2.2 s e1
      have d0 : f_M_isLetter (nI (b s)) = 1 := by rw [hm_isLetter hb.1, if_pos e2]
      have e3' : ¬ nI s = (hl_si τ 64 2 (nI s)).1 64 4 := by rw [hp_sn (by omega)]; exact fun z => e3 z.symm
      obtain ⟨f1, f2, f3, f4⟩ := E.2.2 e1
      have lt : ∀ j, j < t - s → 97 ≤ b (s + j) ∧ b (s + j) ≤ 122 ∧ hp_kl (b (s + j)) = 1 := fun j hj => by
        have h := (f2 (s + j) (by omega) (by omega)).trans e2
        have := hp_kl_1 h
        exact ⟨this.1, this.2, h⟩
      have own := q_own (σ := σ) (τ := hl_si τ 64 2 (nI s)) (fun i hi => by
        rcases hx_isWord (hp_WJ hi) (hp_WL hi) T x2 x3 E1 E2 with ⟨q1, q2, q3⟩ | ⟨q1, q3⟩ <;> rcases hm_isHere (Ks i hi) (hp_WL hi) (by omega) Rs (h5' _) hp_s01 Ss E with ⟨m1, m2, m3, m4, m5⟩ | ⟨m1, m5⟩
        · exact .inl ⟨q3, by rw [m5, hp_ss]⟩
        · exact absurd ⟨e1, e2, fun z => e3' z.symm, q2⟩ m1
        · exact absurd ⟨e, m4⟩ q1
        · exact .inr ⟨q3, by rw [m5, hp_ss]⟩)
      rw [if_pos e, if_pos e1, d0, if_neg (show ¬ (1 : Int32) = 0 by decide), hp_s01, if_neg e3']
      rcases own with ⟨o1, o2⟩ | ⟨o1, o2⟩
      · rw [o1, Option.bind_some, if_neg (by decide), o2, Option.bind_some, if_neg (show ¬ (1 : Int32) = 0 by decide)]
        exact all
      · rw [o1, Option.bind_some, if_pos rfl, o2, Option.bind_some, if_pos rfl, x2, x3, hl_nsub E1]
        have v0 : (hl_si τ 64 2 (nI s)).1 64 2 = nI s := hp_s01
        rw [v0]
        have Rn : ∀ x, hm_r n b (hl_si (hl_si (hl_si τ 64 2 (nI s)) 64 19 (nI s)) 64 2 x) := fun x => ((R.si (by omega)).si (by omega)).si (by omega)
        have v19 : ∀ x, (hl_si (hl_si (hl_si τ 64 2 (nI s)) 64 19 (nI s)) 64 2 x).1 64 19 = nI s := fun x => by rw [hp_sn (by omega), hp_s01]
        have v5 : ∀ x, (hl_si (hl_si (hl_si τ 64 2 (nI s)) 64 19 (nI s)) 64 2 x).1 64 5 = 0 := fun x => by rw [hp_sn (by omega), hp_sn (by omega), hp_sn (by omega)]; exact h5
        have FN : ∀ x, hp_fr hm_FD τ (hl_si (hl_si (hl_si τ 64 2 (nI s)) 64 19 (nI s)) 64 2 x) := fun x => (FM.si ⟨rfl, by omega⟩).si ⟨rfl, by omega⟩
        have ini : hl_si (hl_si (hl_si τ 64 2 (nI s)) 64 19 (nI s)) 64 2 (nI s) = hl_si (hl_si τ 64 2 (nI s)) 64 19 (nI s) := hp_si_id (by rw [hp_sn (by omega), hp_s01])
        have step : ∀ j, j < t - s → j < 6 → f_M_name_L58 (lN (hp_n27 (hp_ltr b s) j), hl_si (hl_si (hl_si τ 64 2 (nI s)) 64 19 (nI s)) 64 2 (nI (s + j))) = some (.inl (lN (hp_n27 (hp_ltr b s) (j + 1)), hl_si (hl_si (hl_si τ 64 2 (nI s)) 64 19 (nI s)) 64 2 (nI (s + (j + 1))))) := by
          intro j hj hj4
          obtain ⟨g1, g2, g3⟩ := lt j hj
          have n1 : ¬ nI n ≤ nI (s + j) := by first | omega | (simp (disch := first | assumption | omega) only [↓hp_neg1, hp_l0, hp_l1, hp_l2, hp_l3, hp_l4, hp_l5, hp_l6, hp_l7, hp_l8, hp_l9, hp_l10, hp_l11, hp_l12, hp_l13, hp_l14, hp_l15, hp_l16, hp_l17, hp_l18, hp_l19, hp_l20, hp_l21, hp_l22, hp_l23, hp_l24, hp_l25, hp_l26, hp_l27, hp_l28, hp_l29, hp_l30, hp_l31, hp_l32, hp_l33, hp_l34, hp_l35, hp_l36, hp_l37, hp_l38, hp_l39, hp_l40, hp_l41, hp_l42, hp_l43, hp_l44, hp_l45, hp_l46, hp_l47, hp_l48, hp_l49, hp_l50, hp_l51, hp_l52, hp_l53, hp_l54, hp_l55, hp_l56, hp_l57, hp_l58, hp_l59, hp_l60, hp_l61, hp_l62, hp_l63, hp_l64, hp_l65, hp_l66, hp_l67, hp_l68, hp_l69, hp_l70, hp_l71, hp_l72, hp_l73, hp_l74, hp_l75, hp_l76, hp_l77, hp_l78, hp_l79, hp_l80, hp_l81, hp_l82, hp_l83, hp_l84, hp_l85, hp_l86, hp_l87, hp_l88, hp_l89, hp_l90, hp_l91, hp_l92, hp_l93, hp_l94, hp_l95, hp_l96, hp_l97, hp_l98, hp_l99, hp_l100, hp_l101, hp_l102, hp_l103, hp_l104, hp_l105, hp_l106, hp_l107, hp_l108, hp_l109, hp_l110, hp_l111, hp_l112, hp_l113, hp_l114, hp_l115, hp_l116, hp_l117, hp_l118, hp_l119, hp_l120, hp_l121, hp_l122, hp_l123, hp_l124, hp_l125, hp_l126, hp_l127, hp_l141, hp_l142, hp_l150, hp_l151, hp_l152, hp_l153, hp_l251, hp_l255, hp_l256, hp_l300, hp_l432, hp_l864, hp_l1000, hp_l1600, hp_l1700, hp_l2304, hp_l2916, hp_l3000, hp_l9999, hp_l10000, nI_add, pk_mul, nI_clamp, hl_lt, hl_le, hl_eq, hl_nIb, hl_nsub, hp_eqm, hp_meq, hp_ltm, hp_mlt, hp_lem, hp_mle, hp_addm, hp_meqm, hp_mlem, hp_withinE, hp_within0, if_pos, if_neg, Option.bind_some, hp_let, Sum.elim_inl, Sum.elim_inr, hp_s01, hp_s11, hp_s2, true_and, and_true, if_true, if_false, not_true_eq_false, not_false_eq_true, reduceCtorEq] <;> omega)
          have n2 : hl_b (nI (s + j)) 1600 := by first | omega | (simp (disch := first | assumption | omega) only [↓hp_neg1, hp_l0, hp_l1, hp_l2, hp_l3, hp_l4, hp_l5, hp_l6, hp_l7, hp_l8, hp_l9, hp_l10, hp_l11, hp_l12, hp_l13, hp_l14, hp_l15, hp_l16, hp_l17, hp_l18, hp_l19, hp_l20, hp_l21, hp_l22, hp_l23, hp_l24, hp_l25, hp_l26, hp_l27, hp_l28, hp_l29, hp_l30, hp_l31, hp_l32, hp_l33, hp_l34, hp_l35, hp_l36, hp_l37, hp_l38, hp_l39, hp_l40, hp_l41, hp_l42, hp_l43, hp_l44, hp_l45, hp_l46, hp_l47, hp_l48, hp_l49, hp_l50, hp_l51, hp_l52, hp_l53, hp_l54, hp_l55, hp_l56, hp_l57, hp_l58, hp_l59, hp_l60, hp_l61, hp_l62, hp_l63, hp_l64, hp_l65, hp_l66, hp_l67, hp_l68, hp_l69, hp_l70, hp_l71, hp_l72, hp_l73, hp_l74, hp_l75, hp_l76, hp_l77, hp_l78, hp_l79, hp_l80, hp_l81, hp_l82, hp_l83, hp_l84, hp_l85, hp_l86, hp_l87, hp_l88, hp_l89, hp_l90, hp_l91, hp_l92, hp_l93, hp_l94, hp_l95, hp_l96, hp_l97, hp_l98, hp_l99, hp_l100, hp_l101, hp_l102, hp_l103, hp_l104, hp_l105, hp_l106, hp_l107, hp_l108, hp_l109, hp_l110, hp_l111, hp_l112, hp_l113, hp_l114, hp_l115, hp_l116, hp_l117, hp_l118, hp_l119, hp_l120, hp_l121, hp_l122, hp_l123, hp_l124, hp_l125, hp_l126, hp_l127, hp_l141, hp_l142, hp_l150, hp_l151, hp_l152, hp_l153, hp_l251, hp_l255, hp_l256, hp_l300, hp_l432, hp_l864, hp_l1000, hp_l1600, hp_l1700, hp_l2304, hp_l2916, hp_l3000, hp_l9999, hp_l10000, nI_add, pk_mul, nI_clamp, hl_lt, hl_le, hl_eq, hl_nIb, hl_nsub, hp_eqm, hp_meq, hp_ltm, hp_mlt, hp_lem, hp_mle, hp_addm, hp_meqm, hp_mlem, hp_withinE, hp_within0, if_pos, if_neg, Option.bind_some, hp_let, Sum.elim_inl, Sum.elim_inr, hp_s01, hp_s11, hp_s2, true_and, and_true, if_true, if_false, not_true_eq_false, not_false_eq_true, reduceCtorEq] <;> omega)
          have n3 : ¬ nI (s + j) - nI s = 6 := by
            rw [hl_nsub (by omega)]
            first | omega | (simp (disch := first | assumption | omega) only [↓hp_neg1, hp_l0, hp_l1, hp_l2, hp_l3, hp_l4, hp_l5, hp_l6, hp_l7, hp_l8, hp_l9, hp_l10, hp_l11, hp_l12, hp_l13, hp_l14, hp_l15, hp_l16, hp_l17, hp_l18, hp_l19, hp_l20, hp_l21, hp_l22, hp_l23, hp_l24, hp_l25, hp_l26, hp_l27, hp_l28, hp_l29, hp_l30, hp_l31, hp_l32, hp_l33, hp_l34, hp_l35, hp_l36, hp_l37, hp_l38, hp_l39, hp_l40, hp_l41, hp_l42, hp_l43, hp_l44, hp_l45, hp_l46, hp_l47, hp_l48, hp_l49, hp_l50, hp_l51, hp_l52, hp_l53, hp_l54, hp_l55, hp_l56, hp_l57, hp_l58, hp_l59, hp_l60, hp_l61, hp_l62, hp_l63, hp_l64, hp_l65, hp_l66, hp_l67, hp_l68, hp_l69, hp_l70, hp_l71, hp_l72, hp_l73, hp_l74, hp_l75, hp_l76, hp_l77, hp_l78, hp_l79, hp_l80, hp_l81, hp_l82, hp_l83, hp_l84, hp_l85, hp_l86, hp_l87, hp_l88, hp_l89, hp_l90, hp_l91, hp_l92, hp_l93, hp_l94, hp_l95, hp_l96, hp_l97, hp_l98, hp_l99, hp_l100, hp_l101, hp_l102, hp_l103, hp_l104, hp_l105, hp_l106, hp_l107, hp_l108, hp_l109, hp_l110, hp_l111, hp_l112, hp_l113, hp_l114, hp_l115, hp_l116, hp_l117, hp_l118, hp_l119, hp_l120, hp_l121, hp_l122, hp_l123, hp_l124, hp_l125, hp_l126, hp_l127, hp_l141, hp_l142, hp_l150, hp_l151, hp_l152, hp_l153, hp_l251, hp_l255, hp_l256, hp_l300, hp_l432, hp_l864, hp_l1000, hp_l1600, hp_l1700, hp_l2304, hp_l2916, hp_l3000, hp_l9999, hp_l10000, nI_add, pk_mul, nI_clamp, hl_lt, hl_le, hl_eq, hl_nIb, hl_nsub, hp_eqm, hp_meq, hp_ltm, hp_mlt, hp_lem, hp_mle, hp_addm, hp_meqm, hp_mlem, hp_withinE, hp_within0, if_pos, if_neg, Option.bind_some, hp_let, Sum.elim_inl, Sum.elim_inr, hp_s01, hp_s11, hp_s2, true_and, and_true, if_true, if_false, not_true_eq_false, not_false_eq_true, reduceCtorEq] <;> omega)
          unfold f_M_name_L58
          dsimp only
          rw [(Rn _).2.1, hp_s01, if_neg n1, if_pos n2, nI_clamp (by omega), ((Rn _).2.2 _ (by omega)).2, hm_isLetter (by omega), if_pos g3, if_neg (show ¬ (1 : Int32) = 0 by decide), v19, if_neg n3, if_pos n2, hp_n27_add (l := hp_ltr b s) g1 (by omega) rfl, nI_1, hp_ss]
          rfl
        by_cases e4 : t - s ≤ 6
        · have bd : ∀ j, j < t - s → 1 ≤ hp_ltr b s j ∧ hp_ltr b s j ≤ 26 := fun j hj => by
            have := lt j hj
            unfold hp_ltr
            omega
          have lx : hl_lp (f_Rd_wantName_L58 σ) hl_big (0, 0) = some (nI (hp_nw (hp_ltr b s) (t - s))) := by
            refine hp_for' (t - s) (fun j => (nI (hp_nw (hp_ltr b s) j), nI j)) rfl (by omega) ?_ ?_
            · intro j hj
              obtain ⟨g1, g2, g3⟩ := lt j hj
              have n1 : ¬ nI (t - s) ≤ nI j := by first | omega | (simp (disch := first | assumption | omega) only [↓hp_neg1, hp_l0, hp_l1, hp_l2, hp_l3, hp_l4, hp_l5, hp_l6, hp_l7, hp_l8, hp_l9, hp_l10, hp_l11, hp_l12, hp_l13, hp_l14, hp_l15, hp_l16, hp_l17, hp_l18, hp_l19, hp_l20, hp_l21, hp_l22, hp_l23, hp_l24, hp_l25, hp_l26, hp_l27, hp_l28, hp_l29, hp_l30, hp_l31, hp_l32, hp_l33, hp_l34, hp_l35, hp_l36, hp_l37, hp_l38, hp_l39, hp_l40, hp_l41, hp_l42, hp_l43, hp_l44, hp_l45, hp_l46, hp_l47, hp_l48, hp_l49, hp_l50, hp_l51, hp_l52, hp_l53, hp_l54, hp_l55, hp_l56, hp_l57, hp_l58, hp_l59, hp_l60, hp_l61, hp_l62, hp_l63, hp_l64, hp_l65, hp_l66, hp_l67, hp_l68, hp_l69, hp_l70, hp_l71, hp_l72, hp_l73, hp_l74, hp_l75, hp_l76, hp_l77, hp_l78, hp_l79, hp_l80, hp_l81, hp_l82, hp_l83, hp_l84, hp_l85, hp_l86, hp_l87, hp_l88, hp_l89, hp_l90, hp_l91, hp_l92, hp_l93, hp_l94, hp_l95, hp_l96, hp_l97, hp_l98, hp_l99, hp_l100, hp_l101, hp_l102, hp_l103, hp_l104, hp_l105, hp_l106, hp_l107, hp_l108, hp_l109, hp_l110, hp_l111, hp_l112, hp_l113, hp_l114, hp_l115, hp_l116, hp_l117, hp_l118, hp_l119, hp_l120, hp_l121, hp_l122, hp_l123, hp_l124, hp_l125, hp_l126, hp_l127, hp_l141, hp_l142, hp_l150, hp_l151, hp_l152, hp_l153, hp_l251, hp_l255, hp_l256, hp_l300, hp_l432, hp_l864, hp_l1000, hp_l1600, hp_l1700, hp_l2304, hp_l2916, hp_l3000, hp_l9999, hp_l10000, nI_add, pk_mul, nI_clamp, hl_lt, hl_le, hl_eq, hl_nIb, hl_nsub, hp_eqm, hp_meq, hp_ltm, hp_mlt, hp_lem, hp_mle, hp_addm, hp_meqm, hp_mlem, hp_withinE, hp_within0, if_pos, if_neg, Option.bind_some, hp_let, Sum.elim_inl, Sum.elim_inr, hp_s01, hp_s11, hp_s2, true_and, and_true, if_true, if_false, not_true_eq_false, not_false_eq_true, reduceCtorEq] <;> omega)
              unfold f_Rd_wantName_L58
              dsimp only
              rw [x2, x3, hl_nsub E1, if_neg n1, nI_add, hx_at T (by omega), if_pos (by omega), Option.bind_some, hp_nw_add (l := hp_ltr b s) (k := j) (by omega) (fun i hi => by have := bd i (by omega); omega) g1 rfl, nI_1]
            · unfold f_Rd_wantName_L58
              dsimp only
              rw [x2, x3, hl_nsub E1, if_pos (by first | omega | (simp (disch := first | assumption | omega) only [↓hp_neg1, hp_l0, hp_l1, hp_l2, hp_l3, hp_l4, hp_l5, hp_l6, hp_l7, hp_l8, hp_l9, hp_l10, hp_l11, hp_l12, hp_l13, hp_l14, hp_l15, hp_l16, hp_l17, hp_l18, hp_l19, hp_l20, hp_l21, hp_l22, hp_l23, hp_l24, hp_l25, hp_l26, hp_l27, hp_l28, hp_l29, hp_l30, hp_l31, hp_l32, hp_l33, hp_l34, hp_l35, hp_l36, hp_l37, hp_l38, hp_l39, hp_l40, hp_l41, hp_l42, hp_l43, hp_l44, hp_l45, hp_l46, hp_l47, hp_l48, hp_l49, hp_l50, hp_l51, hp_l52, hp_l53, hp_l54, hp_l55, hp_l56, hp_l57, hp_l58, hp_l59, hp_l60, hp_l61, hp_l62, hp_l63, hp_l64, hp_l65, hp_l66, hp_l67, hp_l68, hp_l69, hp_l70, hp_l71, hp_l72, hp_l73, hp_l74, hp_l75, hp_l76, hp_l77, hp_l78, hp_l79, hp_l80, hp_l81, hp_l82, hp_l83, hp_l84, hp_l85, hp_l86, hp_l87, hp_l88, hp_l89, hp_l90, hp_l91, hp_l92, hp_l93, hp_l94, hp_l95, hp_l96, hp_l97, hp_l98, hp_l99, hp_l100, hp_l101, hp_l102, hp_l103, hp_l104, hp_l105, hp_l106, hp_l107, hp_l108, hp_l109, hp_l110, hp_l111, hp_l112, hp_l113, hp_l114, hp_l115, hp_l116, hp_l117, hp_l118, hp_l119, hp_l120, hp_l121, hp_l122, hp_l123, hp_l124, hp_l125, hp_l126, hp_l127, hp_l141, hp_l142, hp_l150, hp_l151, hp_l152, hp_l153, hp_l251, hp_l255, hp_l256, hp_l300, hp_l432, hp_l864, hp_l1000, hp_l1600, hp_l1700, hp_l2304, hp_l2916, hp_l3000, hp_l9999, hp_l10000, nI_add, pk_mul, nI_clamp, hl_lt, hl_le, hl_eq, hl_nIb, hl_nsub, hp_eqm, hp_meq, hp_ltm, hp_mlt, hp_lem, hp_mle, hp_addm, hp_meqm, hp_mlem, hp_withinE, hp_within0, if_pos, if_neg, Option.bind_some, hp_let, Sum.elim_inl, Sum.elim_inr, hp_s01, hp_s11, hp_s2, true_and, and_true, if_true, if_false, not_true_eq_false, not_false_eq_true, reduceCtorEq] <;> omega))]
          have lm : hl_lp f_M_name_L58 hl_big (0, hl_si (hl_si τ 64 2 (nI s)) 64 19 (nI s)) = some (.inl (lN (hp_n27 (hp_ltr b s) (t - s)), hl_si (hl_si (hl_si τ 64 2 (nI s)) 64 19 (nI s)) 64 2 (nI t))) := by
            refine hp_for' (t - s) (fun j => (lN (hp_n27 (hp_ltr b s) j), hl_si (hl_si (hl_si τ 64 2 (nI s)) 64 19 (nI s)) 64 2 (nI (s + j)))) (by rw [Nat.add_zero, ini]; rfl) (by omega) (fun j hj => step j hj (by omega)) ?_
            unfold f_M_name_L58
            dsimp only
            rw [show s + (t - s) = t by omega, (Rn _).2.1, hp_s01]
            by_cases e5 : t = n
            · rw [if_pos (by first | omega | (simp (disch := first | assumption | omega) only [↓hp_neg1, hp_l0, hp_l1, hp_l2, hp_l3, hp_l4, hp_l5, hp_l6, hp_l7, hp_l8, hp_l9, hp_l10, hp_l11, hp_l12, hp_l13, hp_l14, hp_l15, hp_l16, hp_l17, hp_l18, hp_l19, hp_l20, hp_l21, hp_l22, hp_l23, hp_l24, hp_l25, hp_l26, hp_l27, hp_l28, hp_l29, hp_l30, hp_l31, hp_l32, hp_l33, hp_l34, hp_l35, hp_l36, hp_l37, hp_l38, hp_l39, hp_l40, hp_l41, hp_l42, hp_l43, hp_l44, hp_l45, hp_l46, hp_l47, hp_l48, hp_l49, hp_l50, hp_l51, hp_l52, hp_l53, hp_l54, hp_l55, hp_l56, hp_l57, hp_l58, hp_l59, hp_l60, hp_l61, hp_l62, hp_l63, hp_l64, hp_l65, hp_l66, hp_l67, hp_l68, hp_l69, hp_l70, hp_l71, hp_l72, hp_l73, hp_l74, hp_l75, hp_l76, hp_l77, hp_l78, hp_l79, hp_l80, hp_l81, hp_l82, hp_l83, hp_l84, hp_l85, hp_l86, hp_l87, hp_l88, hp_l89, hp_l90, hp_l91, hp_l92, hp_l93, hp_l94, hp_l95, hp_l96, hp_l97, hp_l98, hp_l99, hp_l100, hp_l101, hp_l102, hp_l103, hp_l104, hp_l105, hp_l106, hp_l107, hp_l108, hp_l109, hp_l110, hp_l111, hp_l112, hp_l113, hp_l114, hp_l115, hp_l116, hp_l117, hp_l118, hp_l119, hp_l120, hp_l121, hp_l122, hp_l123, hp_l124, hp_l125, hp_l126, hp_l127, hp_l141, hp_l142, hp_l150, hp_l151, hp_l152, hp_l153, hp_l251, hp_l255, hp_l256, hp_l300, hp_l432, hp_l864, hp_l1000, hp_l1600, hp_l1700, hp_l2304, hp_l2916, hp_l3000, hp_l9999, hp_l10000, nI_add, pk_mul, nI_clamp, hl_lt, hl_le, hl_eq, hl_nIb, hl_nsub, hp_eqm, hp_meq, hp_ltm, hp_mlt, hp_lem, hp_mle, hp_addm, hp_meqm, hp_mlem, hp_withinE, hp_within0, if_pos, if_neg, Option.bind_some, hp_let, Sum.elim_inl, Sum.elim_inr, hp_s01, hp_s11, hp_s2, true_and, and_true, if_true, if_false, not_true_eq_false, not_false_eq_true, reduceCtorEq] <;> omega))]
            · have hbt := R.2.2 t (by omega)
              have n1 : ¬ nI n ≤ nI t := by first | omega | (simp (disch := first | assumption | omega) only [↓hp_neg1, hp_l0, hp_l1, hp_l2, hp_l3, hp_l4, hp_l5, hp_l6, hp_l7, hp_l8, hp_l9, hp_l10, hp_l11, hp_l12, hp_l13, hp_l14, hp_l15, hp_l16, hp_l17, hp_l18, hp_l19, hp_l20, hp_l21, hp_l22, hp_l23, hp_l24, hp_l25, hp_l26, hp_l27, hp_l28, hp_l29, hp_l30, hp_l31, hp_l32, hp_l33, hp_l34, hp_l35, hp_l36, hp_l37, hp_l38, hp_l39, hp_l40, hp_l41, hp_l42, hp_l43, hp_l44, hp_l45, hp_l46, hp_l47, hp_l48, hp_l49, hp_l50, hp_l51, hp_l52, hp_l53, hp_l54, hp_l55, hp_l56, hp_l57, hp_l58, hp_l59, hp_l60, hp_l61, hp_l62, hp_l63, hp_l64, hp_l65, hp_l66, hp_l67, hp_l68, hp_l69, hp_l70, hp_l71, hp_l72, hp_l73, hp_l74, hp_l75, hp_l76, hp_l77, hp_l78, hp_l79, hp_l80, hp_l81, hp_l82, hp_l83, hp_l84, hp_l85, hp_l86, hp_l87, hp_l88, hp_l89, hp_l90, hp_l91, hp_l92, hp_l93, hp_l94, hp_l95, hp_l96, hp_l97, hp_l98, hp_l99, hp_l100, hp_l101, hp_l102, hp_l103, hp_l104, hp_l105, hp_l106, hp_l107, hp_l108, hp_l109, hp_l110, hp_l111, hp_l112, hp_l113, hp_l114, hp_l115, hp_l116, hp_l117, hp_l118, hp_l119, hp_l120, hp_l121, hp_l122, hp_l123, hp_l124, hp_l125, hp_l126, hp_l127, hp_l141, hp_l142, hp_l150, hp_l151, hp_l152, hp_l153, hp_l251, hp_l255, hp_l256, hp_l300, hp_l432, hp_l864, hp_l1000, hp_l1600, hp_l1700, hp_l2304, hp_l2916, hp_l3000, hp_l9999, hp_l10000, nI_add, pk_mul, nI_clamp, hl_lt, hl_le, hl_eq, hl_nIb, hl_nsub, hp_eqm, hp_meq, hp_ltm, hp_mlt, hp_lem, hp_mle, hp_addm, hp_meqm, hp_mlem, hp_withinE, hp_within0, if_pos, if_neg, Option.bind_some, hp_let, Sum.elim_inl, Sum.elim_inr, hp_s01, hp_s11, hp_s2, true_and, and_true, if_true, if_false, not_true_eq_false, not_false_eq_true, reduceCtorEq] <;> omega)
              have n2 : hl_b (nI t) 1600 := by first | omega | (simp (disch := first | assumption | omega) only [↓hp_neg1, hp_l0, hp_l1, hp_l2, hp_l3, hp_l4, hp_l5, hp_l6, hp_l7, hp_l8, hp_l9, hp_l10, hp_l11, hp_l12, hp_l13, hp_l14, hp_l15, hp_l16, hp_l17, hp_l18, hp_l19, hp_l20, hp_l21, hp_l22, hp_l23, hp_l24, hp_l25, hp_l26, hp_l27, hp_l28, hp_l29, hp_l30, hp_l31, hp_l32, hp_l33, hp_l34, hp_l35, hp_l36, hp_l37, hp_l38, hp_l39, hp_l40, hp_l41, hp_l42, hp_l43, hp_l44, hp_l45, hp_l46, hp_l47, hp_l48, hp_l49, hp_l50, hp_l51, hp_l52, hp_l53, hp_l54, hp_l55, hp_l56, hp_l57, hp_l58, hp_l59, hp_l60, hp_l61, hp_l62, hp_l63, hp_l64, hp_l65, hp_l66, hp_l67, hp_l68, hp_l69, hp_l70, hp_l71, hp_l72, hp_l73, hp_l74, hp_l75, hp_l76, hp_l77, hp_l78, hp_l79, hp_l80, hp_l81, hp_l82, hp_l83, hp_l84, hp_l85, hp_l86, hp_l87, hp_l88, hp_l89, hp_l90, hp_l91, hp_l92, hp_l93, hp_l94, hp_l95, hp_l96, hp_l97, hp_l98, hp_l99, hp_l100, hp_l101, hp_l102, hp_l103, hp_l104, hp_l105, hp_l106, hp_l107, hp_l108, hp_l109, hp_l110, hp_l111, hp_l112, hp_l113, hp_l114, hp_l115, hp_l116, hp_l117, hp_l118, hp_l119, hp_l120, hp_l121, hp_l122, hp_l123, hp_l124, hp_l125, hp_l126, hp_l127, hp_l141, hp_l142, hp_l150, hp_l151, hp_l152, hp_l153, hp_l251, hp_l255, hp_l256, hp_l300, hp_l432, hp_l864, hp_l1000, hp_l1600, hp_l1700, hp_l2304, hp_l2916, hp_l3000, hp_l9999, hp_l10000, nI_add, pk_mul, nI_clamp, hl_lt, hl_le, hl_eq, hl_nIb, hl_nsub, hp_eqm, hp_meq, hp_ltm, hp_mlt, hp_lem, hp_mle, hp_addm, hp_meqm, hp_mlem, hp_withinE, hp_within0, if_pos, if_neg, Option.bind_some, hp_let, Sum.elim_inl, Sum.elim_inr, hp_s01, hp_s11, hp_s2, true_and, and_true, if_true, if_false, not_true_eq_false, not_false_eq_true, reduceCtorEq] <;> omega)
              have n3 : ¬ hp_kl (b t) = 1 := fun z => f4 (by omega) (by omega) (z.trans e2.symm)
              rw [if_neg n1, if_pos n2, nI_clamp (by omega), ((Rn _).2.2 _ (by omega)).2, hm_isLetter hbt.1, if_neg n3, if_pos rfl]
          rw [if_pos (show nI (t - s) ≤ 6 from nI_le e4 (by decide)), lx, Option.bind_some, lm, Option.bind_some, Sum.elim_inl]
          obtain ⟨σ', w1, w2, w3⟩ := q_adv (σ := hl_si σ 3 6 (nI s)) (k := 1) (τ := hl_si (hl_si (hl_si (hl_si τ 64 2 (nI s)) 64 19 (nI s)) 64 2 (nI t)) 64 4 ((hl_si (hl_si (hl_si τ 64 2 (nI s)) 64 19 (nI s)) 64 2 (nI t)).1 64 2)) (T.si (by omega)) (by rw [hp_sn (by omega)]; exact x3) E2 (by rw [hp_sn (by omega)]; exact e) (.inl rfl) (by rw [hp_sn (by omega)]; exact h4) (by rw [hp_sn (by omega)]; exact v5 _) (by rw [hp_sn (by omega), hp_s01]) (.inl ⟨by decide, by rw [hp_s01, hp_s01]⟩) ⟨by rw [hp_sn (by omega)]; exact H.n5.1, by rw [hp_sn (by omega), hp_sn (by omega), hp_sn (by omega), hp_sn (by omega)]; exact H.n5.2⟩
          rw [w1, Option.bind_some]
          refine ⟨_, _, _, _, rfl, rfl, ((hp_fr.rf (D := hx_FD)).si (show hx_FD 3 6 from rfl)).tr (w2.mono (fun q f h => h.1)), (FN _).si ⟨rfl, by omega⟩, .inl w3, fun _ => ⟨⟨t - s, hp_ltr b s, by omega, e4, bd, rfl, rfl⟩, ?_⟩⟩
          rw [w2.i (by unfold hx_RD; omega), hp_s01, hp_sn (by omega), v19]
        · have n0 : ¬ nI (t - s) ≤ 6 := by first | omega | (simp (disch := first | assumption | omega) only [↓hp_neg1, hp_l0, hp_l1, hp_l2, hp_l3, hp_l4, hp_l5, hp_l6, hp_l7, hp_l8, hp_l9, hp_l10, hp_l11, hp_l12, hp_l13, hp_l14, hp_l15, hp_l16, hp_l17, hp_l18, hp_l19, hp_l20, hp_l21, hp_l22, hp_l23, hp_l24, hp_l25, hp_l26, hp_l27, hp_l28, hp_l29, hp_l30, hp_l31, hp_l32, hp_l33, hp_l34, hp_l35, hp_l36, hp_l37, hp_l38, hp_l39, hp_l40, hp_l41, hp_l42, hp_l43, hp_l44, hp_l45, hp_l46, hp_l47, hp_l48, hp_l49, hp_l50, hp_l51, hp_l52, hp_l53, hp_l54, hp_l55, hp_l56, hp_l57, hp_l58, hp_l59, hp_l60, hp_l61, hp_l62, hp_l63, hp_l64, hp_l65, hp_l66, hp_l67, hp_l68, hp_l69, hp_l70, hp_l71, hp_l72, hp_l73, hp_l74, hp_l75, hp_l76, hp_l77, hp_l78, hp_l79, hp_l80, hp_l81, hp_l82, hp_l83, hp_l84, hp_l85, hp_l86, hp_l87, hp_l88, hp_l89, hp_l90, hp_l91, hp_l92, hp_l93, hp_l94, hp_l95, hp_l96, hp_l97, hp_l98, hp_l99, hp_l100, hp_l101, hp_l102, hp_l103, hp_l104, hp_l105, hp_l106, hp_l107, hp_l108, hp_l109, hp_l110, hp_l111, hp_l112, hp_l113, hp_l114, hp_l115, hp_l116, hp_l117, hp_l118, hp_l119, hp_l120, hp_l121, hp_l122, hp_l123, hp_l124, hp_l125, hp_l126, hp_l127, hp_l141, hp_l142, hp_l150, hp_l151, hp_l152, hp_l153, hp_l251, hp_l255, hp_l256, hp_l300, hp_l432, hp_l864, hp_l1000, hp_l1600, hp_l1700, hp_l2304, hp_l2916, hp_l3000, hp_l9999, hp_l10000, nI_add, pk_mul, nI_clamp, hl_lt, hl_le, hl_eq, hl_nIb, hl_nsub, hp_eqm, hp_meq, hp_ltm, hp_mlt, hp_lem, hp_mle, hp_addm, hp_meqm, hp_mlem, hp_withinE, hp_within0, if_pos, if_neg, Option.bind_some, hp_let, Sum.elim_inl, Sum.elim_inr, hp_s01, hp_s11, hp_s2, true_and, and_true, if_true, if_false, not_true_eq_false, not_false_eq_true, reduceCtorEq] <;> omega)
          have lm : hl_lp f_M_name_L58 hl_big (0, hl_si (hl_si τ 64 2 (nI s)) 64 19 (nI s)) = some (.inr (hl_si (hl_si (hl_si τ 64 2 (nI s)) 64 19 (nI s)) 64 2 (nI (s + 6)))) := by
            refine hp_for' 6 (fun j => (lN (hp_n27 (hp_ltr b s) j), hl_si (hl_si (hl_si τ 64 2 (nI s)) 64 19 (nI s)) 64 2 (nI (s + j)))) (by rw [Nat.add_zero, ini]; rfl) (by omega) (fun j hj => step j (by omega) hj) ?_
            obtain ⟨g1, g2, g3⟩ := lt 6 (by omega)
            have n1 : ¬ nI n ≤ nI (s + 6) := by first | omega | (simp (disch := first | assumption | omega) only [↓hp_neg1, hp_l0, hp_l1, hp_l2, hp_l3, hp_l4, hp_l5, hp_l6, hp_l7, hp_l8, hp_l9, hp_l10, hp_l11, hp_l12, hp_l13, hp_l14, hp_l15, hp_l16, hp_l17, hp_l18, hp_l19, hp_l20, hp_l21, hp_l22, hp_l23, hp_l24, hp_l25, hp_l26, hp_l27, hp_l28, hp_l29, hp_l30, hp_l31, hp_l32, hp_l33, hp_l34, hp_l35, hp_l36, hp_l37, hp_l38, hp_l39, hp_l40, hp_l41, hp_l42, hp_l43, hp_l44, hp_l45, hp_l46, hp_l47, hp_l48, hp_l49, hp_l50, hp_l51, hp_l52, hp_l53, hp_l54, hp_l55, hp_l56, hp_l57, hp_l58, hp_l59, hp_l60, hp_l61, hp_l62, hp_l63, hp_l64, hp_l65, hp_l66, hp_l67, hp_l68, hp_l69, hp_l70, hp_l71, hp_l72, hp_l73, hp_l74, hp_l75, hp_l76, hp_l77, hp_l78, hp_l79, hp_l80, hp_l81, hp_l82, hp_l83, hp_l84, hp_l85, hp_l86, hp_l87, hp_l88, hp_l89, hp_l90, hp_l91, hp_l92, hp_l93, hp_l94, hp_l95, hp_l96, hp_l97, hp_l98, hp_l99, hp_l100, hp_l101, hp_l102, hp_l103, hp_l104, hp_l105, hp_l106, hp_l107, hp_l108, hp_l109, hp_l110, hp_l111, hp_l112, hp_l113, hp_l114, hp_l115, hp_l116, hp_l117, hp_l118, hp_l119, hp_l120, hp_l121, hp_l122, hp_l123, hp_l124, hp_l125, hp_l126, hp_l127, hp_l141, hp_l142, hp_l150, hp_l151, hp_l152, hp_l153, hp_l251, hp_l255, hp_l256, hp_l300, hp_l432, hp_l864, hp_l1000, hp_l1600, hp_l1700, hp_l2304, hp_l2916, hp_l3000, hp_l9999, hp_l10000, nI_add, pk_mul, nI_clamp, hl_lt, hl_le, hl_eq, hl_nIb, hl_nsub, hp_eqm, hp_meq, hp_ltm, hp_mlt, hp_lem, hp_mle, hp_addm, hp_meqm, hp_mlem, hp_withinE, hp_within0, if_pos, if_neg, Option.bind_some, hp_let, Sum.elim_inl, Sum.elim_inr, hp_s01, hp_s11, hp_s2, true_and, and_true, if_true, if_false, not_true_eq_false, not_false_eq_true, reduceCtorEq] <;> omega)
            have n2 : hl_b (nI (s + 6)) 1600 := by first | omega | (simp (disch := first | assumption | omega) only [↓hp_neg1, hp_l0, hp_l1, hp_l2, hp_l3, hp_l4, hp_l5, hp_l6, hp_l7, hp_l8, hp_l9, hp_l10, hp_l11, hp_l12, hp_l13, hp_l14, hp_l15, hp_l16, hp_l17, hp_l18, hp_l19, hp_l20, hp_l21, hp_l22, hp_l23, hp_l24, hp_l25, hp_l26, hp_l27, hp_l28, hp_l29, hp_l30, hp_l31, hp_l32, hp_l33, hp_l34, hp_l35, hp_l36, hp_l37, hp_l38, hp_l39, hp_l40, hp_l41, hp_l42, hp_l43, hp_l44, hp_l45, hp_l46, hp_l47, hp_l48, hp_l49, hp_l50, hp_l51, hp_l52, hp_l53, hp_l54, hp_l55, hp_l56, hp_l57, hp_l58, hp_l59, hp_l60, hp_l61, hp_l62, hp_l63, hp_l64, hp_l65, hp_l66, hp_l67, hp_l68, hp_l69, hp_l70, hp_l71, hp_l72, hp_l73, hp_l74, hp_l75, hp_l76, hp_l77, hp_l78, hp_l79, hp_l80, hp_l81, hp_l82, hp_l83, hp_l84, hp_l85, hp_l86, hp_l87, hp_l88, hp_l89, hp_l90, hp_l91, hp_l92, hp_l93, hp_l94, hp_l95, hp_l96, hp_l97, hp_l98, hp_l99, hp_l100, hp_l101, hp_l102, hp_l103, hp_l104, hp_l105, hp_l106, hp_l107, hp_l108, hp_l109, hp_l110, hp_l111, hp_l112, hp_l113, hp_l114, hp_l115, hp_l116, hp_l117, hp_l118, hp_l119, hp_l120, hp_l121, hp_l122, hp_l123, hp_l124, hp_l125, hp_l126, hp_l127, hp_l141, hp_l142, hp_l150, hp_l151, hp_l152, hp_l153, hp_l251, hp_l255, hp_l256, hp_l300, hp_l432, hp_l864, hp_l1000, hp_l1600, hp_l1700, hp_l2304, hp_l2916, hp_l3000, hp_l9999, hp_l10000, nI_add, pk_mul, nI_clamp, hl_lt, hl_le, hl_eq, hl_nIb, hl_nsub, hp_eqm, hp_meq, hp_ltm, hp_mlt, hp_lem, hp_mle, hp_addm, hp_meqm, hp_mlem, hp_withinE, hp_within0, if_pos, if_neg, Option.bind_some, hp_let, Sum.elim_inl, Sum.elim_inr, hp_s01, hp_s11, hp_s2, true_and, and_true, if_true, if_false, not_true_eq_false, not_false_eq_true, reduceCtorEq] <;> omega)
            have n3 : nI (s + 6) - nI s = 6 := by
              rw [hl_nsub (by omega), show s + 6 - s = 6 by omega]
              rfl
            unfold f_M_name_L58
            dsimp only
            rw [(Rn _).2.1, hp_s01, if_neg n1, if_pos n2, nI_clamp (by omega), ((Rn _).2.2 _ (by omega)).2, hm_isLetter (by omega), if_pos g3, if_neg (show ¬ (1 : Int32) = 0 by decide), v19, if_pos n3]
          rw [if_neg n0, lm, Option.bind_some, Sum.elim_inr, hp_s01, show (6 : Int32) = nI 6 from rfl, nI_add]
          obtain ⟨r1, r2, r3⟩ := q_fail0 (σ := σ) (f := 1) (p := nI (s + 6)) h4 (v5 (nI (s + 6))) (by decide)
          exact ⟨_, _, _, _, rfl, rfl, r2, (FN _).tr r3, .inr r1, fun z => absurd z r1.1⟩
    · have ne : ¬ (s < n ∧ hp_kl (b s) = 1 ∧ τ.1 64 4 ≠ nI s) := fun z => e (kd1.mpr z)
      rw [if_neg e]
      by_cases e1 : s < n
      · have hb := R.2.2 s e1
        rw [if_pos e1, hm_isLetter hb.1]
        by_cases e2 : hp_kl (b s) = 1
        · have e3 : nI s = (hl_si τ 64 2 (nI s)).1 64 4 := by
            rw [hp_sn (by omega)]
            by_cases e4 : τ.1 64 4 = nI s
            · exact e4.symm
            · exact absurd ⟨e1, e2, e4⟩ ne
          rw [if_pos e2, if_neg (show ¬ (1 : Int32) = 0 by decide), hp_s01, if_pos e3]
          exact all
        · rw [if_neg e2, if_pos rfl]
          exact all
      · rw [if_neg e1, show f_M_isLetter (-1) = 0 by decide, if_pos rfl]
        exact all
  · obtain ⟨h1, h2, h3, h4⟩ := H
    unfold f_Rd_wantName f_M_name f_Rd_wantName_j15
    rw [h3, if_neg (by decide), if_neg (by rw [h2]; exact h1)]
    obtain ⟨r1, r2⟩ := q_failN (f := 1) (p := σ.1 3 2) ⟨h1, h2, h3, h4⟩
    exact ⟨_, _, _, _, rfl, rfl, r2, .rf, .inr r1, fun z => absurd z r1.1⟩
end NAME
