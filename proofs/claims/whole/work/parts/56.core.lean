/-! literals as small numbers; comparing, -1, loops -/
theorem hp_l0 : (0 : Int32) = nI 0 := rfl
theorem hp_l1 : (1 : Int32) = nI 1 := rfl
theorem hp_l2 : (2 : Int32) = nI 2 := rfl
theorem hp_l3 : (3 : Int32) = nI 3 := rfl
theorem hp_l4 : (4 : Int32) = nI 4 := rfl
theorem hp_l5 : (5 : Int32) = nI 5 := rfl
theorem hp_l6 : (6 : Int32) = nI 6 := rfl
theorem hp_l7 : (7 : Int32) = nI 7 := rfl
theorem hp_l8 : (8 : Int32) = nI 8 := rfl
theorem hp_l9 : (9 : Int32) = nI 9 := rfl
theorem hp_l10 : (10 : Int32) = nI 10 := rfl
theorem hp_l11 : (11 : Int32) = nI 11 := rfl
theorem hp_l12 : (12 : Int32) = nI 12 := rfl
theorem hp_l13 : (13 : Int32) = nI 13 := rfl
theorem hp_l14 : (14 : Int32) = nI 14 := rfl
theorem hp_l15 : (15 : Int32) = nI 15 := rfl
theorem hp_l16 : (16 : Int32) = nI 16 := rfl
theorem hp_l17 : (17 : Int32) = nI 17 := rfl
theorem hp_l18 : (18 : Int32) = nI 18 := rfl
theorem hp_l19 : (19 : Int32) = nI 19 := rfl
theorem hp_l20 : (20 : Int32) = nI 20 := rfl
theorem hp_l21 : (21 : Int32) = nI 21 := rfl
theorem hp_l22 : (22 : Int32) = nI 22 := rfl
theorem hp_l23 : (23 : Int32) = nI 23 := rfl
theorem hp_l24 : (24 : Int32) = nI 24 := rfl
theorem hp_l25 : (25 : Int32) = nI 25 := rfl
theorem hp_l26 : (26 : Int32) = nI 26 := rfl
theorem hp_l27 : (27 : Int32) = nI 27 := rfl
theorem hp_l28 : (28 : Int32) = nI 28 := rfl
theorem hp_l29 : (29 : Int32) = nI 29 := rfl
theorem hp_l30 : (30 : Int32) = nI 30 := rfl
theorem hp_l31 : (31 : Int32) = nI 31 := rfl
theorem hp_l32 : (32 : Int32) = nI 32 := rfl
theorem hp_l33 : (33 : Int32) = nI 33 := rfl
theorem hp_l34 : (34 : Int32) = nI 34 := rfl
theorem hp_l35 : (35 : Int32) = nI 35 := rfl
theorem hp_l36 : (36 : Int32) = nI 36 := rfl
theorem hp_l37 : (37 : Int32) = nI 37 := rfl
theorem hp_l38 : (38 : Int32) = nI 38 := rfl
theorem hp_l39 : (39 : Int32) = nI 39 := rfl
theorem hp_l40 : (40 : Int32) = nI 40 := rfl
theorem hp_l41 : (41 : Int32) = nI 41 := rfl
theorem hp_l42 : (42 : Int32) = nI 42 := rfl
theorem hp_l43 : (43 : Int32) = nI 43 := rfl
theorem hp_l44 : (44 : Int32) = nI 44 := rfl
theorem hp_l45 : (45 : Int32) = nI 45 := rfl
theorem hp_l46 : (46 : Int32) = nI 46 := rfl
theorem hp_l47 : (47 : Int32) = nI 47 := rfl
theorem hp_l48 : (48 : Int32) = nI 48 := rfl
theorem hp_l49 : (49 : Int32) = nI 49 := rfl
theorem hp_l50 : (50 : Int32) = nI 50 := rfl
theorem hp_l51 : (51 : Int32) = nI 51 := rfl
theorem hp_l52 : (52 : Int32) = nI 52 := rfl
theorem hp_l53 : (53 : Int32) = nI 53 := rfl
theorem hp_l54 : (54 : Int32) = nI 54 := rfl
theorem hp_l55 : (55 : Int32) = nI 55 := rfl
theorem hp_l56 : (56 : Int32) = nI 56 := rfl
theorem hp_l57 : (57 : Int32) = nI 57 := rfl
theorem hp_l58 : (58 : Int32) = nI 58 := rfl
theorem hp_l59 : (59 : Int32) = nI 59 := rfl
theorem hp_l60 : (60 : Int32) = nI 60 := rfl
theorem hp_l61 : (61 : Int32) = nI 61 := rfl
theorem hp_l62 : (62 : Int32) = nI 62 := rfl
theorem hp_l63 : (63 : Int32) = nI 63 := rfl
theorem hp_l64 : (64 : Int32) = nI 64 := rfl
theorem hp_l65 : (65 : Int32) = nI 65 := rfl
theorem hp_l66 : (66 : Int32) = nI 66 := rfl
theorem hp_l67 : (67 : Int32) = nI 67 := rfl
theorem hp_l68 : (68 : Int32) = nI 68 := rfl
theorem hp_l69 : (69 : Int32) = nI 69 := rfl
theorem hp_l70 : (70 : Int32) = nI 70 := rfl
theorem hp_l71 : (71 : Int32) = nI 71 := rfl
theorem hp_l72 : (72 : Int32) = nI 72 := rfl
theorem hp_l73 : (73 : Int32) = nI 73 := rfl
theorem hp_l74 : (74 : Int32) = nI 74 := rfl
theorem hp_l75 : (75 : Int32) = nI 75 := rfl
theorem hp_l76 : (76 : Int32) = nI 76 := rfl
theorem hp_l77 : (77 : Int32) = nI 77 := rfl
theorem hp_l78 : (78 : Int32) = nI 78 := rfl
theorem hp_l79 : (79 : Int32) = nI 79 := rfl
theorem hp_l80 : (80 : Int32) = nI 80 := rfl
theorem hp_l81 : (81 : Int32) = nI 81 := rfl
theorem hp_l82 : (82 : Int32) = nI 82 := rfl
theorem hp_l83 : (83 : Int32) = nI 83 := rfl
theorem hp_l84 : (84 : Int32) = nI 84 := rfl
theorem hp_l85 : (85 : Int32) = nI 85 := rfl
theorem hp_l86 : (86 : Int32) = nI 86 := rfl
theorem hp_l87 : (87 : Int32) = nI 87 := rfl
theorem hp_l88 : (88 : Int32) = nI 88 := rfl
theorem hp_l89 : (89 : Int32) = nI 89 := rfl
theorem hp_l90 : (90 : Int32) = nI 90 := rfl
theorem hp_l91 : (91 : Int32) = nI 91 := rfl
theorem hp_l92 : (92 : Int32) = nI 92 := rfl
theorem hp_l93 : (93 : Int32) = nI 93 := rfl
theorem hp_l94 : (94 : Int32) = nI 94 := rfl
theorem hp_l95 : (95 : Int32) = nI 95 := rfl
theorem hp_l96 : (96 : Int32) = nI 96 := rfl
theorem hp_l97 : (97 : Int32) = nI 97 := rfl
theorem hp_l98 : (98 : Int32) = nI 98 := rfl
theorem hp_l99 : (99 : Int32) = nI 99 := rfl
theorem hp_l100 : (100 : Int32) = nI 100 := rfl
theorem hp_l101 : (101 : Int32) = nI 101 := rfl
theorem hp_l102 : (102 : Int32) = nI 102 := rfl
theorem hp_l103 : (103 : Int32) = nI 103 := rfl
theorem hp_l104 : (104 : Int32) = nI 104 := rfl
theorem hp_l105 : (105 : Int32) = nI 105 := rfl
theorem hp_l106 : (106 : Int32) = nI 106 := rfl
theorem hp_l107 : (107 : Int32) = nI 107 := rfl
theorem hp_l108 : (108 : Int32) = nI 108 := rfl
theorem hp_l109 : (109 : Int32) = nI 109 := rfl
theorem hp_l110 : (110 : Int32) = nI 110 := rfl
theorem hp_l111 : (111 : Int32) = nI 111 := rfl
theorem hp_l112 : (112 : Int32) = nI 112 := rfl
theorem hp_l113 : (113 : Int32) = nI 113 := rfl
theorem hp_l114 : (114 : Int32) = nI 114 := rfl
theorem hp_l115 : (115 : Int32) = nI 115 := rfl
theorem hp_l116 : (116 : Int32) = nI 116 := rfl
theorem hp_l117 : (117 : Int32) = nI 117 := rfl
theorem hp_l118 : (118 : Int32) = nI 118 := rfl
theorem hp_l119 : (119 : Int32) = nI 119 := rfl
theorem hp_l120 : (120 : Int32) = nI 120 := rfl
theorem hp_l121 : (121 : Int32) = nI 121 := rfl
theorem hp_l122 : (122 : Int32) = nI 122 := rfl
theorem hp_l123 : (123 : Int32) = nI 123 := rfl
theorem hp_l124 : (124 : Int32) = nI 124 := rfl
theorem hp_l125 : (125 : Int32) = nI 125 := rfl
theorem hp_l126 : (126 : Int32) = nI 126 := rfl
theorem hp_l127 : (127 : Int32) = nI 127 := rfl
theorem hp_l141 : (141 : Int32) = nI 141 := rfl
theorem hp_l142 : (142 : Int32) = nI 142 := rfl
theorem hp_l150 : (150 : Int32) = nI 150 := rfl
theorem hp_l151 : (151 : Int32) = nI 151 := rfl
theorem hp_l152 : (152 : Int32) = nI 152 := rfl
theorem hp_l153 : (153 : Int32) = nI 153 := rfl
theorem hp_l251 : (251 : Int32) = nI 251 := rfl
theorem hp_l255 : (255 : Int32) = nI 255 := rfl
theorem hp_l256 : (256 : Int32) = nI 256 := rfl
theorem hp_l300 : (300 : Int32) = nI 300 := rfl
theorem hp_l432 : (432 : Int32) = nI 432 := rfl
theorem hp_l864 : (864 : Int32) = nI 864 := rfl
theorem hp_l1000 : (1000 : Int32) = nI 1000 := rfl
theorem hp_l1600 : (1600 : Int32) = nI 1600 := rfl
theorem hp_l1700 : (1700 : Int32) = nI 1700 := rfl
theorem hp_l2304 : (2304 : Int32) = nI 2304 := rfl
theorem hp_l2916 : (2916 : Int32) = nI 2916 := rfl
theorem hp_l3000 : (3000 : Int32) = nI 3000 := rfl
theorem hp_l9999 : (9999 : Int32) = nI 9999 := rfl
theorem hp_l10000 : (10000 : Int32) = nI 10000 := rfl
def hp_m1 : Int32 := -1
theorem hp_neg1 : (-1 : Int32) = hp_m1 := rfl
theorem hp_neg1' : (-nI 1 : Int32) = hp_m1 := rfl
theorem hp_eqm {a : Nat} (h : a < 2 ^ 31) : (nI a = hp_m1) ↔ False := ⟨fun e => hl_nm1 h e, False.elim⟩
theorem hp_meq {a : Nat} (h : a < 2 ^ 31) : (hp_m1 = nI a) ↔ False := ⟨fun e => hl_nm1 h e.symm, False.elim⟩
theorem hp_meqm : (hp_m1 = hp_m1) ↔ True := iff_true_intro rfl
theorem hp_ltm {a : Nat} (h : a < 2 ^ 31) : (nI a < hp_m1) ↔ False := by
  rw [Int32.lt_iff_toInt_lt, nI_toInt h, show hp_m1.toInt = -1 from by decide]
  exact iff_of_false (by omega) id
theorem hp_mlt {a : Nat} (h : a < 2 ^ 31) : (hp_m1 < nI a) ↔ True := by
  rw [Int32.lt_iff_toInt_lt, nI_toInt h, show hp_m1.toInt = -1 from by decide]
  exact iff_of_true (by omega) trivial
theorem hp_lem {a : Nat} (h : a < 2 ^ 31) : (nI a ≤ hp_m1) ↔ False := by
  rw [Int32.le_iff_toInt_le, nI_toInt h, show hp_m1.toInt = -1 from by decide]
  exact iff_of_false (by omega) id
theorem hp_mle {a : Nat} (h : a < 2 ^ 31) : (hp_m1 ≤ nI a) ↔ True := by
  rw [Int32.le_iff_toInt_le, nI_toInt h, show hp_m1.toInt = -1 from by decide]
  exact iff_of_true (by omega) trivial
theorem hp_mlem : (hp_m1 ≤ hp_m1) ↔ True := by decide
theorem hp_addm {a : Nat} (h : 0 < a) : nI a + hp_m1 = nI (a - 1) := by
  obtain ⟨b, rfl⟩ : ∃ b, a = b + 1 := ⟨a - 1, by omega⟩
  exact pk_m1 b
theorem hp_let {α β : Type} (a : α) (f : α → β) : hl_let a f = f a := rfl
/-- a parameter: below 0, or a number -/
theorem hp_arg (x : Int32) : x < 0 ∨ ∃ k, k < 2 ^ 31 ∧ x = nI k := by
  by_cases h : x < 0
  · exact .inl h
  · exact .inr (nI_of h)
theorem hp_within {a n : Nat} (ha : a < 2 ^ 31) (hn : n < 2 ^ 31) : f_X_within (nI a) (nI n) = if a < n then 1 else 0 := by
  unfold f_X_within
  rw [if_neg (nI_pos ha)]
  by_cases h : a < n
  · rw [if_neg (nI_ge h hn), if_pos h]
  · rw [if_pos (nI_le (by omega) ha), if_neg h]
theorem hp_withinT {a n : Nat} (h : a < n) (hn : n < 2 ^ 31) : f_X_within (nI a) (nI n) = 1 := by rw [hp_within (by omega) hn, if_pos h]
theorem hp_withinF {a n : Nat} (h : n ≤ a) (ha : a < 2 ^ 31) : f_X_within (nI a) (nI n) = 0 := by rw [hp_within ha (by omega), if_neg (by omega)]
theorem hp_withinE {a n : Nat} (ha : a < 2 ^ 31) (hn : n < 2 ^ 31) : (f_X_within (nI a) (nI n) = nI 0) ↔ n ≤ a := by
  rw [hp_within ha hn]
  by_cases h : a < n
  · rw [if_pos h]; exact iff_of_false (by decide) (by omega)
  · rw [if_neg h]; exact iff_of_true rfl (by omega)
theorem hp_within0 {n : Int32} : f_X_within hp_m1 n = 0 := by
  unfold f_X_within
  rw [if_pos (by decide)]
theorem hp_withinN {x n : Int32} (h : x < 0) : f_X_within x n = 0 := by
  unfold f_X_within
  rw [if_pos h]
theorem hp_isIn32 (x l u : Int32) : f_M_isIn x.toInt64 l.toInt64 u.toInt64 = if x < l then 0 else if u < x then 0 else 1 := by
  unfold f_M_isIn
  simp only [fa_wide_lt]
/-! guards of parameters -/
theorem hp_boolN {x : Int32} (h : x = 0 ∨ x = 1) : vp_nar .boolean x = x := by
  rcases h with rfl | rfl <;> decide
theorem hp_isIn1 {a n : Nat} (h : a < n) (hn : n < 2 ^ 31) : f_M_isIn (nI a).toInt64 0 ((nI n - 1).toInt64) = 1 := by
  rw [show (0 : Int64) = (0 : Int32).toInt64 from rfl, hp_isIn32, if_neg (nI_pos (by omega)), show (1 : Int32) = nI 1 from rfl, pk_sub (by omega), if_neg (nI_nlt (by omega) (by omega))]
theorem hp_isIn0 {x : Int32} {n : Nat} (hn : n < 2 ^ 31) (h : x < 0 ∨ nI n ≤ x) : f_M_isIn x.toInt64 0 ((nI n - 1).toInt64) = 0 := by
  rw [show (0 : Int64) = (0 : Int32).toInt64 from rfl, hp_isIn32]
  by_cases h0 : x < 0
  · rw [if_pos h0]
  · rw [if_neg h0, if_pos]
    have h1 : nI n ≤ x := by rcases h with h | h; exact absurd h h0; exact h
    obtain ⟨k, hk, rfl⟩ := nI_of h0
    have h2 : n ≤ k := (hl_le hn hk).mp h1
    rcases Nat.eq_zero_or_pos n with rfl | h3
    · rw [show (nI 0 - 1 : Int32) = hp_m1 from rfl, hp_mlt hk]
      trivial
    · rw [show (1 : Int32) = nI 1 from rfl, pk_sub (by omega), hl_lt (by omega) hk]
      omega
theorem hp_within1 {x : Int32} {n : Nat} (hn : n < 2 ^ 31) (h : x < 0 ∨ nI n ≤ x) : f_X_within x (nI n) = 0 := by
  unfold f_X_within
  by_cases h0 : x < 0
  · rw [if_pos h0]
  · rw [if_neg h0, if_pos (by rcases h with h | h; exact absurd h h0; exact h)]
/-- a parameter is in range on both sides, or on none -/
theorem hp_guard (x : Int32) {n : Nat} (hn : n < 2 ^ 31) : (∃ j, j < n ∧ x = nI j ∧ f_X_within x (nI n) = 1 ∧ f_M_isIn x.toInt64 0 ((nI n - 1).toInt64) = 1) ∨ (f_X_within x (nI n) = 0 ∧ f_M_isIn x.toInt64 0 ((nI n - 1).toInt64) = 0 ∧ (x < 0 ∨ nI n ≤ x)) := by
  rcases pk_ix x hn with h | h | ⟨j, hj, rfl⟩
  · exact .inr ⟨hp_within1 hn (.inl h), hp_isIn0 hn (.inl h), .inl h⟩
  · exact .inr ⟨hp_within1 hn (.inr h), hp_isIn0 hn (.inr h), .inr h⟩
  · exact .inl ⟨j, hj, rfl, by rw [hp_within (by omega) hn, if_pos hj], hp_isIn1 hj hn⟩
/-- a for-loop, its states told -/
theorem hp_for {S E : Type} {b : S → Option (S ⊕ E)} (n : Nat) (st : Nat → S) {e : E} (hn : n < 1000000) (hs : ∀ k, k < n → b (st k) = some (.inl (st (k + 1)))) (he : b (st n) = some (.inr e)) : hl_lp b hl_big (st 0) = some e := by
  have key : ∀ j m, j ≤ n → n - j < m → hl_lp b m (st j) = some e := by
    intro j m hj hm
    induction m generalizing j with
    | zero => omega
    | succ m ih =>
      by_cases h : j < n
      · rw [hl_lp_s (hs j h)]
        exact ih (j + 1) (by omega) (by omega)
      · have : j = n := by omega
        subst this
        exact hl_lp_e he
  exact key 0 hl_big (by omega) (by unfold hl_big; omega)
/-- .. out of a state that is the first -/
theorem hp_for' {S E : Type} {b : S → Option (S ⊕ E)} {s : S} (n : Nat) (st : Nat → S) {e : E} (h0 : s = st 0) (hn : n < 1000000) (hs : ∀ k, k < n → b (st k) = some (.inl (st (k + 1)))) (he : b (st n) = some (.inr e)) : hl_lp b hl_big s = some e := h0 ▸ hp_for n st hn hs he
/-- a loop by an invariant -/
theorem hp_inv {S E : Type} {b : S → Option (S ⊕ E)} (n : Nat) (I : Nat → S → Prop) (Q : E → Prop) {s : S} (hn : n < 1000000) (h0 : I 0 s) (hs : ∀ k s, k < n → I k s → (∃ s', b s = some (.inl s') ∧ I (k + 1) s') ∨ ∃ e, b s = some (.inr e) ∧ Q e) (he : ∀ s, I n s → ∃ e, b s = some (.inr e) ∧ Q e) : ∃ e, hl_lp b hl_big s = some e ∧ Q e := by
  refine hl_lp_inv (I := fun m s => ∃ k, k ≤ n ∧ m = n - k ∧ I k s) (Q := Q) ?_ hl_big n s ⟨0, by omega, by omega, h0⟩ (by unfold hl_big; omega)
  intro m s hI
  obtain ⟨k, hk, rfl, hI⟩ := hI
  by_cases h : k < n
  · rcases hs k s h hI with ⟨s', h1, h2⟩ | ⟨e, h1, h2⟩
    · exact .inr ⟨s', n - (k + 1), h1, by omega, k + 1, by omega, rfl, h2⟩
    · exact .inl ⟨e, h1, h2⟩
  · have : k = n := by omega
    subst this
    obtain ⟨e, h1, h2⟩ := he s hI
    exact .inl ⟨e, h1, h2⟩
/-- two loops in step -/
theorem hp_sim {S E S' E' : Type} {b : S → Option (S ⊕ E)} {b' : S' → Option (S' ⊕ E')} (n : Nat) (R : Nat → S → S' → Prop) (Q : E → E' → Prop) {s : S} {s' : S'} (hn : n < 1000000) (h0 : R 0 s s')
    (hs : ∀ k s s', k < n → R k s s' → (∃ t t', b s = some (.inl t) ∧ b' s' = some (.inl t') ∧ R (k + 1) t t') ∨ ∃ e e', b s = some (.inr e) ∧ b' s' = some (.inr e') ∧ Q e e')
    (he : ∀ s s', R n s s' → ∃ e e', b s = some (.inr e) ∧ b' s' = some (.inr e') ∧ Q e e') : ∃ e e', hl_lp b hl_big s = some e ∧ hl_lp b' hl_big s' = some e' ∧ Q e e' := by
  have key : ∀ m k s s', k ≤ n → n - k < m → R k s s' → ∃ e e', hl_lp b m s = some e ∧ hl_lp b' m s' = some e' ∧ Q e e' := by
    intro m
    induction m with
    | zero => intro k s s' _ h; omega
    | succ m ih =>
      intro k s s' hk hm hR
      have fin : (∃ e e', b s = some (.inr e) ∧ b' s' = some (.inr e') ∧ Q e e') → ∃ e e', hl_lp b (m + 1) s = some e ∧ hl_lp b' (m + 1) s' = some e' ∧ Q e e' := by
        rintro ⟨e, e', h1, h2, h3⟩
        exact ⟨e, e', hl_lp_e h1, hl_lp_e h2, h3⟩
      by_cases h : k < n
      · rcases hs k s s' h hR with ⟨t, t', h1, h2, h3⟩ | h1
        · rw [hl_lp_s h1, hl_lp_s h2]
          exact ih (k + 1) t t' (by omega) (by omega) h3
        · exact fin h1
      · have : k = n := by omega
        subst this
        exact fin (he s s' hR)
  exact key hl_big 0 s s' (by omega) (by unfold hl_big; omega) h0
theorem hp_s01 {p f : Nat} {v : Int32} {σ : hl_M} : (hl_si σ p f v).1 p f = v := by rw [hl_rd, if_pos ⟨rfl, rfl⟩]
theorem hp_s11 {p f : Nat} {v : Int64} {σ : hl_M} : (hl_sl σ p f v).2 p f = v := by rw [hl_rdl, if_pos ⟨rfl, rfl⟩]
theorem hp_s2 {p f : Nat} {v : Int32} {σ : hl_M} : (hl_si σ p f v).2 = σ.2 := rfl
theorem hp_s1 {p f : Nat} {v : Int64} {σ : hl_M} : (hl_sl σ p f v).1 = σ.1 := rfl
theorem hp_sn {p f q g : Nat} {v : Int32} {σ : hl_M} (h : ¬ (q = p ∧ g = f)) : (hl_si σ p f v).1 q g = σ.1 q g := by rw [hl_rd, if_neg h]
theorem hp_sln {p f q g : Nat} {v : Int64} {σ : hl_M} (h : ¬ (q = p ∧ g = f)) : (hl_sl σ p f v).2 q g = σ.2 q g := by rw [hl_rdl, if_neg h]
/-- places that may differ -/
def hp_fr (D : Nat → Nat → Prop) (σ τ : hl_M) : Prop := ∀ q f, ¬ D q f → τ.1 q f = σ.1 q f ∧ τ.2 q f = σ.2 q f
theorem hp_fr.rf {D : Nat → Nat → Prop} {σ : hl_M} : hp_fr D σ σ := fun _ _ _ => ⟨rfl, rfl⟩
theorem hp_fr.tr {D : Nat → Nat → Prop} {σ τ υ : hl_M} (h1 : hp_fr D σ τ) (h2 : hp_fr D τ υ) : hp_fr D σ υ := fun q f hq => ⟨(h2 q f hq).1.trans (h1 q f hq).1, (h2 q f hq).2.trans (h1 q f hq).2⟩
theorem hp_fr.mono {D D' : Nat → Nat → Prop} {σ τ : hl_M} (h : hp_fr D σ τ) (hs : ∀ q f, D q f → D' q f) : hp_fr D' σ τ := fun q f hq => h q f (fun z => hq (hs q f z))
theorem hp_fr.si {D : Nat → Nat → Prop} {σ τ : hl_M} {p f : Nat} {v : Int32} (h : hp_fr D σ τ) (hp : D p f) : hp_fr D σ (hl_si τ p f v) := fun q g hq => by
  have hn : ¬ (q = p ∧ g = f) := fun e => hq (by rw [e.1, e.2]; exact hp)
  rw [hp_sn hn]
  exact h q g hq
theorem hp_fr.sl {D : Nat → Nat → Prop} {σ τ : hl_M} {p f : Nat} {v : Int64} (h : hp_fr D σ τ) (hp : D p f) : hp_fr D σ (hl_sl τ p f v) := fun q g hq => by
  have hn : ¬ (q = p ∧ g = f) := fun e => hq (by rw [e.1, e.2]; exact hp)
  rw [hp_sln hn]
  exact h q g hq
theorem hp_fr.i {D : Nat → Nat → Prop} {σ τ : hl_M} (h : hp_fr D σ τ) {q f : Nat} (hq : ¬ D q f) : τ.1 q f = σ.1 q f := (h q f hq).1
theorem hp_fr.l {D : Nat → Nat → Prop} {σ τ : hl_M} (h : hp_fr D σ τ) {q f : Nat} (hq : ¬ D q f) : τ.2 q f = σ.2 q f := (h q f hq).2
/-- two memories that agree everywhere are one -/
theorem hp_ext {σ τ : hl_M} (h : hp_fr (fun _ _ => False) σ τ) : τ = σ := Prod.ext (funext fun p => funext fun f => (h p f id).1) (funext fun p => funext fun f => (h p f id).2)
theorem hp_bindE {α β : Type} {o : Option α} {g : α → Option β} {r : Option β} (e : α) (h : o = some e) (h2 : g e = r) : o.bind g = r := by rw [h]; exact h2
theorem hp_bindX {α β : Type} {o : Option α} {g : α → Option β} {Q : α → Prop} {Q2 : β → Prop} (h : ∃ e, o = some e ∧ Q e) (h2 : ∀ e, Q e → ∃ r, g e = some r ∧ Q2 r) : ∃ r, o.bind g = some r ∧ Q2 r := by
  obtain ⟨e, h1, hq⟩ := h
  rw [h1]
  exact h2 e hq
theorem hp_simX {S E S' E' : Type} {T : Prop} {b : S → Option (S ⊕ E)} {b' : S' → Option (S' ⊕ E')} {s : S} {s' : S'} (n : Nat) (R : Nat → S → S' → Prop) (Q : E → E' → Prop) (hn : n < 1000000) (h0 : R 0 s s')
    (fin : ∀ e e', hl_lp b hl_big s = some e → hl_lp b' hl_big s' = some e' → Q e e' → T)
    (hs : ∀ k s s', k < n → R k s s' → (∃ t t', b s = some (.inl t) ∧ b' s' = some (.inl t') ∧ R (k + 1) t t') ∨ ∃ e e', b s = some (.inr e) ∧ b' s' = some (.inr e') ∧ Q e e')
    (he : ∀ s s', R n s s' → ∃ e e', b s = some (.inr e) ∧ b' s' = some (.inr e') ∧ Q e e') : T := by
  obtain ⟨e, e', h1, h2, h3⟩ := hp_sim n R Q hn h0 hs he
  exact fin e e' h1 h2 h3
theorem hp_invX {S E : Type} {T : Prop} {b : S → Option (S ⊕ E)} {s : S} (n : Nat) (I : Nat → S → Prop) (Q : E → Prop) (hn : n < 1000000) (h0 : I 0 s) (fin : ∀ e, hl_lp b hl_big s = some e → Q e → T) (hs : ∀ k s, k < n → I k s → (∃ s', b s = some (.inl s') ∧ I (k + 1) s') ∨ ∃ e, b s = some (.inr e) ∧ Q e) (he : ∀ s, I n s → ∃ e, b s = some (.inr e) ∧ Q e) : T := by
  obtain ⟨e, h1, h2⟩ := hp_inv n I Q hn h0 hs he
  exact fin e h1 h2
theorem hp_lpe {S E : Type} {b : S → Option (S ⊕ E)} {s : S} (x : E) (h : b s = some (.inr x)) : hl_lp b hl_big s = some x := hl_lp_e (n := 999999) h
theorem hp_bindF {α β γ : Type} {o : Option α} {g : α → Option β} {F : γ → β} {Q : γ → Prop} (e : α) (h : o = some e) (h2 : ∃ s, g e = some (F s) ∧ Q s) : ∃ s, o.bind g = some (F s) ∧ Q s := by rw [h]; exact h2
