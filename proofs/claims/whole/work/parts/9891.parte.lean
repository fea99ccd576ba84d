/-! questions: which part is asked, both sides; a failed reader -/
section PARTE
variable {σ τ σ' τ' υ : hl_M} {n a s t k j v K : Nat} {b : Nat → Nat} {C W : List Nat} {o bs : Nat}
theorem hm_ones (h : ∀ i, i < 19 → f_M_isHere (hq_v i) τ = some (if K = i then 1 else 0, τ)) : f_M_qWordHere τ = some (if 8 ≤ K ∧ K ≤ 14 then nI (K - 8) else -1, τ) := by
  have z0 : ¬ (1 : Int32) = 0 := by decide
  unfold f_M_qWordHere
  have e8 : f_M_isHere 103 τ = some (if K = 8 then 1 else 0, τ) := h 8 (by omega)
  have e9 : f_M_isHere 104 τ = some (if K = 9 then 1 else 0, τ) := h 9 (by omega)
  have e10 : f_M_isHere 105 τ = some (if K = 10 then 1 else 0, τ) := h 10 (by omega)
  have e11 : f_M_isHere 106 τ = some (if K = 11 then 1 else 0, τ) := h 11 (by omega)
  have e12 : f_M_isHere 107 τ = some (if K = 12 then 1 else 0, τ) := h 12 (by omega)
  have e13 : f_M_isHere 108 τ = some (if K = 13 then 1 else 0, τ) := h 13 (by omega)
  have e14 : f_M_isHere 109 τ = some (if K = 14 then 1 else 0, τ) := h 14 (by omega)
  rw [e8, Option.bind_some]
  dsimp only
  by_cases k8 : K = 8
  · subst k8; rfl
  rw [if_neg k8, if_pos rfl]
  rw [e9, Option.bind_some]
  dsimp only
  by_cases k9 : K = 9
  · subst k9; rfl
  rw [if_neg k9, if_pos rfl]
  rw [e10, Option.bind_some]
  dsimp only
  by_cases k10 : K = 10
  · subst k10; rfl
  rw [if_neg k10, if_pos rfl]
  rw [e11, Option.bind_some]
  dsimp only
  by_cases k11 : K = 11
  · subst k11; rfl
  rw [if_neg k11, if_pos rfl]
  rw [e12, Option.bind_some]
  dsimp only
  by_cases k12 : K = 12
  · subst k12; rfl
  rw [if_neg k12, if_pos rfl]
  rw [e13, Option.bind_some]
  dsimp only
  by_cases k13 : K = 13
  · subst k13; rfl
  rw [if_neg k13, if_pos rfl]
  rw [e14, Option.bind_some]
  dsimp only
  by_cases k14 : K = 14
  · subst k14; rfl
  rw [if_neg k14, if_pos rfl]
  rw [if_neg (by omega)]
theorem hm_wordOf47 (h : ∀ i, i < 19 → f_M_isHere (hq_v i) τ = some (if K = i then 1 else 0, τ)) : f_M_qWordOf 4 7 τ = some (if 12 ≤ K ∧ K ≤ 14 then nI (K - 8) else -1, τ) := by
  unfold f_M_qWordOf
  rw [hm_ones h, Option.bind_some]
  dsimp only
  by_cases e : 8 ≤ K ∧ K ≤ 14
  · have : K = 8 ∨ K = 9 ∨ K = 10 ∨ K = 11 ∨ K = 12 ∨ K = 13 ∨ K = 14 := by omega
    rcases this with rfl | rfl | rfl | rfl | rfl | rfl | rfl <;> rfl
  · rw [if_neg e, if_pos (by decide), if_neg (by omega)]
theorem hm_wordOf04 (h : ∀ i, i < 19 → f_M_isHere (hq_v i) τ = some (if K = i then 1 else 0, τ)) : f_M_qWordOf 0 4 τ = some (if 8 ≤ K ∧ K ≤ 11 then nI (K - 8) else -1, τ) := by
  unfold f_M_qWordOf
  rw [hm_ones h, Option.bind_some]
  dsimp only
  by_cases e : 8 ≤ K ∧ K ≤ 14
  · have : K = 8 ∨ K = 9 ∨ K = 10 ∨ K = 11 ∨ K = 12 ∨ K = 13 ∨ K = 14 := by omega
    rcases this with rfl | rfl | rfl | rfl | rfl | rfl | rfl <;> rfl
  · rw [if_neg e, if_pos (by decide), if_neg (by omega)]
theorem hm_asksWord (h1 : 8 ≤ K) (h2 : K ≤ 14) : f_M_qAsksWord (nI (K - 8)) τ = f_M_asks (hq_v K) τ := by
  have bs : ∀ o : Option hl_M, (o.bind fun x => some x) = o := fun o => by cases o <;> rfl
  have : K = 8 ∨ K = 9 ∨ K = 10 ∨ K = 11 ∨ K = 12 ∨ K = 13 ∨ K = 14 := by omega
  unfold f_M_qAsksWord
  rcases this with rfl | rfl | rfl | rfl | rfl | rfl | rfl
  · rw [if_pos (by decide)]; exact bs _
  · rw [if_neg (by decide), if_pos (by decide)]; exact bs _
  · rw [if_neg (by decide), if_neg (by decide), if_pos (by decide)]; exact bs _
  · rw [if_neg (by decide), if_neg (by decide), if_neg (by decide), if_pos (by decide)]; exact bs _
  · rw [if_neg (by decide), if_neg (by decide), if_neg (by decide), if_neg (by decide), if_pos (by decide)]; exact bs _
  · rw [if_neg (by decide), if_neg (by decide), if_neg (by decide), if_neg (by decide), if_neg (by decide), if_pos (by decide)]; exact bs _
  · rw [if_neg (by decide), if_neg (by decide), if_neg (by decide), if_neg (by decide), if_neg (by decide), if_neg (by decide)]; exact bs _
theorem hx_ones (h : ∀ i, i < 19 → f_Rd_isWord (19 + i) σ = some (if K = i then 1 else 0)) : f_Qu_partOfBeat σ = some (if 8 ≤ K ∧ K ≤ 11 then hq_xc (32 + K) else 0) := by
  have z0 : ¬ (1 : Int32) = 0 := by decide
  unfold f_Qu_partOfBeat
  have e8 : f_Rd_isWord 27 σ = some (if K = 8 then 1 else 0) := h 8 (by omega)
  have e9 : f_Rd_isWord 28 σ = some (if K = 9 then 1 else 0) := h 9 (by omega)
  have e10 : f_Rd_isWord 29 σ = some (if K = 10 then 1 else 0) := h 10 (by omega)
  have e11 : f_Rd_isWord 30 σ = some (if K = 11 then 1 else 0) := h 11 (by omega)
  rw [e8, Option.bind_some]
  by_cases k8 : K = 8
  · subst k8; rfl
  rw [if_neg k8, if_pos rfl]
  rw [e9, Option.bind_some]
  by_cases k9 : K = 9
  · subst k9; rfl
  rw [if_neg k9, if_pos rfl]
  rw [e10, Option.bind_some]
  by_cases k10 : K = 10
  · subst k10; rfl
  rw [if_neg k10, if_pos rfl]
  rw [e11, Option.bind_some]
  by_cases k11 : K = 11
  · subst k11; rfl
  rw [if_neg k11, if_pos rfl]
  rw [if_neg (by omega)]
theorem hx_ones2 (h : ∀ i, i < 19 → f_Rd_isWord (19 + i) σ = some (if K = i then 1 else 0)) : f_Qu_partOfNumber σ = some (if 12 ≤ K ∧ K ≤ 14 then hq_xc (48 + K) else 0) := by
  have z0 : ¬ (1 : Int32) = 0 := by decide
  unfold f_Qu_partOfNumber
  have e12 : f_Rd_isWord 31 σ = some (if K = 12 then 1 else 0) := h 12 (by omega)
  have e13 : f_Rd_isWord 32 σ = some (if K = 13 then 1 else 0) := h 13 (by omega)
  have e14 : f_Rd_isWord 33 σ = some (if K = 14 then 1 else 0) := h 14 (by omega)
  rw [e12, Option.bind_some]
  by_cases k12 : K = 12
  · subst k12; rfl
  rw [if_neg k12, if_pos rfl]
  rw [e13, Option.bind_some]
  by_cases k13 : K = 13
  · subst k13; rfl
  rw [if_neg k13, if_pos rfl]
  rw [e14, Option.bind_some]
  by_cases k14 : K = 14
  · subst k14; rfl
  rw [if_neg k14, if_pos rfl]
  rw [if_neg (by omega)]
/-- the model's loop of what stands ahead of a part -/
theorem q_L2 (T : hx_t n b σ) (R : hm_r n b τ) (H : q_os n b s σ τ) (h : ∀ i, i < 19 → f_M_isHere (hq_v i) τ = some (if K = i then 1 else 0, τ)) : f_M_qPartTold_L2 (1, τ) = if s < n ∧ b s = 40 then (f_M_qOpens 20 (nI s) τ).bind (fun x12 => some (.inl (1, hl_si x12 64 2 (x12.1 64 2 + 1)))) else if K = 15 ∨ K = 16 then f_M_qPartTold_j77 1 τ else if 12 ≤ K ∧ K ≤ 14 then (f_M_qOpens (nI (48 + K)) (nI s) τ).bind (fun x10 => (f_M_qAsksWord (nI (K - 8)) x10).bind fun x11 => some (.inl (1, x11))) else some (.inl (0, τ)) := by
  have z0 : ¬ (1 : Int32) = 0 := by decide
  have e15 : f_M_isHere 101 τ = some (if K = 15 then 1 else 0, τ) := h 15 (by omega)
  have e16 : f_M_isHere 102 τ = some (if K = 16 then 1 else 0, τ) := h 16 (by omega)
  unfold f_M_qPartTold_L2
  dsimp only
  rw [if_neg z0, if_pos H.x.2, H.look T R, Option.bind_some]
  dsimp only
  rw [hm_wordOf47 h, Option.bind_some]
  dsimp only
  rw [H.2.1]
  by_cases c : s < n ∧ b s = 40
  · have c' : hq_ch n b s = 40 := (hq_chE R (v := 40) (by decide)).mpr c
    rw [if_pos c', if_pos c]
  · have c' : ¬ hq_ch n b s = 40 := fun z => c ((hq_chE R (v := 40) (by decide)).mp z)
    rw [if_neg c', if_neg c, e15, Option.bind_some]
    dsimp only
    by_cases k15 : K = 15
    · have k2 : K = 15 ∨ K = 16 := .inl k15
      rw [if_pos k15, if_neg z0, if_pos k2]
    · rw [if_neg k15, if_pos rfl, e16, Option.bind_some]
      dsimp only
      by_cases k16 : K = 16
      · have k2 : K = 15 ∨ K = 16 := .inr k16
        rw [if_pos k16, if_neg z0, if_pos k2]
      · have k2 : ¬ (K = 15 ∨ K = 16) := by omega
        rw [if_neg k16, if_pos rfl, if_neg k2]
        by_cases k : 12 ≤ K ∧ K ≤ 14
        · rw [if_pos k, if_pos k, if_neg (hl_nm1 (by omega)), H.2.1]
          have e : ((60 : Int32) + nI (K - 8) - 4) = nI (48 + K) := by
            rw [show (60 : Int32) = nI 60 from rfl, nI_add, show (4 : Int32) = nI 4 from rfl, hl_nsub (by omega), show 60 + (K - 8) - 4 = 48 + K by omega]
          rw [e]
        · rw [if_neg k, if_neg k, if_pos rfl]
theorem q_P2a (H : q_os n b s σ τ) (h : ∀ i, i < 19 → f_M_isHere (hq_v i) τ = some (if K = i then 1 else 0, τ)) (k1 : 8 ≤ K) (k2 : K ≤ 11) : hm_P2 τ = (f_M_asks (hq_v K) τ).bind fun x18 => f_M_qPartTold_j234 (nI (32 + K)) x18 := by
  unfold hm_P2
  rw [if_pos H.x.2, hm_wordOf04 h, Option.bind_some]
  dsimp only
  rw [if_pos (show 8 ≤ K ∧ K ≤ 11 from ⟨k1, k2⟩), if_neg (hl_nm1 (by omega)), hm_asksWord k1 (by omega)]
  congr 1
  funext x
  unfold f_M_qPartTold_j209
  rw [if_neg (hl_nm1 (by omega)), show (40 : Int32) = nI 40 from rfl, nI_add, show 40 + (K - 8) = 32 + K by omega]
theorem q_P2b (H : q_os n b s σ τ) (h : ∀ i, i < 19 → f_M_isHere (hq_v i) τ = some (if K = i then 1 else 0, τ)) (k : ¬ (8 ≤ K ∧ K ≤ 11)) : hm_P2 τ = (f_M_number 0 9999 τ).bind fun x15 => f_M_qPartTold_j234 (1000 + x15.1) x15.2 := by
  unfold hm_P2
  rw [if_pos H.x.2, hm_wordOf04 h, Option.bind_some]
  dsimp only
  rw [if_neg k, if_pos rfl]
  unfold f_M_qPartTold_j209
  rw [if_pos rfl]
theorem hm_j234 {c : Int32} (h : f_M_qCode c τ = some τ') : f_M_qPartTold_j234 c τ = hl_lp f_M_qEndsPart_L0 hl_big τ' := by
  have bs : ∀ o : Option hl_M, ((o.bind fun x => some x).bind fun x => some x) = o := fun o => by cases o <;> rfl
  unfold f_M_qPartTold_j234 f_M_qEndsPart
  rw [h, Option.bind_some]
  exact bs _
theorem hm_endsBad (h : ¬ τ.1 64 5 = 0) : hl_lp f_M_qEndsPart_L0 hl_big τ = some τ := by
  apply hp_lpe
  unfold f_M_qEndsPart_L0
  rw [if_neg h]
/-! signs of sums -/
theorem q_calc (T : hx_t n b σ) (R : hm_r n b τ) (H : q_os n b s σ τ) : f_Qu_calculation σ = some (if s < n ∧ b s = 43 then -11 else if s < n ∧ b s = 45 then -12 else if s < n ∧ b s = 42 then -13 else if s < n ∧ b s = 47 then -14 else 0) := by
  have z0 : ¬ (1 : Int32) = 0 := by decide
  have e1 := q_sgX T R H (v := 43) (by decide) (by decide)
  have e2 := q_sgX T R H (v := 45) (by decide) (by decide)
  have e3 := q_sgX T R H (v := 42) (by decide) (by decide)
  have e4 := q_sgX T R H (v := 47) (by decide) (by decide)
  rw [show nI 43 = (43 : Int32) from rfl] at e1
  rw [show nI 45 = (45 : Int32) from rfl] at e2
  rw [show nI 42 = (42 : Int32) from rfl] at e3
  rw [show nI 47 = (47 : Int32) from rfl] at e4
  unfold f_Qu_calculation
  rw [e1, e2, e3, e4, Option.bind_some]
  by_cases c1 : s < n ∧ b s = 43
  · rw [if_pos c1, if_neg z0, if_pos c1]
  · rw [if_neg c1, if_pos rfl, if_neg c1, Option.bind_some]
    by_cases c2 : s < n ∧ b s = 45
    · rw [if_pos c2, if_neg z0, if_pos c2]
    · rw [if_neg c2, if_pos rfl, if_neg c2, Option.bind_some]
      by_cases c3 : s < n ∧ b s = 42
      · rw [if_pos c3, if_neg z0, if_pos c3]
      · rw [if_neg c3, if_pos rfl, if_neg c3, Option.bind_some]
        by_cases c4 : s < n ∧ b s = 47
        · rw [if_pos c4, if_neg z0, if_pos c4]
        · rw [if_neg c4, if_pos rfl, if_neg c4]
theorem q_G2 (T : hx_t n b σ) (R : hm_r n b τ) (H : q_os n b s σ τ) : hm_G2 τ = if s < n ∧ (b s = 42 ∨ b s = 47) then f_M_qGoesOn_j140 (hl_si τ 64 2 (nI (s + 1))) else if s < n ∧ (b s = 43 ∨ b s = 45) then f_M_qGoesOn_j225 (hl_si τ 64 2 (nI (s + 1))) else hm_G3 τ := by
  have z0 : ¬ (1 : Int32) = 0 := by decide
  have e1 := q_sgM T R H (v := 43) (by decide)
  have e2 := q_sgM T R H (v := 45) (by decide)
  have e3 := q_sgM T R H (v := 42) (by decide)
  have e4 := q_sgM T R H (v := 47) (by decide)
  rw [show nI 43 = (43 : Int32) from rfl] at e1
  rw [show nI 45 = (45 : Int32) from rfl] at e2
  rw [show nI 42 = (42 : Int32) from rfl] at e3
  rw [show nI 47 = (47 : Int32) from rfl] at e4
  unfold hm_G2
  rw [e3]
  by_cases c3 : s < n ∧ b s = 42
  · rw [if_pos c3, Option.bind_some, if_neg z0, if_pos (show s < n ∧ (b s = 42 ∨ b s = 47) from ⟨c3.1, .inl c3.2⟩)]
  · rw [if_neg c3, Option.bind_some, if_pos rfl, e4]
    by_cases c4 : s < n ∧ b s = 47
    · rw [if_pos c4, Option.bind_some, if_neg z0, if_pos (show s < n ∧ (b s = 42 ∨ b s = 47) from ⟨c4.1, .inr c4.2⟩)]
    · rw [if_neg c4, Option.bind_some, if_pos rfl, e1, if_neg (show ¬ (s < n ∧ (b s = 42 ∨ b s = 47)) from fun z => z.2.elim (fun y => c3 ⟨z.1, y⟩) (fun y => c4 ⟨z.1, y⟩))]
      by_cases c1 : s < n ∧ b s = 43
      · rw [if_pos c1, Option.bind_some, if_neg z0, if_pos (show s < n ∧ (b s = 43 ∨ b s = 45) from ⟨c1.1, .inl c1.2⟩)]
      · rw [if_neg c1, Option.bind_some, if_pos rfl, e2]
        by_cases c2 : s < n ∧ b s = 45
        · rw [if_pos c2, Option.bind_some, if_neg z0, if_pos (show s < n ∧ (b s = 43 ∨ b s = 45) from ⟨c2.1, .inr c2.2⟩)]
        · rw [if_neg c2, Option.bind_some, if_pos rfl, if_neg (show ¬ (s < n ∧ (b s = 43 ∨ b s = 45)) from fun z => z.2.elim (fun y => c1 ⟨z.1, y⟩) (fun y => c2 ⟨z.1, y⟩))]
/-! the class behind a fault -/
theorem hx_noW (H : q_no σ τ) (j : Nat) : f_Rd_isWord j σ = some 0 := by
  unfold f_Rd_isWord
  rw [H.2.2.1, if_neg (by decide)]
theorem hx_noS (H : q_no σ τ) (c : Int32) : f_Rd_isSign c σ = some 0 := by
  unfold f_Rd_isSign
  rw [H.2.2.1, if_neg (by decide)]
theorem hx_noA (H : q_no σ τ) : f_Rd_advance σ = some σ := by
  unfold f_Rd_advance
  rw [if_pos H.2.2.1]
theorem hx_noC (H : q_no σ τ) : f_Qu_calculation σ = some 0 := by
  unfold f_Qu_calculation
  rw [hx_noS H, hx_noS H, hx_noS H, hx_noS H, Option.bind_some, if_pos rfl, Option.bind_some, if_pos rfl, Option.bind_some, if_pos rfl, Option.bind_some, if_pos rfl]
theorem hx_noWant (H : q_no σ τ) (c : Int32) : ∃ σ', f_Rd_wantSign c σ = some σ' ∧ q_no σ' τ ∧ hp_fr hx_FD σ σ' := by
  obtain ⟨r1, r2⟩ := q_failN (f := 1) (p := σ.1 3 2) H
  unfold f_Rd_wantSign
  rw [hx_noS H, Option.bind_some, if_pos rfl]
  exact ⟨_, rfl, r1, r2⟩
theorem q_no.y (H : q_no σ τ) (h : ∀ f, σ'.1 3 f = σ.1 3 f) : q_no σ' τ := H.fr (fun f _ => h f) (fun f _ => rfl)
/-- the class' recursion behind a fault -/
theorem hx_noT : ∀ k, k < 5 → ∀ N, 4 ≤ N → ∀ σ, q_no σ τ → ∃ σ', f_Qu_take N k σ = some σ' ∧ hp_fr hx_QD σ σ' ∧ q_no σ' τ := by
  have em : ∀ c σ, q_no σ τ → ∃ σ', f_Qu_emit c σ = some σ' ∧ hp_fr hx_QD σ σ' ∧ q_no σ' τ := by
    intro c σ H
    obtain ⟨σ', r1, r2⟩ := hx_emit0 (σ := σ) c
    exact ⟨σ', r1, r2.mono (fun q f h => by unfold hx_QE at h; unfold hx_QD; omega), H.y (fun f => r2.i (by unfold hx_QE; omega))⟩
  have fl : ∀ f p σ, q_no σ τ → hp_fr hx_QD σ (f_Rd_fail f p σ) ∧ q_no (f_Rd_fail f p σ) τ := by
    intro f p σ H
    obtain ⟨r1, r2⟩ := q_failN (f := f) (p := p) H
    exact ⟨r2.mono (fun q f h => .inl h), r1⟩
  have part : ∀ N σ, q_no σ τ → ∃ σ', f_Qu_take (N + 1) 3 σ = some σ' ∧ hp_fr hx_QD σ σ' ∧ q_no σ' τ := by
    intro N σ H
    obtain ⟨r1, r2⟩ := fl 1 (σ.1 3 2) σ H
    refine ⟨_, ?_, r1, r2⟩
    show (if 3 = 0 then _ else if 3 = 1 then _ else if 3 = 2 then _ else if 3 = 3 then b_Qu_takePart (f_Qu_take N) σ else _) = _
    rw [if_neg (by decide), if_neg (by decide), if_neg (by decide), if_pos rfl]
    unfold b_Qu_takePart f_Qu_partOfBeat f_Qu_partOfNumber
    rw [H.2.2.1, if_neg (by decide), hx_noS H, Option.bind_some, if_pos rfl]
    simp only [hx_noW H, Option.bind_some, if_true]
  have pair : ∀ N σ, q_no σ τ → ∃ σ', f_Qu_take (N + 1) 4 σ = some σ' ∧ hp_fr hx_QD σ σ' ∧ q_no σ' τ := by
    intro N σ H
    obtain ⟨r1, r2⟩ := fl 1 (σ.1 3 2) σ H
    refine ⟨_, ?_, r1, r2⟩
    show (if 4 = 0 then _ else if 4 = 1 then _ else if 4 = 2 then _ else if 4 = 3 then _ else if 4 = 4 then b_Qu_takePair (f_Qu_take N) σ else _) = _
    rw [if_neg (by decide), if_neg (by decide), if_neg (by decide), if_neg (by decide), if_pos rfl]
    unfold b_Qu_takePair
    rw [hx_noS H, Option.bind_some, if_pos rfl]
  have sum : ∀ N σ, q_no σ τ → ∃ σ', f_Qu_take (N + 2) 2 σ = some σ' ∧ hp_fr hx_QD σ σ' ∧ q_no σ' τ := by
    intro N σ H
    obtain ⟨σ1, r1, r2, r3⟩ := part N σ H
    refine ⟨σ1, ?_, r2, r3⟩
    show (if 2 = 0 then _ else if 2 = 1 then _ else if 2 = 2 then b_Qu_takeSum (f_Qu_take (N + 1)) σ else _) = _
    rw [if_neg (by decide), if_neg (by decide), if_pos rfl]
    unfold b_Qu_takeSum
    have l : f_Qu_takeSum_L8 (f_Qu_take (N + 1)) (0, 0, σ1) = some (.inr (0, σ1)) := by
      unfold f_Qu_takeSum_L8
      dsimp only
      rw [if_neg (by decide), hx_noC r3, Option.bind_some, if_pos rfl]
    rw [r1, Option.bind_some, hp_lpe _ l, Option.bind_some, if_pos rfl]
  have fact : ∀ N σ, q_no σ τ → ∃ σ', f_Qu_take (N + 3) 1 σ = some σ' ∧ hp_fr hx_QD σ σ' ∧ q_no σ' τ := by
    intro N σ H
    obtain ⟨σ1, r1, r2, r3⟩ := sum N σ H
    have cmp : f_Qu_comparison σ1 = some (-17, f_Rd_fail 1 (σ1.1 3 2) σ1) := by
      unfold f_Qu_comparison
      rw [hx_noS r3, hx_noS r3, hx_noS r3, Option.bind_some, if_pos rfl, Option.bind_some, if_pos rfl, Option.bind_some, if_pos rfl]
    obtain ⟨s1, s2⟩ := fl 1 (σ1.1 3 2) σ1 r3
    obtain ⟨σ2, t1, t2, t3⟩ := sum N _ s2
    obtain ⟨σ3, u1, u2, u3⟩ := em (-17) σ2 t3
    refine ⟨σ3, ?_, ((r2.tr s1).tr t2).tr u2, u3⟩
    show (if 1 = 0 then _ else if 1 = 1 then b_Qu_takeFact (f_Qu_take (N + 2)) σ else _) = _
    rw [if_neg (by decide), if_pos rfl]
    unfold b_Qu_takeFact
    rw [hx_noW H, Option.bind_some, if_pos rfl, hx_noS H, Option.bind_some, if_pos rfl, hx_noW H, Option.bind_some, if_pos rfl, r1, Option.bind_some, cmp, Option.bind_some, hx_noA s2, Option.bind_some, t1, Option.bind_some, u1, Option.bind_some]
  have test : ∀ N σ, q_no σ τ → ∃ σ', f_Qu_take (N + 4) 0 σ = some σ' ∧ hp_fr hx_QD σ σ' ∧ q_no σ' τ := by
    intro N σ H
    obtain ⟨σ1, r1, r2, r3⟩ := fact N σ H
    refine ⟨σ1, ?_, r2, r3⟩
    show (if 0 = 0 then b_Qu_takeTest (f_Qu_take (N + 3)) σ else _) = _
    rw [if_pos rfl]
    unfold b_Qu_takeTest
    have l : f_Qu_takeTest_L8 (f_Qu_take (N + 3)) (0, 0, σ1) = some (.inr (0, σ1)) := by
      unfold f_Qu_takeTest_L8
      dsimp only
      rw [if_neg (by decide), hx_noW r3, Option.bind_some, if_pos rfl, hx_noW r3, Option.bind_some, if_pos rfl]
    rw [r1, Option.bind_some, hp_lpe _ l, Option.bind_some, if_pos rfl]
  intro k hk N hN σ H
  obtain ⟨N, rfl⟩ : ∃ g, N = g + 4 := ⟨N - 4, by omega⟩
  have : k = 0 ∨ k = 1 ∨ k = 2 ∨ k = 3 ∨ k = 4 := by omega
  rcases this with rfl | rfl | rfl | rfl | rfl
  · exact test N σ H
  · exact fact (N + 1) σ H
  · exact sum (N + 2) σ H
  · exact part (N + 3) σ H
  · exact pair (N + 3) σ H
end PARTE
