/-! the ground's own statement, both in step -/
section GND
variable {G P : hp_G} {σ τ σ' τ' σ1 τ1 υ : hl_M} {n a s t k c j v z m m' w d u N p i : Nat} {b : Nat → Nat}
theorem q_st.fr (H : q_st n b σ τ) (h2 : ∀ f, f = 2 ∨ f = 4 ∨ f = 5 ∨ f = 6 → τ'.1 64 f = τ.1 64 f) : q_st n b σ τ' := by
  rcases H with H | H
  · exact .inl (H.fr (fun f hf => rfl) (fun f hf => h2 f (by omega)))
  · exact .inr (H.fr (fun f hf => rfl) (fun f hf => h2 f (by omega)))
theorem q_first (KK : hm_k τ) (T : hx_t n b σ) (R : hm_r n b τ) (H : q_ok n b σ τ) (x3 : σ.1 14 3 = 0) (x8 : σ.1 14 8 = 0) (x12 : σ.1 14 12 = 0) (x2 : σ.2 14 2 = 0) (x24 : σ.1 24 2 = 0) (m0 : ∀ c, c < 3 → τ.1 75 c = 0) (m76 : ∀ c, c < 54 → τ.1 76 c = 0) (m22 : τ.1 64 22 = 0) : ∃ σ' τ', f_Tl_tellGround σ = some σ' ∧ ((f_M_asks 66 τ).bind fun x4 => (f_M_number 3 9 x4).bind fun x5 => (f_M_number 3 6 (hl_si x5.2 64 20 x5.1)).bind fun x6 => (f_M_asksSign 59 (hl_si x6.2 64 21 x6.1)).bind fun x7 => some (hl_si x7 64 29 1)) = some τ' ∧ hp_fr hx_TD σ σ' ∧ hp_fr hm_TD τ τ' ∧ τ'.1 64 29 = nI 1 ∧ q_T n b σ' τ' := by
  obtain ⟨σ2, τ2, a1, a2, a3, a4, a5⟩ := q_want (j := 0) (v := 66) (W := hp_W 0) (by decide +kernel) (KK 0 (by omega)) (hp_WL (by omega)) (by omega) T R (.inl H)
  have T2 : hx_t n b σ2 := T.fr a3 (by unfold hx_FD; omega) (fun k => by unfold hx_FD; omega)
  have R2 : hm_r n b τ2 := R.fr a4 (by unfold hm_FD; omega) (fun k => by unfold hm_FD; omega)
  obtain ⟨x, y, σ3, τ3, b1, b2, b3, b4, b5, b6⟩ := q_number T2 R2 a5 3 9
  have T3 : hx_t n b σ3 := T2.fr b3 (by unfold hx_FD; omega) (fun k => by unfold hx_FD; omega)
  have R3 : hm_r n b (hl_si τ3 64 20 y) := (R2.fr b4 (by unfold hm_FD; omega) (fun k => by unfold hm_FD; omega)).si (by omega)
  obtain ⟨x', y', σ4, τ4, c1, c2, c3, c4, c5, c6⟩ := q_number (τ := hl_si τ3 64 20 y) T3 R3 (b5.fr (fun f hf => hp_sn (by omega))) 3 6
  have T4 : hx_t n b σ4 := T3.fr c3 (by unfold hx_FD; omega) (fun k => by unfold hx_FD; omega)
  have R4 : hm_r n b (hl_si τ4 64 21 y') := (R3.fr c4 (by unfold hm_FD; omega) (fun k => by unfold hm_FD; omega)).si (by omega)
  have S4 : q_st n b σ4 (hl_si τ4 64 21 y') := c5.fr (fun f hf => hp_sn (by omega))
  have FM4 : hp_fr hm_TD τ (hl_si τ4 64 21 y') := ((((a4.tr b4).mono hm_FD_TD).si (.inr (.inl ⟨rfl, by omega⟩))).tr (c4.mono hm_FD_TD)).si (.inr (.inl ⟨rfl, by omega⟩))
  have GX : hp_fr hx_FD σ σ4 := (a3.tr b3).tr c3
  have rdM : ∀ q f, ¬ hm_FD q f → ¬ (q = 64 ∧ (f = 20 ∨ f = 21)) → (hl_si τ4 64 21 y').1 q f = τ.1 q f := fun q f h1 h2 => by
    rw [hp_sn (by omega), c4.i h1, hp_sn (by omega), b4.i h1, a4.i h1]
  unfold f_Tl_tellGround f_Tl_tellGround_j57
  rw [a1, a2, Option.bind_some, Option.bind_some, b1, b2, Option.bind_some, Option.bind_some]
  dsimp only
  rw [c1, c2, Option.bind_some, Option.bind_some]
  dsimp only
  rcases c5 with c5 | c5
  · obtain ⟨z1, z2⟩ := c5.x
    have z0 : σ3.1 3 4 = 0 := by
      rcases b5 with h | h
      · exact h.x.1
      · exfalso
        have e := hx_num_no h 3 6
        rw [c1] at e
        have e2 : σ4 = f_Rd_fail 1 (σ3.1 3 2) σ3 := congrArg Prod.snd (Option.some.inj e)
        have := (q_failN (f := 1) (p := σ3.1 3 2) h).1.1
        rw [← e2] at this
        exact this z1
    obtain ⟨rfl, d2, d3, ⟨u, d4, rfl⟩, -⟩ := b6 z0
    obtain ⟨rfl, e2, e3, ⟨v, e4, rfl⟩, -⟩ := c6 z1
    have u3 : 3 ≤ u := Nat.le_of_not_lt (fun e => d2 (nI_lt e (by decide)))
    have u9 : u ≤ 9 := Nat.le_of_not_lt (fun e => d3 (nI_lt e (by omega)))
    have v3 : 3 ≤ v := Nat.le_of_not_lt (fun e => e2 (nI_lt e (by decide)))
    have v6 : v ≤ 6 := Nat.le_of_not_lt (fun e => e3 (nI_lt e (by omega)))
    rw [hx_failed0 z1, if_pos rfl]
    have GXw : ∀ q f, ¬ hx_FD q f → ¬ (q = 14 ∧ (f = 0 ∨ f = 1)) → (hl_si (hl_si σ4 14 0 (nI u)) 14 1 (nI v)).1 q f = σ.1 q f := fun q f h1 h2 => by
      rw [hp_sn (by omega), hp_sn (by omega), GX.i h1]
    have D5 : q_D (hp_bare u v) (fun _ _ => 0) (hl_si (hl_si σ4 14 0 (nI u)) 14 1 (nI v)) (hl_si τ4 64 21 (nI v)) := by
      refine ⟨hp_bare_wg u3 u9 v3 v6, fun p h => absurd h (Nat.not_lt_zero p), u3, ⟨⟨?_, ?_, ?_, ?_, ?_⟩, ?_, fun p h => absurd h (Nat.not_lt_zero p), fun p h => absurd h (Nat.not_lt_zero p), fun p h => absurd h (Nat.not_lt_zero p)⟩, fun p h => absurd h (Nat.not_lt_zero p), ⟨⟨?_, ?_, ?_, ?_, ?_⟩, ?_, fun p h => absurd h (Nat.not_lt_zero p), fun p h => absurd h (Nat.not_lt_zero p), fun p h => absurd h (Nat.not_lt_zero p)⟩, fun p h => absurd h (Nat.not_lt_zero p)⟩
      · rw [hp_sn (by omega), hp_s01]; rfl
      · rw [hp_s01]; rfl
      · rw [GXw _ _ (by unfold hx_FD; omega) (by omega), x3]; rfl
      · rw [GXw _ _ (by unfold hx_FD; omega) (by omega), x8]; rfl
      · rw [GXw _ _ (by unfold hx_FD; omega) (by omega), x12]; rfl
      · rw [hp_s2, hp_s2, GX.l (by unfold hx_FD; omega), x2]
        exact hp_bs.zero.cong (fun c hc => rfl)
      · rw [hp_sn (by omega), c4.i (by unfold hm_FD; omega), hp_s01]; rfl
      · rw [hp_s01]; rfl
      · rw [rdM _ _ (by unfold hm_FD; omega) (by omega)]; exact m0 0 (by omega)
      · rw [rdM _ _ (by unfold hm_FD; omega) (by omega)]; exact m0 1 (by omega)
      · rw [rdM _ _ (by unfold hm_FD; omega) (by omega)]; exact m0 2 (by omega)
      · intro c hc
        rw [rdM _ _ (by unfold hm_FD; omega) (by omega), Nat.mul_zero, Nat.zero_add]
        exact m76 c hc
    have H5 : q_ok n b (hl_si (hl_si σ4 14 0 (nI u)) 14 1 (nI v)) (hl_si τ4 64 21 (nI v)) := c5.fr (fun f hf => by rw [hp_sn (by omega), hp_sn (by omega)]) (fun f hf => hp_sn (by omega))
    obtain ⟨σ6, τ6, s1, s2, s3, s4, s5⟩ := q_sign (v := 59) (by decide) (by decide) ((T4.si (p := 14) (f := 0) (x := nI u) (by omega)).si (p := 14) (f := 1) (x := nI v) (by omega)) R4 (.inl H5)
    rw [show nI 59 = (59 : Int32) from rfl] at s1 s2
    rw [s1, s2, Option.bind_some, Option.bind_some]
    refine ⟨_, _, rfl, rfl, (((GX.mono hx_FD_TD).si (.inr ⟨by omega, by omega⟩)).si (.inr ⟨by omega, by omega⟩)).tr (s3.mono hx_FD_TD), (FM4.tr (s4.mono hm_FD_TD)).si (.inr (.inl ⟨rfl, by omega⟩)), hp_s01, ?_⟩
    rcases s5 with s5 | s5
    · refine .inl ⟨s5.fr (fun f hf => rfl) (fun f hf => hp_sn (by omega)), hp_bare u v, fun _ _ => 0, 0, D5.fr (s3.mono hx_FD_DD) ((s4.mono hm_FD_DD).si (.inr (.inl ⟨rfl, by omega⟩))), by omega, ?_, ?_⟩
      · rw [s3.i (by unfold hx_FD; omega), GXw _ _ (by unfold hx_FD; omega) (by omega), x24]; rfl
      · rw [hp_sn (by omega), s4.i (by unfold hm_FD; omega), rdM _ _ (by unfold hm_FD; omega) (by omega), m22]; rfl
    · exact .inr (s5.fr (fun f hf => rfl) (fun f hf => hp_sn (by omega)))
  · have c5' : q_no σ4 (hl_si τ4 64 21 y') := c5.fr (fun f hf => rfl) (fun f hf => hp_sn (by omega))
    obtain ⟨r1, r2⟩ := q_failN (f := 1) (p := σ4.1 3 2) c5'
    rw [hx_failed1 c5.x.1, if_neg (show ¬ (1 : Int32) = 0 by decide), hx_sign_no c5, Option.bind_some, hm_sign_no c5'.x.2, Option.bind_some]
    exact ⟨_, _, rfl, rfl, (GX.tr r2).mono hx_FD_TD, FM4.si (.inr (.inl ⟨rfl, by omega⟩)), hp_s01, .inr (r1.fr (fun f hf => rfl) (fun f hf => hp_sn (by omega)))⟩
end GND
