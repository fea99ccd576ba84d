/-! one statement, both in step -/
section STM
variable {G P : hp_G} {σ τ σ' τ' σ1 τ1 υ : hl_M} {n a s t k c j v z m m' w d u N p i : Nat} {b : Nat → Nat}
/-- what the class does with a statement that isn't the first -/
def hx_stmt (i : Int32) (σ : hl_M) : Option ((Int32 × hl_M) ⊕ (Int32 × hl_M)) :=
  (f_Rd_isWord 1 σ).bind fun x2 =>
  if x2 = 0 then
  (f_Rd_isWord 2 σ).bind fun x3 =>
  if x3 = 0 then
  (f_Rd_isWord 16 σ).bind fun x4 =>
  if x4 = 0 then
  (f_Rd_isWord 17 σ).bind fun x5 =>
  if x5 = 0 then
  some (.inl ((i + 1, f_Rd_fail 1 (σ.1 3 2) σ))) else
  (f_Tl_tellHymn σ).bind fun x6 =>
  some (.inl ((i + 1, x6))) else
  (f_Tl_tellWord σ).bind fun x7 =>
  some (.inl ((i + 1, x7))) else
  (f_Tl_tellPerson σ).bind fun x8 =>
  some (.inl ((i + 1, x8))) else
  (f_Tl_tellWall σ).bind fun x9 =>
  some (.inl ((i + 1, x9)))
theorem hx_L21 (i : Int32) (h1 : ¬ 70 ≤ i) (h2 : ¬ i = 0) (h3 : f_Rd_failed σ = 0) (h4 : ¬ σ.1 3 1 = 0) : f_Tl_tell_L21 (i, σ) = hx_stmt i σ := by
  unfold f_Tl_tell_L21 hx_stmt
  dsimp only
  rw [if_neg h1, if_pos h3, if_neg h4, if_neg h2]
theorem q_stmt (i : Int32) (KK : hm_k τ) (T : hx_t n b σ) (R : hm_r n b τ) (H : q_ok n b σ τ) (D : q_D G P σ τ) (hz : z ≤ 20) (w1 : σ.1 24 2 = nI z) (w2 : τ.1 64 22 = nI z) (h29 : ¬ τ.1 64 29 = 70) (hat : τ.1 64 2 = σ.1 3 2) : ∃ σ' τ', hx_stmt i σ = some (.inl (i + 1, σ')) ∧ f_M_statementTold τ = some τ' ∧ hp_fr hx_TD σ σ' ∧ hp_fr hm_TD τ τ' ∧ τ'.1 64 29 = τ.1 64 29 + 1 ∧ q_T n b σ' τ' := by
  have z0 : ¬ (1 : Int32) = 0 := by decide
  have h4 := H.x.1
  unfold hx_stmt f_M_statementTold
  rw [if_neg h29, hat]
  obtain ⟨τ1, F1, u1, A1⟩ := q_takes (j := 1) (v := 67) (W := hp_W 1) (by decide +kernel) (KK 1 (by omega)) (hp_WL (by omega)) (by omega) T R H
  have K1 : hm_k τ1 := KK.fr F1 (fun q f h => by have := h.1; omega)
  have R1 : hm_r n b τ1 := R.fr F1 (by unfold hm_FD; omega) (fun k => by unfold hm_FD; omega)
  have D1 : q_D G P σ τ1 := D.fr0 .rf F1
  have e22 : τ1.1 64 22 = nI z := by rw [F1.i (by unfold hm_FD; omega)]; exact w2
  have e29 : τ1.1 64 29 = τ.1 64 29 := F1.i (by unfold hm_FD; omega)
  rcases A1 with ⟨a1, a2, a3, a4⟩ | ⟨a1, a2, σ2, a3, a4, a5⟩
  · rw [a1, a2, Option.bind_some, Option.bind_some, if_pos rfl, if_pos rfl]
    dsimp only
    obtain ⟨τ2, F2, u2, A2⟩ := q_takes (j := 2) (v := 68) (W := hp_W 2) (by decide +kernel) (K1 2 (by omega)) (hp_WL (by omega)) (by omega) T R1 a3
    have K2 : hm_k τ2 := K1.fr F2 (fun q f h => by have := h.1; omega)
    have R2 : hm_r n b τ2 := R1.fr F2 (by unfold hm_FD; omega) (fun k => by unfold hm_FD; omega)
    have D2 : q_D G P σ τ2 := D1.fr0 .rf F2
    have e22' : τ2.1 64 22 = nI z := by rw [F2.i (by unfold hm_FD; omega)]; exact e22
    have e29' : τ2.1 64 29 = τ.1 64 29 := by rw [F2.i (by unfold hm_FD; omega)]; exact e29
    have F12 := F1.tr F2
    rcases A2 with ⟨b1, b2, b3, b4⟩ | ⟨b1, b2, σ2, b3, b4, b5⟩
    · rw [b1, b2, Option.bind_some, Option.bind_some, if_pos rfl, if_pos rfl]
      dsimp only
      obtain ⟨τ3, F3, u3, A3⟩ := q_takes (j := 16) (v := 72) (W := hp_W 6) (by decide +kernel) (K2 6 (by omega)) (hp_WL (by omega)) (by omega) T R2 b3
      have K3 : hm_k τ3 := K2.fr F3 (fun q f h => by have := h.1; omega)
      have R3 : hm_r n b τ3 := R2.fr F3 (by unfold hm_FD; omega) (fun k => by unfold hm_FD; omega)
      have D3 : q_D G P σ τ3 := D2.fr0 .rf F3
      have g22 : τ3.1 64 22 = nI z := by rw [F3.i (by unfold hm_FD; omega)]; exact e22'
      have g29 : τ3.1 64 29 = τ.1 64 29 := by rw [F3.i (by unfold hm_FD; omega)]; exact e29'
      have F13 := F12.tr F3
      rcases A3 with ⟨c1, c2, c3, c4⟩ | ⟨c1, c2, σ2, c3, c4, c5⟩
      · rw [c1, c2, Option.bind_some, Option.bind_some, if_pos rfl, if_pos rfl]
        dsimp only
        obtain ⟨τ4, F4, u4, A4⟩ := q_takes (j := 17) (v := 73) (W := hp_W 7) (by decide +kernel) (K3 7 (by omega)) (hp_WL (by omega)) (by omega) T R3 c3
        have K4 : hm_k τ4 := K3.fr F4 (fun q f h => by have := h.1; omega)
        have R4 : hm_r n b τ4 := R3.fr F4 (by unfold hm_FD; omega) (fun k => by unfold hm_FD; omega)
        have D4 : q_D G P σ τ4 := D3.fr0 .rf F4
        have k22 : τ4.1 64 22 = nI z := by rw [F4.i (by unfold hm_FD; omega)]; exact g22
        have k29 : τ4.1 64 29 = τ.1 64 29 := by rw [F4.i (by unfold hm_FD; omega)]; exact g29
        have F14 := F13.tr F4
        unfold f_M_asks
        rw [if_pos u3]
        rcases A4 with ⟨d1, d2, d3, d4⟩ | ⟨d1, d2, σ2, d3, d4, d5⟩
        · obtain ⟨r1, r2, r3⟩ := q_fail0 (σ := σ) (τ := τ4) (f := 1) (p := σ.1 3 2) h4 u4 (by decide)
          rw [d1, d2, Option.bind_some, Option.bind_some, if_pos rfl, if_pos rfl]
          dsimp only
          rw [d4, Option.bind_some, if_neg r1.x.2]
          unfold f_M_statementTold_j98
          rw [hm_sign_no r1.x.2, Option.bind_some]
          exact ⟨_, _, rfl, rfl, r2.mono hx_FD_TD, ((F14.tr r3).mono hm_FD_TD).si (.inr (.inl ⟨rfl, by omega⟩)), by rw [hp_s01, r3.i (by unfold hm_FD; omega), k29], .inr (r1.fr (fun f hf => rfl) (fun f hf => hp_sn (by omega)))⟩
        · obtain ⟨σ', τ', s1, s2, s3, s4, s5, s6⟩ := q_hymnS d3 d4 h4 K4 (T.fr d4 (by unfold hx_RD; omega) (fun k => by unfold hx_RD; omega)) R4 d5 (D4.fr (d4.mono (fun q f h => .inl h.1)) .rf) hz w1 k22
          rw [d1, d2, Option.bind_some, Option.bind_some, if_neg z0, if_neg z0, Option.bind_some, if_pos u4, s1, Option.bind_some, s2]
          exact ⟨_, _, rfl, rfl, s3, (F14.mono hm_FD_TD).tr s4, by rw [s5, k29], s6⟩
      · obtain ⟨σ', τ', s1, s2, s3, s4, s5, s6⟩ := q_wordS c3 c4 h4 K3 (T.fr c4 (by unfold hx_RD; omega) (fun k => by unfold hx_RD; omega)) R3 c5 (D3.fr (c4.mono (fun q f h => .inl h.1)) .rf) hz w1 g22
        rw [c1, c2, Option.bind_some, Option.bind_some, if_neg z0, if_neg z0, s1, Option.bind_some, s2]
        exact ⟨_, _, rfl, rfl, s3, (F13.mono hm_FD_TD).tr s4, by rw [s5, g29], s6⟩
    · obtain ⟨σ', τ', s1, s2, s3, s4, s5, s6⟩ := q_persS b3 b4 h4 K2 (T.fr b4 (by unfold hx_RD; omega) (fun k => by unfold hx_RD; omega)) R2 b5 (D2.fr (b4.mono (fun q f h => .inl h.1)) .rf) hz w1 e22'
      rw [b1, b2, Option.bind_some, Option.bind_some, if_neg z0, if_neg z0, s1, Option.bind_some, s2]
      exact ⟨_, _, rfl, rfl, s3, (F12.mono hm_FD_TD).tr s4, by rw [s5, e29'], s6⟩
  · obtain ⟨σ', τ', s1, s2, s3, s4, s5, s6⟩ := q_wall a3 a4 h4 (T.fr a4 (by unfold hx_RD; omega) (fun k => by unfold hx_RD; omega)) R1 a5 (D1.fr (a4.mono (fun q f h => .inl h.1)) .rf) hz w1 e22
    rw [a1, a2, Option.bind_some, Option.bind_some, if_neg z0, if_neg z0, s1, Option.bind_some, s2]
    exact ⟨_, _, rfl, rfl, s3, (F1.mono hm_FD_TD).tr s4, by rw [s5, e29], s6⟩
end STM
