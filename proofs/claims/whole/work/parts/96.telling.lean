/-! the telling as a whole, up to the model's last question -/
section TLG
variable {G P : hp_G} {σ τ σ' τ' σ1 τ1 υ : hl_M} {n a s t k c j v z m m' w d u N p i : Nat} {b : Nat → Nat}
def hm_chain (τ : hl_M) : Option hl_M := (f_M_asks 66 τ).bind fun x4 => (f_M_number 3 9 x4).bind fun x5 => (f_M_number 3 6 (hl_si x5.2 64 20 x5.1)).bind fun x6 => (f_M_asksSign 59 (hl_si x6.2 64 21 x6.1)).bind fun x7 => some (hl_si x7 64 29 1)
theorem q_telling (KK : hm_k τ) (T : hx_t n b σ) (R : hm_r n b τ) (h5 : τ.1 64 5 = 0) (h2 : τ.1 64 2 = 0) (h4 : τ.1 64 4 = -1) (h6 : τ.1 64 6 = -1) (m0 : ∀ c, c < 3 → τ.1 75 c = 0) (m76 : ∀ c, c < 54 → τ.1 76 c = 0) (m22 : τ.1 64 22 = 0) : ∃ u σ' τ', f_Tl_tell σ = some (u, σ') ∧ (hm_chain τ).bind (fun x => hl_lp f_M_text_L120 hl_big x) = some τ' ∧ hp_fr hx_TD σ σ' ∧ hp_fr hm_TD τ τ' ∧ ((∃ s G P, 1 ≤ s ∧ s ≤ 70 ∧ u = nI s ∧ τ'.1 64 29 = nI s ∧ q_ok n b σ' τ' ∧ q_D G P σ' τ') ∨ (u = -1 ∧ q_no σ' τ')) := by
  have F0 : hp_fr hx_TD σ (hl_si (f_Gr_clear_d σ) 24 2 0) := by
    unfold f_Gr_clear_d
    exact ((((((hp_fr.rf.si (.inr ⟨by omega, by omega⟩)).si (.inr ⟨by omega, by omega⟩)).sl (.inr ⟨by omega, by omega⟩)).si (.inr ⟨by omega, by omega⟩)).si (.inr ⟨by omega, by omega⟩)).si (.inr ⟨by omega, by omega⟩)).si (.inr ⟨by omega, by omega⟩)
  have T0 : hx_t n b (hl_si (f_Gr_clear_d σ) 24 2 0) := T.fr F0 (by unfold hx_TD; omega) (fun k => by unfold hx_TD; omega)
  obtain ⟨σ1, a1, a2, a3⟩ := hx_begin T0 h5 h2 h4 h6
  have T1 : hx_t n b σ1 := T0.fr a2 (by unfold hx_FD; omega) (fun k => by unfold hx_FD; omega)
  have F1 : hp_fr hx_TD σ σ1 := F0.tr (a2.mono hx_FD_TD)
  have tail : ∀ x : Int32 × hl_M, (if x.1 = 0 then f_Tl_tell_j202 x.1 (f_Rd_fail 1 (x.2.1 3 2) x.2) else if (x.2.1 3 1) = 0 then f_Tl_tell_j202 x.1 x.2 else f_Tl_tell_j202 x.1 (f_Rd_fail 5 (x.2.1 3 2) x.2)) = hx_tail x := fun x => rfl
  unfold f_Tl_tell
  rw [a1, Option.bind_some]
  simp only [tail]
  by_cases e0 : σ1.1 3 1 = 0
  · have bd : f_Tl_tell_L21 (0, σ1) = some (.inr (0, σ1)) := by
      unfold f_Tl_tell_L21
      dsimp only
      rw [if_neg (by decide), if_pos (hx_failed0 a3.x.1), if_pos e0]
    obtain ⟨σ2, τ2, b1, b2, b3, b4, b5⟩ := q_want (j := 0) (v := 66) (W := hp_W 0) (by decide +kernel) (KK 0 (by omega)) (hp_WL (by omega)) (by omega) T1 R (.inl a3)
    have e2 : σ2 = f_Rd_fail 1 (σ1.1 3 2) σ1 := by
      unfold f_Rd_wantWord f_Rd_isWord at b1
      rw [e0, if_neg (by decide), Option.bind_some, if_pos rfl] at b1
      exact (Option.some.inj b1).symm
    have no2 : q_no σ2 τ2 := by
      rcases b5 with h | h
      · exfalso
        have := (q_fail0 (σ := σ1) (τ := τ) (f := 1) (p := σ1.1 3 2) a3.x.1 h5 (by decide)).1.1
        rw [← e2] at this
        exact this h.x.1
      · exact h
    have z2 := no2.x.2
    have z3 : ¬ (hl_si τ2 64 20 0).1 64 5 = 0 := by rw [hp_sn (by omega)]; exact z2
    have z4 : ¬ (hl_si (hl_si τ2 64 20 0) 64 21 0).1 64 5 = 0 := by rw [hp_sn (by omega)]; exact z3
    have z5 : ¬ (hl_si (hl_si (hl_si τ2 64 20 0) 64 21 0) 64 29 1).1 64 5 = 0 := by rw [hp_sn (by omega)]; exact z4
    have ch : hm_chain τ = some (hl_si (hl_si (hl_si τ2 64 20 0) 64 21 0) 64 29 1) := by
      unfold hm_chain
      rw [b2, Option.bind_some, hm_num_no z2, Option.bind_some, hm_num_no z3, Option.bind_some, hm_sign_no z4, Option.bind_some]
    have bm : f_M_text_L120 (hl_si (hl_si (hl_si τ2 64 20 0) 64 21 0) 64 29 1) = some (.inr (hl_si (hl_si (hl_si τ2 64 20 0) 64 21 0) 64 29 1)) := by
      unfold f_M_text_L120
      rw [if_neg z5]
    have tl : hx_tail (0, σ1) = some (-1, σ2) := by
      unfold hx_tail f_Tl_tell_j202
      dsimp only
      rw [if_pos rfl, ← e2, hx_failed1 no2.x.1, if_neg (show ¬ (1 : Int32) = 0 by decide)]
    rw [hp_lpe _ bd, Option.bind_some, tl, ch, Option.bind_some, hp_lpe _ bm]
    exact ⟨_, _, _, rfl, rfl, F1.tr (b3.mono hx_FD_TD), (((b4.mono hm_FD_TD).si (.inr (.inl ⟨rfl, by omega⟩))).si (.inr (.inl ⟨rfl, by omega⟩))).si (.inr (.inl ⟨rfl, by omega⟩)), .inr ⟨rfl, no2.fr (fun f hf => rfl) (fun f hf => by rw [hp_sn (by omega), hp_sn (by omega), hp_sn (by omega)])⟩⟩
  · have c14 : ∀ q f, ¬ hx_FD q f → σ1.1 q f = (hl_si (f_Gr_clear_d σ) 24 2 0).1 q f := fun q f h => a2.i h
    obtain ⟨σ2, τ2, s1, s2, s3, s4, s5, s6⟩ := q_first KK T1 R a3 (by rw [c14 _ _ (by unfold hx_FD; omega), hp_sn (by omega)]; rfl) (by rw [c14 _ _ (by unfold hx_FD; omega), hp_sn (by omega)]; rfl) (by rw [c14 _ _ (by unfold hx_FD; omega), hp_sn (by omega)]; rfl) (by rw [a2.l (by unfold hx_FD; omega)]; rfl) (by rw [c14 _ _ (by unfold hx_FD; omega), hp_s01]) m0 m76 m22
    have bd : f_Tl_tell_L21 (0, σ1) = some (.inl (nI 1, σ2)) := by
      unfold f_Tl_tell_L21
      dsimp only
      rw [if_neg (by decide), if_pos (hx_failed0 a3.x.1), if_neg e0, if_pos rfl, s1]
      rfl
    have ch : hm_chain τ = some τ2 := s2
    obtain ⟨e, τ', l1, l2, u, σ', g1, g2, g3, g4⟩ := q_tellLoop (KK.fr s4 (fun q f h => by unfold hm_TD hm_FD at h; omega)) (T1.fr s3 (by unfold hx_TD; omega) (fun k => by unfold hx_TD; omega)) (R.fr s4 (by unfold hm_TD hm_FD; omega) (fun k => by unfold hm_TD hm_FD; omega)) s6 s5
    have lx : hl_lp f_Tl_tell_L21 hl_big (0, σ1) = some e := (hl_lp_s (n := 999999) bd).trans (l1 999999 (by omega))
    have lm : hl_lp f_M_text_L120 hl_big τ2 = some τ' := l2 1000000 (by omega)
    rw [lx, Option.bind_some, g1, ch, Option.bind_some, lm]
    exact ⟨_, _, _, rfl, rfl, (F1.tr s3).tr g2, s4.tr g3, g4⟩
end TLG
