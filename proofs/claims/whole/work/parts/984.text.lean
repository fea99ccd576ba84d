/-! text, both in step -/
def q_f (σ τ : hl_M) : Prop := σ.1 3 4 = τ.1 64 7 ∧ σ.1 3 5 = τ.1 64 8
def hx_XD (q f : Nat) : Prop := (q = 0 ∧ f = 11) ∨ (q = 1 ∧ f = 1) ∨ (3 ≤ q ∧ q ≤ 36) ∨ (q = 58 ∧ f = 3)
def hm_XD (q f : Nat) : Prop := (q = 64 ∧ (f ≤ 34 ∨ f = 47 ∨ f = 50)) ∨ (75 ≤ q ∧ q ≤ 83)
def hm_beg (τ : hl_M) : hl_M := hl_si (hl_si (hl_si (hl_si (hl_si (hl_si τ 64 3 (τ.1 64 1)) 64 1 0) 64 2 0) 64 4 (-1)) 64 5 0) 64 6 (-1)
def hm_fin (x10 : hl_M) : Option (Int32 × hl_M) :=
  if ((hl_si (hl_si x10 64 7 (x10.1 64 5)) 64 8 ((hl_si x10 64 7 (x10.1 64 5)).1 64 6)).1 64 5) = 0 then
  (f_M_stands (hl_si (hl_si x10 64 7 (x10.1 64 5)) 64 8 ((hl_si x10 64 7 (x10.1 64 5)).1 64 6))).bind fun x11 =>
  some ((x11.1 64 29, x11)) else
  some (((-1), hl_si (hl_si x10 64 7 (x10.1 64 5)) 64 8 ((hl_si x10 64 7 (x10.1 64 5)).1 64 6)))
section TXT
variable {G P : hp_G} {σ τ σ' τ' σ1 τ1 υ : hl_M} {L : List hp_G} {ds : Nat → Nat → Nat} {n m pt : Nat} {b pic : Nat → Nat}
theorem q_fault (F : q_f σ τ) (v : Int32) : f_X_fault v σ = f_M_fault v τ := by
  unfold f_X_fault f_M_fault
  rw [F.1, F.2]
theorem hm_beg_f : hp_fr (fun q f => q = 64 ∧ f ≤ 6) τ (hm_beg τ) := (((((hp_fr.rf.si ⟨rfl, by omega⟩).si ⟨rfl, by omega⟩).si ⟨rfl, by omega⟩).si ⟨rfl, by omega⟩).si ⟨rfl, by omega⟩).si ⟨rfl, by omega⟩
theorem hm_beg_v : (hm_beg τ).1 64 3 = τ.1 64 1 ∧ (hm_beg τ).1 64 1 = 0 ∧ (hm_beg τ).1 64 2 = 0 ∧ (hm_beg τ).1 64 4 = -1 ∧ (hm_beg τ).1 64 5 = 0 ∧ (hm_beg τ).1 64 6 = -1 := by
  unfold hm_beg
  refine ⟨?_, ?_, ?_, ?_, ?_, ?_⟩ <;> simp (disch := omega) only [hp_sn, hp_s01]
theorem q_D.any (D : q_D G P σ τ) (FX : hp_fr (fun q _ => q < 14) σ σ') (FM : hp_fr (fun q f => q = 64 ∧ (f = 7 ∨ f = 8)) τ τ') : q_D G P σ' τ' := by
  obtain ⟨wg, wp, w3, xg, xp, ⟨⟨a1, a2, a3, a4, a5⟩, a6, a7, a8, a9⟩, mp⟩ := D
  have e : ∀ i, i ≤ 9 → σ'.1 (14 + i) = σ.1 (14 + i) ∧ σ'.2 (14 + i) = σ.2 (14 + i) := fun i hi => ⟨funext fun f => FX.i (by omega), funext fun f => FX.l (by omega)⟩
  refine ⟨wg, wp, w3, xg.cong e, xp.cong e, ⟨⟨?_, ?_, ?_, ?_, ?_⟩, fun c hc => ?_, fun p hp => ?_, fun w hw => ⟨?_, fun c hc => ?_⟩, fun i hi => ⟨?_, ?_⟩⟩, fun p hp => ⟨?_, ?_, ?_, fun k hk => ?_⟩⟩
  · rw [FM.i (by omega)]; exact a1
  · rw [FM.i (by omega)]; exact a2
  · rw [FM.i (by omega)]; exact a3
  · rw [FM.i (by omega)]; exact a4
  · rw [FM.i (by omega)]; exact a5
  · rw [FM.i (by omega)]; exact a6 c hc
  · rw [FM.l (by omega)]; exact a7 p hp
  · rw [FM.l (by omega)]; exact (a8 w hw).1
  · rw [FM.i (by omega)]; exact (a8 w hw).2 c hc
  · rw [FM.i (by omega)]; exact (a9 i hi).1
  · rw [FM.i (by omega)]; exact (a9 i hi).2
  · rw [FM.i (by omega)]; exact (mp p hp).1
  · rw [FM.i (by omega)]; exact (mp p hp).2.1
  · rw [FM.i (by omega)]; exact (mp p hp).2.2.1
  · rw [FM.i (by omega)]; exact (mp p hp).2.2.2 k hk
theorem hm_d.fr {D : Nat → Nat → Prop} (E : hm_d G ds τ) (F : hp_fr D τ υ) (hD : ∀ q f, D q f → q ≠ 81) : hm_d G ds υ := fun a ha c hc => by rw [F.i (fun z => hD _ _ z rfl)]; exact E a ha c hc
def hm_TE (q f : Nat) : Prop := hm_TD q f ∨ (q = 64 ∧ f ≤ 8)
theorem hm_TE_XD : ∀ q f, hm_TE q f → hm_XD q f := fun q f h => by unfold hm_TE hm_TD hm_FD at h; unfold hm_XD; omega
/-- the model's text: its beginning, its telling, its end -/
theorem hm_text (KK : hm_k τ) (U : hm_t n b τ) : ∃ τ3, f_M_text τ = ((hm_chain τ3).bind (fun x => hl_lp f_M_text_L120 hl_big x)).bind hm_fin ∧ hp_fr hm_TE τ τ3 ∧ hm_r n b τ3 ∧ τ3.1 64 5 = 0 ∧ τ3.1 64 2 = 0 ∧ τ3.1 64 4 = -1 ∧ τ3.1 64 6 = -1 ∧ (∀ c, c < 3 → τ3.1 75 c = 0) ∧ (∀ c, c < 54 → τ3.1 76 c = 0) ∧ τ3.1 64 22 = 0 ∧ τ3.1 64 1 = 0 ∧ hm_k τ3 := by
  obtain ⟨v3, v1, v2, v4, v5, v6⟩ := hm_beg_v (τ := τ)
  have F0 : hp_fr (fun q f => q = 64 ∧ (f ≤ 6 ∨ f = 22)) τ (hl_si (hm_beg τ) 64 22 0) := (hm_beg_f.mono (fun q f h => ⟨h.1, .inl h.2⟩)).si ⟨rfl, .inr rfl⟩
  obtain ⟨τ2, a1, a2, a3⟩ := hm_clear3 (τ := hl_si (hm_beg τ) 64 22 0)
  obtain ⟨τ3, b1, b2, b3⟩ := hm_clear54 (τ := τ2)
  have e : ∀ f, τ3.1 64 f = (hl_si (hm_beg τ) 64 22 0).1 64 f := fun f => by rw [b2.i (by omega), a2.i (by omega)]
  have F3 : hp_fr hm_TE τ τ3 := ((F0.mono (fun q f h => by unfold hm_TE hm_TD; omega)).tr (a2.mono (fun q f h => by unfold hm_TE hm_TD; omega))).tr (b2.mono (fun q f h => by unfold hm_TE hm_TD; omega))
  refine ⟨τ3, ?_, F3, ⟨U.1, ?_, fun k hk => ⟨(U.2.2 k hk).1, ?_⟩⟩, ?_, ?_, ?_, ?_, fun c hc => ?_, b3, ?_, ?_, ?_⟩
  · unfold f_M_text
    rw [hp_let]
    show (hl_lp f_M_text_L40 hl_big (0, hl_si (hm_beg τ) 64 22 0)).bind _ = _
    rw [a1, Option.bind_some, b1, Option.bind_some]
    simp only [hm_chain, Option.bind_assoc, Option.bind_some]
    rfl
  · rw [e, hp_sn (by omega), v3]; exact U.2.1
  · rw [F3.i (by unfold hm_TE hm_TD hm_FD; omega)]; exact (U.2.2 k hk).2
  · rw [e, hp_sn (by omega)]; exact v5
  · rw [e, hp_sn (by omega)]; exact v2
  · rw [e, hp_sn (by omega)]; exact v4
  · rw [e, hp_sn (by omega)]; exact v6
  · rw [b2.i (by omega)]; exact a3 c hc
  · rw [e, hp_s01]
  · rw [e, hp_sn (by omega)]; exact v1
  · exact KK.fr F3 (fun q f h => by unfold hm_TE hm_TD hm_FD at h; omega)
theorem q_text (H : hx G P σ) (A : hx_a G P L σ) (T : hx_t n b σ) (X : hx_pc pt pic σ) (KK : hm_k τ) (K : hm G P τ) (B : hm_a G L τ) (U : hm_t n b τ) (M : hm_pc G pt pic τ) (D : hp_DS G ds) (E : hm_d G ds τ) : ∃ r σ' τ' G' P' L' pt' ds', f_X_text σ = some (r, σ') ∧ hp_fr hx_XD σ σ' ∧ f_M_text τ = some (r, τ') ∧ hp_fr hm_XD τ τ' ∧ hx G' P' σ' ∧ hx_a G' P' L' σ' ∧ hx_t 0 b σ' ∧ hx_pc pt' pic σ' ∧ hm G' P' τ' ∧ hm_a G' L' τ' ∧ hm_t 0 b τ' ∧ hm_pc G' pt' pic τ' ∧ hp_DS G' ds' ∧ hm_d G' ds' τ' ∧ q_f σ' τ' := by
  obtain ⟨τ3, a1, F3, R3, h5, h2, h4, h6, m0, m76, m22, m1, K3⟩ := hm_text KK U
  obtain ⟨u, σ1, τ1, c1, c2, c3, c4, c5⟩ := q_telling K3 T R3 h5 h2 h4 h6 m0 m76 m22
  have FM1 : hp_fr hm_TE τ τ1 := F3.tr (c4.mono (fun q f h => .inl h))
  have e1 : τ1.1 64 1 = 0 := by rw [c4.i (by unfold hm_TD hm_FD; omega)]; exact m1
  have FX1 : hp_fr hx_XD σ (hl_si σ1 1 1 0) := (c3.mono (fun q f h => by unfold hx_TD at h; unfold hx_XD; omega)).si (.inr (.inl ⟨rfl, rfl⟩))
  have T1 : hx_t 0 b (hl_si σ1 1 1 0) := ⟨Nat.zero_le _, hp_s01, fun k hk => absurd hk (Nat.not_lt_zero k)⟩
  have F7 : hp_fr (fun q f => q = 64 ∧ (f = 7 ∨ f = 8)) τ1 (hl_si (hl_si τ1 64 7 (τ1.1 64 5)) 64 8 ((hl_si τ1 64 7 (τ1.1 64 5)).1 64 6)) := (hp_fr.rf.si ⟨rfl, by omega⟩).si ⟨rfl, by omega⟩
  have g7 : (hl_si (hl_si τ1 64 7 (τ1.1 64 5)) 64 8 ((hl_si τ1 64 7 (τ1.1 64 5)).1 64 6)).1 64 7 = τ1.1 64 5 := by rw [hp_sn (by omega), hp_s01]
  have g8 : (hl_si (hl_si τ1 64 7 (τ1.1 64 5)) 64 8 ((hl_si τ1 64 7 (τ1.1 64 5)).1 64 6)).1 64 8 = τ1.1 64 6 := by rw [hp_s01, hp_sn (by omega)]
  have FM2 : hp_fr hm_TE τ (hl_si (hl_si τ1 64 7 (τ1.1 64 5)) 64 8 ((hl_si τ1 64 7 (τ1.1 64 5)).1 64 6)) := FM1.tr (F7.mono (fun q f h => by unfold hm_TE; omega))
  have fin : ((hm_chain τ3).bind (fun x => hl_lp f_M_text_L120 hl_big x)).bind hm_fin = hm_fin τ1 := by rw [c2, Option.bind_some]
  have xt : f_X_text σ = if u = -1 then some (-1, hl_si σ1 1 1 0) else (f_Gr_become (hl_si σ1 1 1 0)).bind fun x2 => (f_Wk_retraceAll x2).bind fun x3 => some (u, hl_si (hl_si x3 58 3 0) 0 11 0) := by
    unfold f_X_text
    rw [c1, Option.bind_some]
  rw [a1, fin, xt]
  unfold hm_fin
  rcases c5 with ⟨s, Gn, Pn, s1, s70, rfl, h29, ok, Dn⟩ | ⟨rfl, no⟩
  · have D1 : q_D Gn Pn (hl_si σ1 1 1 0) (hl_si (hl_si τ1 64 7 (τ1.1 64 5)) 64 8 ((hl_si τ1 64 7 (τ1.1 64 5)).1 64 6)) := Dn.any (hp_fr.rf.si (by omega)) F7
    obtain ⟨σ2, d1, d2, d3⟩ := hx_become D1
    obtain ⟨σ3, r1, r2, r3⟩ := hx_retraceAll d2
    obtain ⟨τ8, dn, p1, p2, p3, p4, p5, p6, p7⟩ := hm_stands D1
    have H3 : hx Gn Pn σ3 := by
      obtain ⟨q1, q2, q3, q4⟩ := d2.fr r3 (fun q f h => by omega)
      exact ⟨q1, q2, q3, q4, r2⟩
    have FF : hp_fr (fun q _ => q = 58 ∨ q = 0) σ3 (hl_si (hl_si σ3 58 3 0) 0 11 0) := (hp_fr.rf.si (.inl rfl)).si (.inr rfl)
    have n1 : ¬ nI s = -1 := hl_nm1 (by omega)
    have z5 : (hl_si (hl_si τ1 64 7 (τ1.1 64 5)) 64 8 ((hl_si τ1 64 7 (τ1.1 64 5)).1 64 6)).1 64 5 = 0 := by rw [F7.i (by omega)]; exact ok.x.2
    have FXX : hp_fr hx_XD σ (hl_si (hl_si σ3 58 3 0) 0 11 0) := (((FX1.tr (d3.mono (fun q f h => by unfold hx_XD; omega))).tr (r3.mono (fun q f h => by unfold hx_XD; omega))).si (by unfold hx_XD; omega)).si (by unfold hx_XD; omega)
    have x3 : ∀ f, (hl_si (hl_si σ3 58 3 0) 0 11 0).1 3 f = σ1.1 3 f := fun f => by rw [hp_sn (by omega), hp_sn (by omega), r3.i (by omega), d3.i (by omega), hp_sn (by omega)]
    have FMX : hp_fr hm_XD τ τ8 := (FM2.mono hm_TE_XD).tr (p7.mono (fun q f h => by unfold hm_SD at h; unfold hm_XD; omega))
    rw [if_neg n1, d1, Option.bind_some, r1, Option.bind_some, if_pos z5, p1, Option.bind_some]
    have e29 : τ8.1 64 29 = nI s := by rw [p7.i (by unfold hm_SD; omega), F7.i (by omega)]; exact h29
    rw [e29]
    obtain ⟨B1, B2, z, B3, B4, B5⟩ := B
    refine ⟨_, _, _, Gn, Pn, [], 0, dn, rfl, FXX, rfl, FMX, H3.fr FF (fun q f h => by omega), ⟨?_, Nat.zero_le _, trivial⟩, ⟨Nat.zero_le _, ?_, fun k hk => absurd hk (Nat.not_lt_zero k)⟩, ⟨Nat.zero_le _, hp_s01, fun h => absurd h (by decide)⟩, p2, ⟨Nat.zero_le _, p5, z, B3, ?_, fun i hi => absurd hi (Nat.not_lt_zero i)⟩, ⟨Nat.zero_le _, ?_, fun k hk => absurd hk (Nat.not_lt_zero k)⟩, ⟨p6, fun h => absurd h (by decide)⟩, p3, p4, ?_, ?_⟩
    · rw [hp_sn (by omega), hp_s01]; rfl
    · rw [hp_sn (by omega), hp_sn (by omega), r3.i (by omega), d3.i (by omega), hp_s01]; rfl
    · rw [FMX.i (by unfold hm_XD; omega)]; exact B4
    · rw [p7.i (by unfold hm_SD; omega), F7.i (by omega)]; exact e1
    · rw [x3, ok.x.1, p7.i (by unfold hm_SD; omega), g7, ok.x.2]
    · rw [x3, ok.n5.1, p7.i (by unfold hm_SD; omega), g8, ok.n5.2]
  · have z5 : ¬ (hl_si (hl_si τ1 64 7 (τ1.1 64 5)) 64 8 ((hl_si τ1 64 7 (τ1.1 64 5)).1 64 6)).1 64 5 = 0 := by rw [F7.i (by omega)]; exact no.x.2
    have FX0 : hp_fr (fun q f => q = 3 ∨ (14 ≤ q ∧ q ≤ 24) ∨ (q = 1 ∧ f = 1)) σ (hl_si σ1 1 1 0) := (c3.mono (fun q f h => by unfold hx_TD at h; omega)).si (.inr (.inr ⟨rfl, rfl⟩))
    rw [if_pos rfl, if_neg z5]
    refine ⟨_, _, _, G, P, L, pt, ds, rfl, FX1, rfl, FM2.mono hm_TE_XD, H.fr FX0 (fun q f h => by omega), A.fr FX0 (fun q f h => by omega), T1, X.fr FX0 (fun q f h => by omega), K.fr FM2 (fun q f h => by unfold hm_TE hm_TD hm_FD at h; unfold hm_dep; omega), B.fr H.wg (hx_as.wp A.2.2) FM2 (fun q f h => by unfold hm_TE hm_TD hm_FD at h; unfold hm_K; omega), ⟨Nat.zero_le _, ?_, fun k hk => absurd hk (Nat.not_lt_zero k)⟩, M.fr FM2 (fun q f h => by unfold hm_TE hm_TD hm_FD at h; omega), D, E.fr FM2 (fun q f h => by unfold hm_TE hm_TD hm_FD at h; omega), ?_, ?_⟩
    · rw [F7.i (by omega)]; exact e1
    · rw [hp_sn (by omega), g7, no.2.1]
    · rw [hp_sn (by omega), g8, no.2.2.2]
end TXT
