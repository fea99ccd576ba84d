/-! the told half stands -/
def hm_SD (q f : Nat) : Prop := (q = 64 ∧ (f = 30 ∨ f = 31 ∨ f = 50 ∨ f = 47)) ∨ (q = 75 ∧ 3 ≤ f) ∨ (q = 76 ∧ 54 ≤ f) ∨ (q = 77 ∧ 20 ≤ f) ∨ (q = 80 ∧ 20 ≤ f) ∨ (q = 78 ∧ 150 ≤ f) ∨ (q = 79 ∧ 432 ≤ f) ∨ q = 81 ∨ q = 82 ∨ q = 83
section STD
variable {G P : hp_G} {σ τ υ : hl_M} {c : Nat}
/-- the copies -/
theorem hm_copies (D : q_D G P σ τ) : ∃ τ5, (∀ F : hl_M → Option hl_M, ((hl_lp (f_M_stands_L18) hl_big ((0, hl_si (hl_si τ 64 30 (τ.1 64 20)) 64 31 ((hl_si τ 64 30 (τ.1 64 20)).1 64 21)))).bind fun x1 => (hl_lp (f_M_stands_L45) hl_big ((0, x1))).bind fun x2 => (hl_lp (f_M_stands_L74) hl_big ((0, x2))).bind fun x3 => (hl_lp (f_M_stands_L118) hl_big ((0, x3))).bind fun x4 => (hl_lp (f_M_stands_L149) hl_big ((0, x4))).bind F) = F τ5) ∧ hm0 G P τ5 ∧ hp_fr hm_SD τ τ5 := by
  obtain ⟨wg, wp, w3, xg, xp, ⟨⟨y1, y2, y3, y4, y5⟩, y6, y7, y8, y9⟩, mp⟩ := D
  have hnp := wg.np
  have hnw := wg.nw
  have hnh := wg.nh
  have F0 : hp_fr hm_SD τ (hl_si (hl_si τ 64 30 (τ.1 64 20)) 64 31 ((hl_si τ 64 30 (τ.1 64 20)).1 64 21)) := (hp_fr.rf.si (.inl ⟨rfl, by omega⟩)).si (.inl ⟨rfl, by omega⟩)
  have v30 : (hl_si (hl_si τ 64 30 (τ.1 64 20)) 64 31 ((hl_si τ 64 30 (τ.1 64 20)).1 64 21)).1 64 30 = nI (G 0 0) := by rw [hp_sn (by omega), hp_s01]; exact y1
  have v31 : (hl_si (hl_si τ 64 30 (τ.1 64 20)) 64 31 ((hl_si τ 64 30 (τ.1 64 20)).1 64 21)).1 64 31 = nI (G 0 1) := by rw [hp_s01, hp_sn (by omega)]; exact y2
  generalize hl_si (hl_si τ 64 30 (τ.1 64 20)) 64 31 ((hl_si τ 64 30 (τ.1 64 20)).1 64 21) = τ0 at F0 v30 v31 ⊢
  obtain ⟨τ1, a1, a2, a3⟩ := hm_copy18 (τ := τ0)
  have F1 : hp_fr hm_SD τ τ1 := F0.tr (a2.mono (fun q f h => .inr (.inl ⟨h.1, h.2.1⟩)))
  obtain ⟨τ2, b1, b2, b3⟩ := hm_copy45 (τ := τ1) (fun c hc => by
    rw [F1.i (by unfold hm_SD; omega)]
    have h := y6 c hc
    rw [Nat.mul_zero, Nat.zero_add] at h
    have := wg.wall c
    rw [h]
    rcases (show G 1 c = 0 ∨ G 1 c = 1 by omega) with e | e <;> rw [e]
    · exact .inl rfl
    · exact .inr rfl)
  have F2 : hp_fr hm_SD τ τ2 := F1.tr (b2.mono (fun q f h => .inr (.inr (.inl ⟨h.1, h.2.1⟩))))
  obtain ⟨τ3, c1, c2, c3⟩ := hm_copy74 (τ := τ2)
  have F3 : hp_fr hm_SD τ τ3 := F2.tr (c2.mono (fun q f h => by unfold hm_SD; omega))
  obtain ⟨τ4, d1, d2, d3⟩ := hm_copy118 (τ := τ3)
  have F4 : hp_fr hm_SD τ τ4 := F3.tr (d2.mono (fun q f h => by unfold hm_SD; omega))
  obtain ⟨τ5, e1, e2, e3⟩ := hm_copy149 (τ := τ4)
  have F5 : hp_fr hm_SD τ τ5 := F4.tr (e2.mono (fun q f h => by unfold hm_SD; omega))
  refine ⟨τ5, fun F => by rw [a1, Option.bind_some, b1, Option.bind_some, c1, Option.bind_some, d1, Option.bind_some, e1, Option.bind_some], ⟨wg, wp, ⟨⟨?_, ?_, ?_, ?_, ?_⟩, ?_, ?_, ?_, ?_⟩, ?_⟩, F5⟩
  · rw [e2.i (by omega), d2.i (by omega), c2.i (by omega), b2.i (by omega), a2.i (by omega)]; exact v30
  · rw [e2.i (by omega), d2.i (by omega), c2.i (by omega), b2.i (by omega), a2.i (by omega)]; exact v31
  · rw [e2.i (by omega), d2.i (by omega), c2.i (by omega), b2.i (by omega), show 3 * 1 = 3 + 0 by omega, a3 0 (by omega), F0.i (by unfold hm_SD; omega)]; exact y3
  · rw [e2.i (by omega), d2.i (by omega), c2.i (by omega), b2.i (by omega), show 3 * 1 + 1 = 3 + 1 by omega, a3 1 (by omega), F0.i (by unfold hm_SD; omega)]; exact y4
  · rw [e2.i (by omega), d2.i (by omega), c2.i (by omega), b2.i (by omega), show 3 * 1 + 2 = 3 + 2 by omega, a3 2 (by omega), F0.i (by unfold hm_SD; omega)]; exact y5
  · intro c hc
    rw [e2.i (by omega), d2.i (by omega), c2.i (by omega), show 54 * 1 + c = 54 + c by omega, b3 c hc, F1.i (by unfold hm_SD; omega)]
    have h := y6 c hc
    rw [Nat.mul_zero, Nat.zero_add] at h
    exact h
  · intro p hp
    rw [e2.l (by omega), d2.l (by omega), show 20 * 1 + p = 20 + p by omega, (c3 p (by omega)).1, F2.l (by unfold hm_SD; omega)]
    have h := y7 p hp
    rw [Nat.mul_zero, Nat.zero_add] at h
    exact h
  · intro w hw
    have h := y8 w hw
    refine ⟨?_, fun c hc => ?_⟩
    · rw [e2.l (by omega), d2.l (by omega), show 20 * 1 + 10 + w = 20 + (10 + w) by omega, (c3 (10 + w) (by omega)).1, F2.l (by unfold hm_SD; omega)]
      have h1 := h.1
      rw [Nat.mul_zero, Nat.zero_add] at h1
      exact h1
    · rw [show 432 * 1 + 54 * w + c = 432 + (54 * w + c) by omega, e3 _ (by omega), F4.i (by unfold hm_SD; omega)]
      have h1 := h.2 c hc
      rw [Nat.mul_zero, Nat.zero_add] at h1
      exact h1
  · intro i hi
    have h := y9 i hi
    rw [Nat.mul_zero, Nat.zero_add] at h
    rw [e2.i (by omega), d2.i (by omega), e2.i (by omega), d2.i (by omega), show 20 * 1 + 2 * i = 20 + 2 * i by omega, show 20 + 2 * i + 1 = 20 + (2 * i + 1) by omega, (c3 (2 * i) (by omega)).2, (c3 (2 * i + 1) (by omega)).2, F2.i (by unfold hm_SD; omega), F2.i (by unfold hm_SD; omega)]
    exact h
  · intro p hp
    obtain ⟨h1, h2, h3, h4⟩ := mp p hp
    have h12 := (wp p hp).2.2.1
    refine ⟨?_, ?_, ?_, fun k hk => ?_⟩
    · rw [e2.i (by omega), show 150 + 15 * p = 150 + (0 + 15 * p) by omega, d3 _ (by omega), F3.i (by unfold hm_SD; omega)]; exact h1
    · rw [e2.i (by omega), show 150 + 1 + 15 * p = 150 + (0 + 1 + 15 * p) by omega, d3 _ (by omega), F3.i (by unfold hm_SD; omega)]; exact h2
    · rw [e2.i (by omega), show 150 + 2 + 15 * p = 150 + (0 + 2 + 15 * p) by omega, d3 _ (by omega), F3.i (by unfold hm_SD; omega)]; exact h3
    · have h5 := h4 k hk
      rw [e2.i (by omega), show 150 + 3 + 15 * p + k = 150 + (0 + 3 + 15 * p + k) by omega, d3 _ (by omega), F3.i (by unfold hm_SD; omega)]; exact h5
end STD
