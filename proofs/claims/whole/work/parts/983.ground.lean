/-! the draft becomes the ground: the class, as a whole -/
section BEC2
variable {G P : hp_G} {σ τ υ : hl_M} {c N : Nat}
theorem hx_become (D : q_D G P σ τ) : ∃ σ', f_Gr_become σ = some σ' ∧ hx0 G P σ' ∧ hp_fr (fun q _ => 4 ≤ q ∧ q ≤ 13) σ σ' := by
  obtain ⟨wg, wp, w3, ⟨⟨x1, x2, x3, x4, x5⟩, x6, x7, x8, x9⟩, xp, -, -⟩ := D
  have hnp := wg.np
  have hnw := wg.nw
  have hnh := wg.nh
  unfold f_Gr_become
  rw [hp_let, hp_let]
  have rd14 : ∀ f, (hl_si (hl_si σ 4 0 (σ.1 14 0)) 4 1 ((hl_si σ 4 0 (σ.1 14 0)).1 14 1)).2 14 f = σ.2 14 f := fun f => rfl
  have FA : hp_fr (fun q _ => q = 4) σ (hl_sl (hl_si (hl_si σ 4 0 (σ.1 14 0)) 4 1 ((hl_si σ 4 0 (σ.1 14 0)).1 14 1)) 4 2 ((hl_si (hl_si σ 4 0 (σ.1 14 0)) 4 1 ((hl_si σ 4 0 (σ.1 14 0)).1 14 1)).2 14 2)) := ((hp_fr.rf.si (by exact rfl)).si (by exact rfl)).sl (by exact rfl)
  have vA0 : (hl_sl (hl_si (hl_si σ 4 0 (σ.1 14 0)) 4 1 ((hl_si σ 4 0 (σ.1 14 0)).1 14 1)) 4 2 ((hl_si (hl_si σ 4 0 (σ.1 14 0)) 4 1 ((hl_si σ 4 0 (σ.1 14 0)).1 14 1)).2 14 2)).1 4 0 = nI (G 0 0) := by rw [hp_s1, hp_sn (by omega), hp_s01]; exact x1
  have vA1 : (hl_sl (hl_si (hl_si σ 4 0 (σ.1 14 0)) 4 1 ((hl_si σ 4 0 (σ.1 14 0)).1 14 1)) 4 2 ((hl_si (hl_si σ 4 0 (σ.1 14 0)) 4 1 ((hl_si σ 4 0 (σ.1 14 0)).1 14 1)).2 14 2)).1 4 1 = nI (G 0 1) := by rw [hp_s1, hp_s01, hp_sn (by omega)]; exact x2
  have vA2 : (hl_sl (hl_si (hl_si σ 4 0 (σ.1 14 0)) 4 1 ((hl_si σ 4 0 (σ.1 14 0)).1 14 1)) 4 2 ((hl_si (hl_si σ 4 0 (σ.1 14 0)) 4 1 ((hl_si σ 4 0 (σ.1 14 0)).1 14 1)).2 14 2)).2 4 2 = σ.2 14 2 := by rw [hp_s11, hp_s2, hp_s2]
  generalize hl_sl (hl_si (hl_si σ 4 0 (σ.1 14 0)) 4 1 ((hl_si σ 4 0 (σ.1 14 0)).1 14 1)) 4 2 ((hl_si (hl_si σ 4 0 (σ.1 14 0)) 4 1 ((hl_si σ 4 0 (σ.1 14 0)).1 14 1)).2 14 2) = σ1 at FA vA0 vA1 vA2 ⊢
  have FB : hp_fr (fun q f => q = 4 ∧ (f = 3 ∨ f = 8 ∨ f = 12)) σ1 (hl_si (hl_si (hl_si σ1 4 3 (σ1.1 14 3)) 4 8 ((hl_si σ1 4 3 (σ1.1 14 3)).1 14 8)) 4 12 ((hl_si (hl_si σ1 4 3 (σ1.1 14 3)) 4 8 ((hl_si σ1 4 3 (σ1.1 14 3)).1 14 8)).1 14 12)) := ((hp_fr.rf.si ⟨rfl, by omega⟩).si ⟨rfl, by omega⟩).si ⟨rfl, by omega⟩
  have vB3 : (hl_si (hl_si (hl_si σ1 4 3 (σ1.1 14 3)) 4 8 ((hl_si σ1 4 3 (σ1.1 14 3)).1 14 8)) 4 12 ((hl_si (hl_si σ1 4 3 (σ1.1 14 3)) 4 8 ((hl_si σ1 4 3 (σ1.1 14 3)).1 14 8)).1 14 12)).1 4 3 = nI (G 0 2) := by rw [hp_sn (by omega), hp_sn (by omega), hp_s01, FA.i (by omega)]; exact x3
  have vB8 : (hl_si (hl_si (hl_si σ1 4 3 (σ1.1 14 3)) 4 8 ((hl_si σ1 4 3 (σ1.1 14 3)).1 14 8)) 4 12 ((hl_si (hl_si σ1 4 3 (σ1.1 14 3)) 4 8 ((hl_si σ1 4 3 (σ1.1 14 3)).1 14 8)).1 14 12)).1 4 8 = nI (G 0 3) := by rw [hp_sn (by omega), hp_s01, hp_sn (by omega), FA.i (by omega)]; exact x4
  have vB12 : (hl_si (hl_si (hl_si σ1 4 3 (σ1.1 14 3)) 4 8 ((hl_si σ1 4 3 (σ1.1 14 3)).1 14 8)) 4 12 ((hl_si (hl_si σ1 4 3 (σ1.1 14 3)) 4 8 ((hl_si σ1 4 3 (σ1.1 14 3)).1 14 8)).1 14 12)).1 4 12 = nI (G 0 4) := by rw [hp_s01, hp_sn (by omega), hp_sn (by omega), FA.i (by omega)]; exact x5
  generalize hl_si (hl_si (hl_si σ1 4 3 (σ1.1 14 3)) 4 8 ((hl_si σ1 4 3 (σ1.1 14 3)).1 14 8)) 4 12 ((hl_si (hl_si σ1 4 3 (σ1.1 14 3)) 4 8 ((hl_si σ1 4 3 (σ1.1 14 3)).1 14 8)).1 14 12) = σ2 at FB vB3 vB8 vB12 ⊢
  obtain ⟨σ3, a1, a2, a3⟩ := hx_bec50 vB3 hnp
  obtain ⟨σ4, b1, b2, b3⟩ := hx_bec120 (σ := σ3) (by rw [a2.i (by omega)]; exact vB8) hnw
  obtain ⟨σ5, c1, c2, c3⟩ := hx_bec178 (σ := σ4) (by rw [b2.i (by omega), a2.i (by omega)]; exact vB12) hnh
  have F2 : hp_fr (fun q _ => q = 4) σ σ2 := FA.tr (FB.mono (fun q f h => h.1))
  have F3 : hp_fr (fun q _ => 4 ≤ q ∧ q ≤ 8) σ σ3 := (F2.mono (fun q f h => by omega)).tr (a2.mono (fun q f h => by omega))
  have F4 : hp_fr (fun q _ => 4 ≤ q ∧ q ≤ 11) σ σ4 := (F3.mono (fun q f h => by omega)).tr (b2.mono (fun q f h => by omega))
  have F5 : hp_fr (fun q _ => 4 ≤ q ∧ q ≤ 13) σ σ5 := (F4.mono (fun q f h => by omega)).tr (c2.mono (fun q f h => by omega))
  rw [a1, Option.bind_some, b1, Option.bind_some, c1, Option.bind_some]
  refine ⟨σ5, rfl, ⟨wg, wp, ⟨⟨?_, ?_, ?_, ?_, ?_⟩, ?_, fun p hp => ⟨?_, ?_⟩, fun w hw => ⟨?_, ?_, ?_⟩, fun h hh => ⟨?_, ?_⟩⟩, fun p hp => ⟨?_, ?_⟩⟩, F5⟩
  · rw [c2.i (by omega), b2.i (by omega), a2.i (by omega), FB.i (by omega)]; exact vA0
  · rw [c2.i (by omega), b2.i (by omega), a2.i (by omega), FB.i (by omega)]; exact vA1
  · rw [c2.i (by omega), b2.i (by omega), a2.i (by omega)]; exact vB3
  · rw [c2.i (by omega), b2.i (by omega), a2.i (by omega)]; exact vB8
  · rw [c2.i (by omega), b2.i (by omega), a2.i (by omega)]; exact vB12
  · rw [c2.l (by omega), b2.l (by omega), a2.l (by omega), FB.l (by omega), vA2]; exact x6
  · rw [c2.i (by omega), b2.i (by omega), (a3 p hp).1, F2.i (by omega)]; exact (x7 p hp).1
  · rw [c2.i (by omega), b2.i (by omega), (a3 p hp).2.1, F2.i (by omega)]; exact (x7 p hp).2
  · rw [c2.i (by omega), (b3 w hw).1, F3.i (by omega)]; exact (x8 w hw).1
  · rw [c2.l (by omega), (b3 w hw).2.1, F3.l (by omega)]; exact (x8 w hw).2.1
  · rw [c2.l (by omega), (b3 w hw).2.2, F3.l (by omega)]; exact (x8 w hw).2.2
  · rw [(c3 h hh).1, F4.i (by omega)]; exact (x9 h hh).1
  · rw [(c3 h hh).2, F4.i (by omega)]; exact (x9 h hh).2
  · rw [c2.i (by omega), b2.i (by omega), (a3 p hp).2.2.1, F2.i (by omega)]; exact (xp p hp).1
  · rw [c2.l (by omega), b2.l (by omega), (a3 p hp).2.2.2, F2.l (by omega)]; exact (xp p hp).2
end BEC2
