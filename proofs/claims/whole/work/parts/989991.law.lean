/-! the law: every round leaves both sides alike -/
section LAW
variable {X : hl_X} {σ : hl_M} {k : Nat}
set_option maxRecDepth 20000 in
set_option maxHeartbeats 4000000 in
theorem law_step (hX : X.1 ≤ 3072) (hN : 6 * k + 6 ≤ X.1) (R : hq_R σ σ) : ∃ σ', f_Law_law_L18 X (nI (6 * k), σ) = some (.inl (nI (6 * (k + 1)), σ')) ∧ hq_R σ' σ' := by
  have e6 : nI (6 * k) + 6 = nI (6 * (k + 1)) := by rw [show (6 : Int32) = nI 6 from rfl, nI_add]; rfl
  have b0 : hl_b (nI (6 * k)) X.1 := (hl_nIb (by omega)).mpr (by omega)
  have n0 : ¬ Int32.ofNat X.1 - 6 < nI (6 * k) := by
    have e : Int32.ofNat X.1 - 6 = nI (X.1 - 6) := hl_nsub (a := X.1) (b := 6) (by omega)
    rw [e]
    have q : nI (X.1 - 6) < nI (6 * k) ↔ X.1 - 6 < 6 * k := hl_lt (by omega) (by omega)
    exact fun z => by have := q.mp z; omega
  have b1 : hl_b (nI (6 * k) + 1) X.1 := by rw [show (1 : Int32) = nI 1 from rfl, nI_add]; exact (hl_nIb (by omega)).mpr (by omega)
  have b2 : hl_b (nI (6 * k) + 2) X.1 := by rw [show (2 : Int32) = nI 2 from rfl, nI_add]; exact (hl_nIb (by omega)).mpr (by omega)
  have b3 : hl_b (nI (6 * k) + 3) X.1 := by rw [show (3 : Int32) = nI 3 from rfl, nI_add]; exact (hl_nIb (by omega)).mpr (by omega)
  have b4 : hl_b (nI (6 * k) + 4) X.1 := by rw [show (4 : Int32) = nI 4 from rfl, nI_add]; exact (hl_nIb (by omega)).mpr (by omega)
  have b5 : hl_b (nI (6 * k) + 5) X.1 := by rw [show (5 : Int32) = nI 5 from rfl, nI_add]; exact (hl_nIb (by omega)).mpr (by omega)
  unfold f_Law_law_L18
  dsimp only
  rw [if_neg n0, if_pos b0]
  by_cases h0 : (X.2 (nI (6 * k)).toNatClampNeg) &&& 63 = 0
  · rw [if_pos h0]
    simp only [if_pos b1, if_pos b2, if_pos b3, if_pos b4, if_pos b5]
    obtain ⟨r, σ1, σ2, e1, e2, R2⟩ := (s_feed (X.2 (nI (6 * k) + 1).toNatClampNeg) (X.2 (nI (6 * k) + 2).toNatClampNeg) (X.2 (nI (6 * k) + 3).toNatClampNeg) (X.2 (nI (6 * k) + 4).toNatClampNeg) (X.2 (nI (6 * k) + 5).toNatClampNeg)).on R
    rw [e1, Option.bind_some]
    dsimp only
    rw [e2, Option.bind_some]
    dsimp only
    rw [if_pos rfl, e6]
    exact ⟨_, rfl, R2⟩
  rw [if_neg h0]
  by_cases h1 : (X.2 (nI (6 * k)).toNatClampNeg) &&& 63 = 1
  · rw [if_pos h1]
    simp only [if_pos b1]
    obtain ⟨r, σ1, σ2, e1, e2, R2⟩ := (s_end (X.2 (nI (6 * k) + 1).toNatClampNeg)).on R
    have e1 := Option.some.inj e1
    have e2 := Option.some.inj e2
    rw [e1]
    dsimp only
    rw [e2, if_pos rfl, e6]
    exact ⟨_, rfl, R2⟩
  rw [if_neg h1]
  by_cases h2 : (X.2 (nI (6 * k)).toNatClampNeg) &&& 63 = 2
  · rw [if_pos h2]
    obtain ⟨r, σ1, σ2, e1, e2, R2⟩ := s_text.on R
    rw [e1, Option.bind_some]
    dsimp only
    rw [e2, Option.bind_some]
    dsimp only
    rw [if_pos rfl, e6]
    exact ⟨_, rfl, R2⟩
  rw [if_neg h2]
  by_cases h3 : (X.2 (nI (6 * k)).toNatClampNeg) &&& 63 = 3
  · rw [if_pos h3]
    simp only [if_pos b1]
    rw [if_pos (s_fault R _), e6]
    exact ⟨_, rfl, R⟩
  rw [if_neg h3]
  by_cases h4 : (X.2 (nI (6 * k)).toNatClampNeg) &&& 63 = 4
  · rw [if_pos h4]
    simp only [if_pos b1]
    obtain ⟨r, σ1, e1, e2, R2⟩ := (s_ground (X.2 (nI (6 * k) + 1).toNatClampNeg)).on R
    rw [e1, Option.bind_some]
    dsimp only
    rw [e2, Option.bind_some, if_pos rfl, e6]
    exact ⟨_, rfl, R2⟩
  rw [if_neg h4]
  by_cases h5 : (X.2 (nI (6 * k)).toNatClampNeg) &&& 63 = 5
  · rw [if_pos h5]
    simp only [if_pos b1, if_pos b2, if_pos b3]
    obtain ⟨r, e1, e2⟩ := (s_letter (X.2 (nI (6 * k) + 1).toNatClampNeg) (X.2 (nI (6 * k) + 2).toNatClampNeg) (X.2 (nI (6 * k) + 3).toNatClampNeg)).on R
    rw [e1, Option.bind_some, e2, Option.bind_some, if_pos rfl, e6]
    exact ⟨_, rfl, R⟩
  rw [if_neg h5]
  by_cases h6 : (X.2 (nI (6 * k)).toNatClampNeg) &&& 63 = 6
  · rw [if_pos h6]
    simp only [if_pos b1, if_pos b2]
    obtain ⟨r, σ1, σ2, e1, e2, R2⟩ := (s_person (X.2 (nI (6 * k) + 1).toNatClampNeg) (X.2 (nI (6 * k) + 2).toNatClampNeg)).on R
    rw [e1, Option.bind_some]
    dsimp only
    rw [e2, Option.bind_some]
    dsimp only
    rw [if_pos rfl, e6]
    exact ⟨_, rfl, R2⟩
  rw [if_neg h6]
  by_cases h7 : (X.2 (nI (6 * k)).toNatClampNeg) &&& 63 = 7
  · rw [if_pos h7]
    simp only [if_pos b1, if_pos b2]
    obtain ⟨r, e1, e2⟩ := (s_word (X.2 (nI (6 * k) + 1).toNatClampNeg) (X.2 (nI (6 * k) + 2).toNatClampNeg)).on R
    rw [e1, Option.bind_some, e2, Option.bind_some, if_pos rfl, e6]
    exact ⟨_, rfl, R⟩
  rw [if_neg h7]
  by_cases h8 : (X.2 (nI (6 * k)).toNatClampNeg) &&& 63 = 8
  · rw [if_pos h8]
    simp only [if_pos b1, if_pos b2]
    obtain ⟨r, σ1, e1, e2, R2⟩ := (s_hymn (X.2 (nI (6 * k) + 1).toNatClampNeg) (X.2 (nI (6 * k) + 2).toNatClampNeg)).on R
    rw [e1, Option.bind_some]
    dsimp only
    rw [e2, Option.bind_some, if_pos rfl, e6]
    exact ⟨_, rfl, R2⟩
  rw [if_neg h8]
  by_cases h9 : (X.2 (nI (6 * k)).toNatClampNeg) &&& 63 = 9
  · rw [if_pos h9]
    simp only [if_pos b1, if_pos b2]
    obtain ⟨r, e1, e2⟩ := (s_where (X.2 (nI (6 * k) + 1).toNatClampNeg) (X.2 (nI (6 * k) + 2).toNatClampNeg)).on R
    rw [e1, Option.bind_some, e2, Option.bind_some, if_pos rfl, e6]
    exact ⟨_, rfl, R⟩
  rw [if_neg h9]
  by_cases h10 : (X.2 (nI (6 * k)).toNatClampNeg) &&& 63 = 10
  · rw [if_pos h10]
    simp only [if_pos b1, if_pos b2]
    obtain ⟨r, σ1, e1, e2, R2⟩ := (s_lit (X.2 (nI (6 * k) + 1).toNatClampNeg) (X.2 (nI (6 * k) + 2).toNatClampNeg)).on R
    rw [e1, Option.bind_some]
    dsimp only
    rw [e2, Option.bind_some, if_pos rfl, e6]
    exact ⟨_, rfl, R2⟩
  rw [if_neg h10]
  by_cases h11 : (X.2 (nI (6 * k)).toNatClampNeg) &&& 63 = 11
  · rw [if_pos h11]
    simp only [if_pos b1]
    obtain ⟨r, e1, e2⟩ := (s_clash (X.2 (nI (6 * k) + 1).toNatClampNeg)).on R
    rw [e1, Option.bind_some, e2, Option.bind_some, if_pos rfl, e6]
    exact ⟨_, rfl, R⟩
  rw [if_neg h11]
  by_cases h12 : (X.2 (nI (6 * k)).toNatClampNeg) &&& 63 = 12
  · rw [if_pos h12]
    obtain ⟨r, e1, e2⟩ := s_clashes.on R
    rw [e1, Option.bind_some, e2, Option.bind_some, if_pos rfl, e6]
    exact ⟨_, rfl, R⟩
  rw [if_neg h12]
  by_cases h13 : (X.2 (nI (6 * k)).toNatClampNeg) &&& 63 = 13
  · rw [if_pos h13]
    simp only [if_pos b1]
    obtain ⟨r, e1, e2⟩ := (s_still (X.2 (nI (6 * k) + 1).toNatClampNeg)).on R
    rw [e1, Option.bind_some, e2, Option.bind_some, if_pos rfl, e6]
    exact ⟨_, rfl, R⟩
  rw [if_neg h13]
  by_cases h14 : (X.2 (nI (6 * k)).toNatClampNeg) &&& 63 = 14
  · rw [if_pos h14]
    simp only [if_pos b1, if_pos b2]
    unfold f_Law_law_j619 f_Law_law_j641
    simp only [if_pos b1, if_pos b2]
    by_cases z : (X.2 (nI (6 * k) + 2).toNatClampNeg) = 0
    · rw [if_pos z]
      obtain ⟨r, σ1, e1, e2, R2⟩ := (s_read (X.2 (nI (6 * k) + 1).toNatClampNeg) (u := 0) (by omega)).on R
      have e1 : f_X_read (X.2 (nI (6 * k) + 1).toNatClampNeg) 0 σ = some (r, σ1) := e1
      have e2 : f_M_read (X.2 (nI (6 * k) + 1).toNatClampNeg) 0 σ1 = some r := e2
      rw [e1, Option.bind_some]
      dsimp only
      rw [if_pos z, e2, Option.bind_some, if_pos rfl, e6]
      exact ⟨_, rfl, R2⟩
    · rw [if_neg z]
      obtain ⟨r, σ1, e1, e2, R2⟩ := (s_read (X.2 (nI (6 * k) + 1).toNatClampNeg) (u := 1) (by omega)).on R
      have e1 : f_X_read (X.2 (nI (6 * k) + 1).toNatClampNeg) 1 σ = some (r, σ1) := e1
      have e2 : f_M_read (X.2 (nI (6 * k) + 1).toNatClampNeg) 1 σ1 = some r := e2
      rw [e1, Option.bind_some]
      dsimp only
      rw [if_neg z, e2, Option.bind_some, if_pos rfl, e6]
      exact ⟨_, rfl, R2⟩
  rw [if_neg h14]
  by_cases h15 : (X.2 (nI (6 * k)).toNatClampNeg) &&& 63 = 15
  · rw [if_pos h15]
    simp only [if_pos b1, if_pos b2, if_pos b3]
    unfold f_Law_law_j673 f_Law_law_j700
    simp only [if_pos b1, if_pos b2, if_pos b3]
    by_cases z : (X.2 (nI (6 * k) + 3).toNatClampNeg) = 0
    · rw [if_pos z]
      obtain ⟨r, σ1, e1, e2, R2⟩ := (s_far (X.2 (nI (6 * k) + 1).toNatClampNeg) (X.2 (nI (6 * k) + 2).toNatClampNeg) (u := 0) (by omega)).on R
      have e1 : f_X_far (X.2 (nI (6 * k) + 1).toNatClampNeg) (X.2 (nI (6 * k) + 2).toNatClampNeg) 0 σ = some (r, σ1) := e1
      have e2 : f_M_far (X.2 (nI (6 * k) + 1).toNatClampNeg) (X.2 (nI (6 * k) + 2).toNatClampNeg) 0 σ1 = some r := e2
      rw [e1, Option.bind_some]
      dsimp only
      rw [if_pos z, e2, Option.bind_some, if_pos rfl, e6]
      exact ⟨_, rfl, R2⟩
    · rw [if_neg z]
      obtain ⟨r, σ1, e1, e2, R2⟩ := (s_far (X.2 (nI (6 * k) + 1).toNatClampNeg) (X.2 (nI (6 * k) + 2).toNatClampNeg) (u := 1) (by omega)).on R
      have e1 : f_X_far (X.2 (nI (6 * k) + 1).toNatClampNeg) (X.2 (nI (6 * k) + 2).toNatClampNeg) 1 σ = some (r, σ1) := e1
      have e2 : f_M_far (X.2 (nI (6 * k) + 1).toNatClampNeg) (X.2 (nI (6 * k) + 2).toNatClampNeg) 1 σ1 = some r := e2
      rw [e1, Option.bind_some]
      dsimp only
      rw [if_neg z, e2, Option.bind_some, if_pos rfl, e6]
      exact ⟨_, rfl, R2⟩
  rw [if_neg h15]
  by_cases h16 : (X.2 (nI (6 * k)).toNatClampNeg) &&& 63 = 16
  · rw [if_pos h16]
    simp only [if_pos b1, if_pos b2]
    obtain ⟨r, σ1, σ2, e1, e2, R2⟩ := (s_nearest (X.2 (nI (6 * k) + 1).toNatClampNeg) (X.2 (nI (6 * k) + 2).toNatClampNeg)).on R
    rw [e1, Option.bind_some]
    dsimp only
    rw [e2, Option.bind_some]
    dsimp only
    rw [if_pos rfl, e6]
    exact ⟨_, rfl, R2⟩
  rw [if_neg h16]
  by_cases h17 : (X.2 (nI (6 * k)).toNatClampNeg) &&& 63 = 17
  · rw [if_pos h17]
    simp only [if_pos b1]
    obtain ⟨r, σ1, e1, e2, R2⟩ := (s_said (X.2 (nI (6 * k) + 1).toNatClampNeg)).on R
    rw [e1, Option.bind_some]
    dsimp only
    rw [e2, Option.bind_some, if_pos rfl, e6]
    exact ⟨_, rfl, R2⟩
  rw [if_neg h17]
  by_cases h18 : (X.2 (nI (6 * k)).toNatClampNeg) &&& 63 = 18
  · rw [if_pos h18]
    simp only [if_pos b1, if_pos b2]
    obtain ⟨r, σ1, e1, e2, R2⟩ := (s_between (X.2 (nI (6 * k) + 1).toNatClampNeg) (X.2 (nI (6 * k) + 2).toNatClampNeg)).on R
    rw [e1, Option.bind_some]
    dsimp only
    rw [e2, Option.bind_some, if_pos rfl, e6]
    exact ⟨_, rfl, R2⟩
  rw [if_neg h18]
  by_cases h19 : (X.2 (nI (6 * k)).toNatClampNeg) &&& 63 = 19
  · rw [if_pos h19]
    simp only [if_pos b1]
    obtain ⟨r, σ1, σ2, e1, e2, R2⟩ := (s_danger (X.2 (nI (6 * k) + 1).toNatClampNeg)).on R
    rw [e1, Option.bind_some]
    dsimp only
    rw [e2, Option.bind_some]
    dsimp only
    rw [if_pos rfl, e6]
    exact ⟨_, rfl, R2⟩
  rw [if_neg h19]
  by_cases h20 : (X.2 (nI (6 * k)).toNatClampNeg) &&& 63 = 20
  · rw [if_pos h20]
    simp only [if_pos b1, if_pos b2, if_pos b3]
    obtain ⟨r, σ1, σ2, e1, e2, R2⟩ := (s_least (X.2 (nI (6 * k) + 1).toNatClampNeg) (X.2 (nI (6 * k) + 2).toNatClampNeg) (X.2 (nI (6 * k) + 3).toNatClampNeg)).on R
    rw [e1, Option.bind_some]
    dsimp only
    rw [e2, Option.bind_some]
    dsimp only
    rw [if_pos rfl, e6]
    exact ⟨_, rfl, R2⟩
  rw [if_neg h20]
  by_cases h21 : (X.2 (nI (6 * k)).toNatClampNeg) &&& 63 = 21
  · rw [if_pos h21]
    simp only [if_pos b1, if_pos b2]
    obtain ⟨r, σ1, σ2, e1, e2, R2⟩ := (s_soon (X.2 (nI (6 * k) + 1).toNatClampNeg) (X.2 (nI (6 * k) + 2).toNatClampNeg)).on R
    rw [e1, Option.bind_some]
    dsimp only
    rw [e2, Option.bind_some]
    dsimp only
    rw [if_pos rfl, e6]
    exact ⟨_, rfl, R2⟩
  rw [if_neg h21]
  by_cases h22 : (X.2 (nI (6 * k)).toNatClampNeg) &&& 63 = 22
  · rw [if_pos h22]
    simp only [if_pos b1, if_pos b2, if_pos b3, if_pos b4]
    obtain ⟨r, σ1, σ2, e1, e2, R2⟩ := (s_way (X.2 (nI (6 * k) + 1).toNatClampNeg) (X.2 (nI (6 * k) + 2).toNatClampNeg) (X.2 (nI (6 * k) + 3).toNatClampNeg) (X.2 (nI (6 * k) + 4).toNatClampNeg)).on R
    rw [e1, Option.bind_some]
    dsimp only
    rw [e2, Option.bind_some]
    dsimp only
    rw [if_pos rfl, e6]
    exact ⟨_, rfl, R2⟩
  rw [if_neg h22]
  by_cases h23 : (X.2 (nI (6 * k)).toNatClampNeg) &&& 63 = 23
  · rw [if_pos h23]
    simp only [if_pos b1, if_pos b2]
    obtain ⟨r, σ1, e1, e2, R2⟩ := (s_steps (X.2 (nI (6 * k) + 1).toNatClampNeg) (X.2 (nI (6 * k) + 2).toNatClampNeg)).on R
    rw [e1, Option.bind_some]
    dsimp only
    rw [e2, Option.bind_some, if_pos rfl, e6]
    exact ⟨_, rfl, R2⟩
  rw [if_neg h23]
  by_cases h24 : (X.2 (nI (6 * k)).toNatClampNeg) &&& 63 = 24
  · rw [if_pos h24]
    obtain ⟨r, σ1, σ2, e1, e2, R2⟩ := s_paint.on R
    rw [e1, Option.bind_some]
    dsimp only
    rw [e2, Option.bind_some]
    dsimp only
    rw [if_pos rfl, e6]
    exact ⟨_, rfl, R2⟩
  rw [if_neg h24]
  by_cases h25 : (X.2 (nI (6 * k)).toNatClampNeg) &&& 63 = 25
  · rw [if_pos h25]
    simp only [if_pos b1, if_pos b2]
    obtain ⟨r, σ1, σ2, e1, e2, R2⟩ := (s_missed (X.2 (nI (6 * k) + 1).toNatClampNeg) (X.2 (nI (6 * k) + 2).toNatClampNeg)).on R
    rw [e1, Option.bind_some]
    dsimp only
    rw [e2, Option.bind_some]
    dsimp only
    rw [if_pos rfl, e6]
    exact ⟨_, rfl, R2⟩
  rw [if_neg h25]
  by_cases h26 : (X.2 (nI (6 * k)).toNatClampNeg) &&& 63 = 26
  · rw [if_pos h26]
    simp only [if_pos b1]
    obtain ⟨r, e1, e2⟩ := (s_alike (X.2 (nI (6 * k) + 1).toNatClampNeg)).on R
    rw [e1, Option.bind_some, e2, Option.bind_some, if_pos rfl, e6]
    exact ⟨_, rfl, R⟩
  rw [if_neg h26]
  by_cases h27 : (X.2 (nI (6 * k)).toNatClampNeg) &&& 63 = 27
  · rw [if_pos h27]
    simp only [if_pos b1]
    obtain ⟨r, σ1, σ2, e1, e2, R2⟩ := (s_teach (X.2 (nI (6 * k) + 1).toNatClampNeg)).on R
    rw [e1, Option.bind_some]
    dsimp only
    rw [e2, Option.bind_some]
    dsimp only
    rw [if_pos rfl, e6]
    exact ⟨_, rfl, R2⟩
  rw [if_neg h27]
  by_cases h28 : (X.2 (nI (6 * k)).toNatClampNeg) &&& 63 = 28
  · rw [if_pos h28]
    simp only [if_pos b1, if_pos b2]
    obtain ⟨r, σ1, σ2, e1, e2, R2⟩ := (s_lamp (X.2 (nI (6 * k) + 1).toNatClampNeg) (X.2 (nI (6 * k) + 2).toNatClampNeg)).on R
    rw [e1, Option.bind_some]
    dsimp only
    rw [e2, Option.bind_some]
    dsimp only
    rw [if_pos rfl, e6]
    exact ⟨_, rfl, R2⟩
  rw [if_neg h28]
  by_cases h29 : (X.2 (nI (6 * k)).toNatClampNeg) &&& 63 = 29
  · rw [if_pos h29]
    simp only [if_pos b1, if_pos b2]
    obtain ⟨r, σ1, σ2, e1, e2, R2⟩ := (s_learn (X.2 (nI (6 * k) + 1).toNatClampNeg) (X.2 (nI (6 * k) + 2).toNatClampNeg)).on R
    rw [e1, Option.bind_some]
    dsimp only
    rw [e2, Option.bind_some]
    dsimp only
    rw [if_pos rfl, e6]
    exact ⟨_, rfl, R2⟩
  rw [if_neg h29]
  by_cases h30 : (X.2 (nI (6 * k)).toNatClampNeg) &&& 63 = 30
  · rw [if_pos h30]
    obtain ⟨r, σ1, σ2, e1, e2, R2⟩ := s_undo.on R
    rw [e1, Option.bind_some]
    dsimp only
    rw [e2, Option.bind_some]
    dsimp only
    rw [if_pos rfl, e6]
    exact ⟨_, rfl, R2⟩
  rw [if_neg h30]
  by_cases h31 : (X.2 (nI (6 * k)).toNatClampNeg) &&& 63 = 31
  · rw [if_pos h31]
    obtain ⟨r, σ1, σ2, e1, e2, R2⟩ := s_ask.on R
    rw [e1, Option.bind_some]
    dsimp only
    rw [e2, Option.bind_some]
    dsimp only
    rw [if_pos rfl, e6]
    exact ⟨_, rfl, R2⟩
  rw [if_neg h31]
  by_cases h32 : (X.2 (nI (6 * k)).toNatClampNeg) &&& 63 = 32
  · rw [if_pos h32]
    obtain ⟨r, σ1, σ2, e1, e2, R2⟩ := s_image.on R
    rw [e1, Option.bind_some]
    dsimp only
    rw [e2, Option.bind_some]
    dsimp only
    rw [if_pos rfl, e6]
    exact ⟨_, rfl, R2⟩
  rw [if_neg h32]
  by_cases h33 : (X.2 (nI (6 * k)).toNatClampNeg) &&& 63 = 33
  · rw [if_pos h33]
    simp only [if_pos b1]
    obtain ⟨r, e1, e2⟩ := (s_octet (X.2 (nI (6 * k) + 1).toNatClampNeg)).on R
    rw [e1, Option.bind_some, e2, Option.bind_some, if_pos rfl, e6]
    exact ⟨_, rfl, R⟩
  rw [if_neg h33]
  by_cases h34 : (X.2 (nI (6 * k)).toNatClampNeg) &&& 63 = 34
  · rw [if_pos h34]
    obtain ⟨r, σ1, σ2, e1, e2, R2⟩ := s_on.on R
    rw [e1, Option.bind_some]
    dsimp only
    rw [e2, Option.bind_some]
    dsimp only
    rw [if_pos rfl, e6]
    exact ⟨_, rfl, R2⟩
  rw [if_neg h34]
  rw [e6]
  exact ⟨_, rfl, R⟩
theorem law_stop (h : X.1 < 6 * k + 6) (hk : k < 600) : Int32.ofNat X.1 - 6 < nI (6 * k) := by
  by_cases h6 : 6 ≤ X.1
  · have e : Int32.ofNat X.1 - 6 = nI (X.1 - 6) := hl_nsub (a := X.1) (b := 6) h6
    rw [e]
    exact (hl_lt (by omega) (by omega)).mpr (by omega)
  · have n : ∀ N, N < 6 → (Int32.ofNat N - 6).toInt < 0 := by decide
    rw [Int32.lt_iff_toInt_lt, nI_toInt (by omega)]
    have := n X.1 (by omega)
    omega
/-- the beginning -/
theorem hq_s0v : (hl_s0.1 4 0 = 0 ∧ hl_s0.1 4 1 = 0 ∧ hl_s0.1 4 3 = 0 ∧ hl_s0.1 4 8 = 0 ∧ hl_s0.1 4 12 = 0) ∧ hl_s0.1 58 3 = 0 ∧ hl_s0.1 1 1 = 0 ∧ hl_s0.1 0 11 = 0 ∧ hl_s0.1 62 2 = 0 ∧ (hl_s0.1 64 30 = 0 ∧ hl_s0.1 64 31 = 0 ∧ hl_s0.1 75 3 = 0 ∧ hl_s0.1 75 4 = 0 ∧ hl_s0.1 75 5 = 0) ∧ hl_s0.1 64 50 = 0 ∧ hl_s0.1 64 51 = 0 ∧ hl_s0.1 64 1 = 0 ∧ hl_s0.1 64 47 = 0 ∧ hl_s0.1 64 82 = 0 ∧ hl_s0.1 64 35 = -1 ∧ hl_s0.1 64 36 = -1 ∧ hl_s0.1 3 4 = hl_s0.1 64 7 ∧ hl_s0.1 3 5 = hl_s0.1 64 8 := by decide +kernel
theorem hq_s076 : ∀ c, c < 54 → hl_s0.1 76 (54 * 1 + c) = 0 := by decide +kernel
theorem hq_s0k : hm_k hl_s0 := by
  show ∀ i, i < 9 → (hl_shp (66 + i) = (103, (hp_W i).length) ∧ ∀ k, k < (hp_W i).length → hl_s0.1 (66 + i) k = nI ((hp_W i).getD k 0))
  decide +kernel
theorem hq_s0q : hm_kq hl_s0 := by
  show ∀ i, i < 19 → (hl_shp (hq_v i) = (103, (hq_W i).length) ∧ ∀ k, k < (hq_W i).length → hl_s0.1 (hq_v i) k = nI ((hq_W i).getD k 0))
  decide +kernel
theorem hq_begin : hq_R hl_s0 hl_s0 := by
  obtain ⟨⟨x0, x1, x3, x8, x12⟩, a3, t1, p11, i2, ⟨y30, y31, y3, y4, y5⟩, y50, y51, y1, y47, y82, y35, y36, f4, f5⟩ := hq_s0v
  have no : ∀ {α : Prop} {p : Nat}, p < 0 → α := fun h => absurd h (Nat.not_lt_zero _)
  have wg : hp_wg (fun _ _ => 0) := ⟨.inl ⟨rfl, rfl, rfl, rfl, rfl⟩, ⟨Nat.zero_le _, Nat.zero_le _, Nat.zero_le _⟩, fun c => ⟨Nat.zero_le _, fun _ => rfl⟩, fun p h => no h, fun p h => no h, fun p h => no h, fun p h => no h, fun p h => no h⟩
  have wp : hp_wp (fun _ _ => 0) (fun _ _ => 0) := fun p h => no h
  refine ⟨fun _ _ => 0, fun _ _ => 0, [], 0, fun _ => 0, 0, fun _ => 0, 0, fun _ => 0, fun _ _ => 0, ⟨⟨wg, wp, ⟨⟨x0, x1, x3, x8, x12⟩, hp_bs.zero.cong (fun k hk => rfl), fun p h => no h, fun p h => no h, fun p h => no h⟩, fun p h => no h, fun p h => no h⟩, ⟨a3, Nat.zero_le _, trivial⟩, ⟨Nat.zero_le _, t1, fun k h => no h⟩, ⟨Nat.zero_le _, p11, fun h => absurd h (by decide)⟩, ⟨Nat.zero_le _, i2, fun k h => no h⟩⟩, ⟨⟨wg, wp, ⟨⟨y30, y31, y3, y4, y5⟩, hq_s076, fun p h => no h, fun p h => no h, fun p h => no h⟩, fun p h => no h, fun p h => no h⟩, ⟨Nat.zero_le _, y50, 0, by omega, y51, fun i h => no h⟩, ⟨Nat.zero_le _, y1, fun k h => no h⟩, ⟨y47, fun h => absurd h (by decide)⟩, ⟨Nat.zero_le _, y82, fun k h => no h⟩, ⟨by omega, by omega, by omega, y35, y36, fun h => absurd rfl h⟩, fun a ha => no (show a < 0 from ha), fun a ha => no (show a < 0 from ha), hq_s0k, hq_s0q⟩, f4, f5⟩
theorem hl_all (X : hl_X) (hX : X.1 ≤ 3072) : ∃ τ, f_Law_law X hl_s0 = some (1, τ) := by
  have main : ∃ e, hl_lp (f_Law_law_L18 X) hl_big (0, hl_s0) = some e ∧ ∃ τ, e = .inl τ := by
    refine hp_inv (b := f_Law_law_L18 X) (s := (0, hl_s0)) 513 (fun k s => s.1 = nI (6 * k) ∧ hq_R s.2 s.2) (fun e => ∃ τ, e = .inl τ) (by omega) ⟨rfl, hq_begin⟩ ?_ ?_
    · rintro k ⟨i, σ⟩ hk ⟨h1, R⟩
      dsimp only at h1 R
      subst h1
      by_cases hN : 6 * k + 6 ≤ X.1
      · obtain ⟨σ', r1, r2⟩ := law_step hX hN R
        exact .inl ⟨_, r1, rfl, r2⟩
      · refine .inr ⟨.inl σ, ?_, σ, rfl⟩
        unfold f_Law_law_L18
        dsimp only
        rw [if_pos (law_stop (by omega) (by omega))]
    · rintro ⟨i, σ⟩ ⟨h1, R⟩
      dsimp only at h1 R
      subst h1
      refine ⟨.inl σ, ?_, σ, rfl⟩
      unfold f_Law_law_L18
      dsimp only
      rw [if_pos (law_stop (by omega) (by omega))]
  obtain ⟨e, h1, τ, rfl⟩ := main
  refine ⟨τ, ?_⟩
  unfold f_Law_law
  rw [h1]
  rfl
end LAW
