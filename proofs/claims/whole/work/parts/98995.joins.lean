/-! questions: codes run, both sides -/
def hx_piq : List Int64 → hl_M → Prop
  | [], _ => True
  | v :: p, σ => σ.2 57 p.length = v ∧ hx_piq p σ
def hx_plq (p : List Int64) (σ : hl_M) : Prop := σ.1 55 7 = nI p.length ∧ hx_piq p σ
def hx_PD (q f : Nat) : Prop := q = 57 ∨ (q = 55 ∧ f = 7)
def hm_piq : List Int64 → hl_M → Prop
  | [], _ => True
  | v :: p, τ => τ.2 112 p.length = v ∧ hm_piq p τ
def hm_plq (p : List Int64) (τ : hl_M) : Prop := τ.1 64 78 = nI p.length ∧ hm_piq p τ
def hm_PD (q f : Nat) : Prop := q = 112 ∨ (q = 64 ∧ f = 78)
section RUN
variable {G P : hp_G} {σ τ σ' τ' υ : hl_M} {k j v N bb o : Nat} {x y z : Int64} {p q : List Int64} {C A : List Nat} {pv : Nat → Nat} {ov : Nat → Int64 → Nat}
theorem hx_piq.fr : ∀ {p : List Int64}, (∀ i, i < p.length → τ.2 57 i = σ.2 57 i) → hx_piq p σ → hx_piq p τ
  | [], _, _ => trivial
  | _ :: p, h, ⟨h1, h2⟩ => ⟨(h p.length (by simp)).trans h1, hx_piq.fr (fun i hi => h i (by simp; omega)) h2⟩
theorem hm_piq.fr : ∀ {p : List Int64}, (∀ i, i < p.length → τ.2 112 i = σ.2 112 i) → hm_piq p σ → hm_piq p τ
  | [], _, _ => trivial
  | _ :: p, h, ⟨h1, h2⟩ => ⟨(h p.length (by simp)).trans h1, hm_piq.fr (fun i hi => h i (by simp; omega)) h2⟩
theorem hx_push (H : hx_plq p σ) (hp : p.length < 64) (v : Int64) : ∃ σ', f_Qu_push v σ = some σ' ∧ hp_fr hx_PD σ σ' ∧ hx_plq (v :: p) σ' := by
  have hb : hl_b (nI p.length) 64 := (hl_nIb (by omega)).mpr hp
  unfold f_Qu_push
  rw [H.1, show (64 : Int32) = nI 64 from rfl, hp_withinT hp (by decide), if_neg (by decide), if_pos hb, nI_clamp (by omega)]
  have e7 : (hl_sl σ 57 p.length v).1 55 7 = nI p.length := H.1
  rw [e7, nI_1]
  refine ⟨_, rfl, (hp_fr.rf.sl (.inl rfl)).si (.inr ⟨rfl, rfl⟩), hp_s01, ?_, H.2.fr (fun i hi => ?_)⟩
  · rw [hp_s2, hp_s11]
  · rw [hp_s2, hp_sln (by omega)]
theorem hx_pop (H : hx_plq (x :: p) σ) (hp : p.length < 64) : ∃ σ', f_Qu_pop σ = some (x, σ') ∧ hp_fr hx_PD σ σ' ∧ hx_plq p σ' := by
  have hb : hl_b (nI p.length) 64 := (hl_nIb (by omega)).mpr hp
  have e : σ.1 55 7 - 1 = nI p.length := by rw [H.1]; exact hl_nsub (a := p.length + 1) (b := 1) (by omega)
  unfold f_Qu_pop
  rw [e, show (64 : Int32) = nI 64 from rfl, hp_withinT hp (by decide), if_neg (by decide), hp_s01, if_pos hb, nI_clamp (by omega), hp_s2, H.2.1]
  exact ⟨_, rfl, hp_fr.rf.si (.inr ⟨rfl, rfl⟩), hp_s01, hx_piq.fr (σ := σ) (τ := hl_si σ 55 7 (nI p.length)) (fun i hi => rfl) H.2.2⟩
theorem hm_put (H : hm_plq p τ) (hp : p.length < 1700) (v : Int64) : ∃ τ', f_M_qPuts v τ = some τ' ∧ hp_fr hm_PD τ τ' ∧ hm_plq (v :: p) τ' := by
  have hb : hl_b (nI p.length) 1700 := (hl_nIb (by omega)).mpr hp
  unfold f_M_qPuts
  rw [H.1, if_pos hb, hp_let, nI_clamp (by omega)]
  have e7 : (hl_sl τ 112 p.length v).1 64 78 = nI p.length := H.1
  rw [e7, nI_1]
  refine ⟨_, rfl, (hp_fr.rf.sl (.inl rfl)).si (.inr ⟨rfl, rfl⟩), hp_s01, ?_, H.2.fr (fun i hi => ?_)⟩
  · rw [hp_s2, hp_s11]
  · rw [hp_s2, hp_sln (by omega)]
/-- the top in its place -/
theorem hm_top (H : hm_plq (x :: p) τ) (v : Int64) : hm_plq (v :: p) (hl_sl τ 112 p.length v) ∧ τ.1 64 78 - 1 = nI p.length ∧ τ.2 112 p.length = x := by
  refine ⟨⟨H.1, hp_s11, H.2.2.fr (fun i hi => hp_sln (by omega))⟩, ?_, H.2.1⟩
  rw [H.1]
  exact hl_nsub (a := p.length + 1) (b := 1) (by omega)
theorem hp_i64 {x y : Int64} (h : x.toInt = y.toInt) : x = y := Int64.toInt_inj.mp h
theorem hp_clip (w : Int64) : f_Qu_held w = f_M_qClip w := by
  have c1 : (1000000 : Int64).toInt = 1000000 := by decide
  have c2 : (-1000000 : Int64).toInt = -1000000 := by decide
  unfold f_Qu_held f_M_qClip
  by_cases h1 : w.toInt < 1000000
  · have m : f_Math_min_JJJ 1000000 w = w := by
      unfold f_Math_min_JJJ
      rw [if_pos (by rw [fa_lt64, c1]; exact h1)]
    have n1 : w ≤ 1000000 := by rw [fa_le64, c1]; omega
    rw [m, if_pos n1]
    unfold f_Math_max_JJJ
    by_cases h2 : -1000000 < w.toInt
    · have n2 : (-1000000 : Int64) < w := by rw [fa_lt64, c2]; exact h2
      have n3 : (-1000000 : Int64) ≤ w := by rw [fa_le64, c2]; omega
      rw [if_pos n2, if_pos n3]
    · have n2 : ¬ (-1000000 : Int64) < w := by rw [fa_lt64, c2]; exact h2
      rw [if_neg n2]
      by_cases h3 : -1000000 ≤ w.toInt
      · have n3 : (-1000000 : Int64) ≤ w := by rw [fa_le64, c2]; exact h3
        rw [if_pos n3]
        exact hp_i64 (by omega)
      · have n3 : ¬ (-1000000 : Int64) ≤ w := by rw [fa_le64, c2]; exact h3
        rw [if_neg n3]
  · have m : f_Math_min_JJJ 1000000 w = 1000000 := by
      unfold f_Math_min_JJJ
      rw [if_neg (by rw [fa_lt64, c1]; exact h1)]
    have mx : f_Math_max_JJJ (-1000000) 1000000 = 1000000 := by decide
    rw [m, mx]
    by_cases h2 : w.toInt ≤ 1000000
    · have n1 : w ≤ 1000000 := by rw [fa_le64, c1]; exact h2
      have n3 : (-1000000 : Int64) ≤ w := by rw [fa_le64, c2]; omega
      rw [if_pos n1, if_pos n3]
      exact hp_i64 (by omega)
    · have n1 : ¬ w ≤ 1000000 := by rw [fa_le64, c1]; exact h2
      rw [if_neg n1]
theorem hp_clipS {k : Nat} (h : k < 1000) : f_M_qClip (lN k) = lN k := by
  have c1 : (1000000 : Int64).toInt = 1000000 := by decide
  have c2 : (-1000000 : Int64).toInt = -1000000 := by decide
  have ck : (lN k).toInt = (k : Int) := lN_toInt (by omega)
  unfold f_M_qClip
  simp only [fa_le64]
  rw [if_pos (by omega), if_pos (by omega)]
theorem hp_nn64 (z : Int64) : 0 ≤ z ↔ z.toBitVec.msb = false := by
  have c0 : (0 : Int64).toInt = 0 := by decide
  rw [fa_le64, c0, BitVec.msb_eq_toInt]
  show 0 ≤ z.toBitVec.toInt ↔ _
  simp
theorem hp_xor64 (x y : Int64) : 0 ≤ (x ^^^ y) ↔ (0 ≤ x ↔ 0 ≤ y) := by
  rw [hp_nn64, hp_nn64, hp_nn64, Int64.toBitVec_xor, BitVec.msb_xor]
  cases x.toBitVec.msb <;> cases y.toBitVec.msb <;> simp
theorem hp_sub0 (x a : Int64) : x - a = 0 ↔ a = x := by
  constructor
  · intro h
    have e : x - a + a = x := Int64.sub_add_cancel x a
    rw [h, Int64.zero_add] at e
    exact e
  · rintro rfl
    exact Int64.sub_self a
theorem hp_floor (x y : Int64) : f_M_qFloor x y = if y = 0 then some 0 else f_Math_floorDiv x y := by
  unfold f_M_qFloor f_Math_floorDiv f_M_qFloor_j32 f_M_qFloor_j43
  by_cases h0 : y = 0
  · rw [if_pos h0, if_pos h0]
  · rw [if_neg h0, if_neg h0, if_neg h0, if_neg h0, if_neg h0]
    by_cases h1 : x / y * y = x
    · rw [if_pos ((hp_sub0 _ _).mpr h1), if_pos h1]
      split <;> rfl
    · rw [if_neg (fun z => h1 ((hp_sub0 _ _).mp z)), if_neg h1]
      have hx := hp_xor64 x y
      by_cases a : 0 ≤ x
      · by_cases c : 0 ≤ y
        · rw [if_pos a, if_pos c, if_pos (hx.mpr ⟨fun _ => c, fun _ => a⟩), if_pos rfl]
        · rw [if_pos a, if_neg c, if_neg (fun z => c ((hx.mp z).mp a)), if_neg (by decide)]
      · by_cases c : 0 ≤ y
        · rw [if_neg a, if_pos c, if_neg (fun z => a ((hx.mp z).mpr c)), if_neg (by decide)]
        · rw [if_neg a, if_neg c, if_pos (hx.mpr ⟨fun z => absurd z a, fun z => absurd z c⟩), if_pos rfl]
theorem hp_min64 (x y : Int64) : f_Math_min_JJJ x y = if y ≤ x then y else x := by
  unfold f_Math_min_JJJ
  simp only [fa_lt64, fa_le64]
  by_cases h : y.toInt < x.toInt
  · rw [if_pos h, if_pos (by omega)]
  · rw [if_neg h]
    by_cases h2 : y.toInt ≤ x.toInt
    · rw [if_pos h2]; exact hp_i64 (by omega)
    · rw [if_neg h2]
theorem hp_max64 (x y : Int64) : f_Math_max_JJJ x y = if x ≤ y then y else x := by
  unfold f_Math_max_JJJ
  simp only [fa_lt64, fa_le64]
  by_cases h : x.toInt < y.toInt
  · rw [if_pos h, if_pos (by omega)]
  · rw [if_neg h]
    by_cases h2 : x.toInt ≤ y.toInt
    · rw [if_pos h2]; exact hp_i64 (by omega)
    · rw [if_neg h2]
theorem hq_jv (h : hq_j v x y = some z) : 1 ≤ v ∧ v ≤ 11 := by
  unfold hq_j at h
  by_cases k1 : v = 1
  · omega
  rw [if_neg k1] at h
  by_cases k2 : v = 2
  · omega
  rw [if_neg k2] at h
  by_cases k3 : v = 3
  · omega
  rw [if_neg k3] at h
  by_cases k4 : v = 4
  · omega
  rw [if_neg k4] at h
  by_cases k5 : v = 5
  · omega
  rw [if_neg k5] at h
  by_cases k6 : v = 6
  · omega
  rw [if_neg k6] at h
  by_cases k7 : v = 7
  · omega
  rw [if_neg k7] at h
  by_cases k8 : v = 8
  · omega
  rw [if_neg k8] at h
  by_cases k9 : v = 9
  · omega
  rw [if_neg k9] at h
  by_cases k10 : v = 10
  · omega
  rw [if_neg k10] at h
  by_cases k11 : v = 11
  · omega
  rw [if_neg k11] at h
  cases h
/-- two joined: the class -/
theorem hx_joined (h : hq_j v x y = some z) : f_Qu_joined (hq_xc v) x y = some z := by
  obtain ⟨v1, v2⟩ := hq_jv h
  have b01 : ∀ {w : Int64}, (w = 0 ∨ w = 1) → w = 0 ∨ w = 1 := fun h => h
  have : v = 1 ∨ v = 2 ∨ v = 3 ∨ v = 4 ∨ v = 5 ∨ v = 6 ∨ v = 7 ∨ v = 8 ∨ v = 9 ∨ v = 10 ∨ v = 11 := by omega
  unfold f_Qu_joined
  unfold hq_j at h
  rcases this with rfl | rfl | rfl | rfl | rfl | rfl | rfl | rfl | rfl | rfl | rfl
  · rw [if_pos rfl] at h
    rw [show hq_xc 1 = -11 from by decide, if_neg (by decide), if_neg (by decide), if_neg (by decide), if_neg (by decide), if_neg (by decide), if_neg (by decide), if_neg (by decide), if_pos rfl]
    rw [hp_clip]; exact h
  · rw [if_neg (by decide), if_pos rfl] at h
    rw [show hq_xc 2 = -12 from by decide, if_neg (by decide), if_neg (by decide), if_neg (by decide), if_neg (by decide), if_neg (by decide), if_neg (by decide), if_pos rfl]
    rw [hp_clip]; exact h
  · rw [if_neg (by decide), if_neg (by decide), if_pos rfl] at h
    rw [show hq_xc 3 = -13 from by decide, if_neg (by decide), if_neg (by decide), if_neg (by decide), if_neg (by decide), if_neg (by decide), if_pos rfl]
    rw [hp_clip]; exact h
  · rw [if_neg (by decide), if_neg (by decide), if_neg (by decide), if_pos rfl] at h
    rw [show hq_xc 4 = -14 from by decide, if_neg (by decide), if_neg (by decide), if_neg (by decide), if_neg (by decide), if_pos rfl]
    rw [hp_floor] at h
    by_cases e : y = 0
    · rw [if_pos e] at h ⊢; exact h
    · rw [if_neg e] at h ⊢; rw [h]; rfl
  · rw [if_neg (by decide), if_neg (by decide), if_neg (by decide), if_neg (by decide), if_pos rfl] at h
    rw [show hq_xc 5 = -9 from by decide, if_neg (by decide), if_neg (by decide), if_neg (by decide), if_neg (by decide), if_neg (by decide), if_neg (by decide), if_neg (by decide), if_neg (by decide), if_neg (by decide), if_pos rfl]
    rw [hp_min64]; exact h
  · rw [if_neg (by decide), if_neg (by decide), if_neg (by decide), if_neg (by decide), if_neg (by decide), if_pos rfl] at h
    rw [show hq_xc 6 = -10 from by decide, if_neg (by decide), if_neg (by decide), if_neg (by decide), if_neg (by decide), if_neg (by decide), if_neg (by decide), if_neg (by decide), if_neg (by decide), if_pos rfl]
    rw [hp_max64]; exact h
  · rw [if_neg (by decide), if_neg (by decide), if_neg (by decide), if_neg (by decide), if_neg (by decide), if_neg (by decide), if_pos rfl] at h
    rw [show hq_xc 7 = -15 from by decide, if_neg (by decide), if_neg (by decide), if_neg (by decide), if_pos rfl]
    revert h
    split <;> exact id
  · rw [if_neg (by decide), if_neg (by decide), if_neg (by decide), if_neg (by decide), if_neg (by decide), if_neg (by decide), if_neg (by decide), if_pos rfl] at h
    rw [show hq_xc 8 = -16 from by decide, if_neg (by decide), if_neg (by decide), if_pos rfl]
    revert h
    split <;> exact id
  · rw [if_neg (by decide), if_neg (by decide), if_neg (by decide), if_neg (by decide), if_neg (by decide), if_neg (by decide), if_neg (by decide), if_neg (by decide), if_pos rfl] at h
    rw [show hq_xc 9 = -17 from by decide, if_neg (by decide), if_pos rfl]
    revert h
    split <;> exact id
  · rw [if_neg (by decide), if_neg (by decide), if_neg (by decide), if_neg (by decide), if_neg (by decide), if_neg (by decide), if_neg (by decide), if_neg (by decide), if_neg (by decide), if_pos rfl] at h
    rw [show hq_xc 10 = -18 from by decide, if_pos rfl]
    by_cases e : (x = 0 ∨ x = 1) ∧ (y = 0 ∨ y = 1)
    · rw [if_pos e] at h
      rw [← h]
      obtain ⟨hx, hy⟩ := e
      rcases hx with rfl | rfl <;> rcases hy with rfl | rfl <;> decide
    · rw [if_neg e] at h; cases h
  · rw [if_neg (by decide), if_neg (by decide), if_neg (by decide), if_neg (by decide), if_neg (by decide), if_neg (by decide), if_neg (by decide), if_neg (by decide), if_neg (by decide), if_neg (by decide), if_pos rfl] at h
    rw [show hq_xc 11 = -19 from by decide, if_neg (by decide), if_neg (by decide), if_neg (by decide), if_neg (by decide), if_neg (by decide), if_neg (by decide), if_neg (by decide), if_neg (by decide), if_neg (by decide), if_neg (by decide)]
    by_cases e : (x = 0 ∨ x = 1) ∧ (y = 0 ∨ y = 1)
    · rw [if_pos e] at h
      rw [← h]
      obtain ⟨hx, hy⟩ := e
      rcases hx with rfl | rfl <;> rcases hy with rfl | rfl <;> decide
    · rw [if_neg e] at h; cases h
/-- .. the model -/
theorem hm_joins (H : hm_plq (y :: x :: p) τ) (hp : p.length < 1600) (h : hq_j v x y = some z) : ∃ τ', f_M_qJoins (nI v) τ = some τ' ∧ hp_fr hm_PD τ τ' ∧ hm_plq (z :: p) τ' := by
  obtain ⟨v1, v2⟩ := hq_jv h
  have e1 : τ.1 64 78 - 1 = nI (p.length + 1) := by rw [H.1]; exact hl_nsub (a := p.length + 2) (b := 1) (by omega)
  have e2 : τ.1 64 78 - 2 = nI p.length := by rw [H.1]; exact hl_nsub (a := p.length + 2) (b := 2) (by omega)
  have b1 : hl_b (nI (p.length + 1)) 1700 := (hl_nIb (by omega)).mpr (by omega)
  have b2 : hl_b (nI p.length) 1700 := (hl_nIb (by omega)).mpr (by omega)
  have g1 : τ.2 112 (p.length + 1) = y := H.2.1
  have g2 : τ.2 112 p.length = x := H.2.2.1
  have H1 : hm_plq p (hl_si τ 64 78 (nI p.length)) := ⟨hp_s01, hm_piq.fr (σ := τ) (τ := hl_si τ 64 78 (nI p.length)) (fun i hi => rfl) H.2.2.2⟩
  have F1 : hp_fr hm_PD τ (hl_si τ 64 78 (nI p.length)) := hp_fr.rf.si (.inr ⟨rfl, rfl⟩)
  have fin : ∀ w : Int64, w = z → ∃ τ', ((f_M_qPuts w (hl_si τ 64 78 (nI p.length))).bind fun x1 => some x1) = some τ' ∧ hp_fr hm_PD τ τ' ∧ hm_plq (z :: p) τ' := by
    rintro w rfl
    obtain ⟨τ', r1, r2, r3⟩ := hm_put H1 (by omega) w
    rw [r1]
    exact ⟨τ', rfl, F1.tr r2, r3⟩
  unfold f_M_qJoins f_M_qJoins_j161 f_M_qJoins_j181 f_M_qJoins_j200 f_M_qJoins_j219 f_M_qJoins_j238 f_M_qJoins_j270
  rw [e1, e2, if_pos b1, if_pos b2, nI_clamp (by omega), nI_clamp (by omega), g1, g2]
  unfold hq_j at h
  have : v = 1 ∨ v = 2 ∨ v = 3 ∨ v = 4 ∨ v = 5 ∨ v = 6 ∨ v = 7 ∨ v = 8 ∨ v = 9 ∨ v = 10 ∨ v = 11 := by omega
  rcases this with rfl | rfl | rfl | rfl | rfl | rfl | rfl | rfl | rfl | rfl | rfl
  · rw [if_pos rfl] at h
    rw [if_pos (show nI 1 = (1 : Int32) from rfl)]
    exact fin _ (Option.some.inj h)
  · rw [if_neg (by decide), if_pos rfl] at h
    rw [if_neg (by decide), if_pos (show nI 2 = (2 : Int32) from rfl)]
    exact fin _ (Option.some.inj h)
  · rw [if_neg (by decide), if_neg (by decide), if_pos rfl] at h
    rw [if_neg (by decide), if_neg (by decide), if_pos (show nI 3 = (3 : Int32) from rfl)]
    exact fin _ (Option.some.inj h)
  · rw [if_neg (by decide), if_neg (by decide), if_neg (by decide), if_pos rfl] at h
    rw [if_neg (by decide), if_neg (by decide), if_neg (by decide), if_pos (show nI 4 = (4 : Int32) from rfl)]
    rw [h, Option.bind_some]; exact fin _ rfl
  · rw [if_neg (by decide), if_neg (by decide), if_neg (by decide), if_neg (by decide), if_pos rfl] at h
    rw [if_neg (by decide), if_neg (by decide), if_neg (by decide), if_neg (by decide), if_pos (show nI 5 = (5 : Int32) from rfl)]
    revert h
    split <;> intro h <;> exact fin _ (Option.some.inj h)
  · rw [if_neg (by decide), if_neg (by decide), if_neg (by decide), if_neg (by decide), if_neg (by decide), if_pos rfl] at h
    rw [if_neg (by decide), if_neg (by decide), if_neg (by decide), if_neg (by decide), if_neg (by decide), if_pos (show nI 6 = (6 : Int32) from rfl)]
    revert h
    split <;> intro h <;> exact fin _ (Option.some.inj h)
  · rw [if_neg (by decide), if_neg (by decide), if_neg (by decide), if_neg (by decide), if_neg (by decide), if_neg (by decide), if_pos rfl] at h
    rw [if_neg (by decide), if_neg (by decide), if_neg (by decide), if_neg (by decide), if_neg (by decide), if_neg (by decide), if_pos (show nI 7 = (7 : Int32) from rfl)]
    revert h
    split <;> intro h <;> exact fin _ (Option.some.inj h)
  · rw [if_neg (by decide), if_neg (by decide), if_neg (by decide), if_neg (by decide), if_neg (by decide), if_neg (by decide), if_neg (by decide), if_pos rfl] at h
    rw [if_neg (by decide), if_neg (by decide), if_neg (by decide), if_neg (by decide), if_neg (by decide), if_neg (by decide), if_neg (by decide), if_pos (show nI 8 = (8 : Int32) from rfl)]
    revert h
    split <;> intro h <;> exact fin _ (Option.some.inj h)
  · rw [if_neg (by decide), if_neg (by decide), if_neg (by decide), if_neg (by decide), if_neg (by decide), if_neg (by decide), if_neg (by decide), if_neg (by decide), if_pos rfl] at h
    rw [if_neg (by decide), if_neg (by decide), if_neg (by decide), if_neg (by decide), if_neg (by decide), if_neg (by decide), if_neg (by decide), if_neg (by decide), if_pos (show nI 9 = (9 : Int32) from rfl)]
    revert h
    split <;> intro h <;> exact fin _ (Option.some.inj h)
  · rw [if_neg (by decide), if_neg (by decide), if_neg (by decide), if_neg (by decide), if_neg (by decide), if_neg (by decide), if_neg (by decide), if_neg (by decide), if_neg (by decide), if_pos rfl] at h
    rw [if_neg (by decide), if_neg (by decide), if_neg (by decide), if_neg (by decide), if_neg (by decide), if_neg (by decide), if_neg (by decide), if_neg (by decide), if_neg (by decide), if_pos (show nI 10 = (10 : Int32) from rfl)]
    by_cases e : (x = 0 ∨ x = 1) ∧ (y = 0 ∨ y = 1)
    · rw [if_pos e] at h; exact fin _ (Option.some.inj h)
    · rw [if_neg e] at h; cases h
  · rw [if_neg (by decide), if_neg (by decide), if_neg (by decide), if_neg (by decide), if_neg (by decide), if_neg (by decide), if_neg (by decide), if_neg (by decide), if_neg (by decide), if_neg (by decide), if_pos rfl] at h
    rw [if_neg (by decide), if_neg (by decide), if_neg (by decide), if_neg (by decide), if_neg (by decide), if_neg (by decide), if_neg (by decide), if_neg (by decide), if_neg (by decide), if_neg (by decide)]
    by_cases e : (x = 0 ∨ x = 1) ∧ (y = 0 ∨ y = 1)
    · rw [if_pos e] at h
      revert h
      split <;> intro h <;> exact fin _ (Option.some.inj h)
    · rw [if_neg e] at h; cases h
end RUN
