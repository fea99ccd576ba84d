/-! questions: facts, both sides -/
def hq_tw (W : List Nat) : Prop := ∀ x ∈ W, 10 ≤ x ∧ x ≤ 25
def q_FO (n : Nat) (b : Nat → Nat) (rec : Nat → hl_M → Option hl_M) (o : Nat) : Prop := ∀ σ τ a C W, q_b n b a σ τ → q_c C C W o 0 a σ τ → hq_tw W → ∃ σ', rec 1 σ = some σ' ∧ hp_fr hx_QD σ σ' ∧ ((∃ a' τ' l, a < a' ∧ q_b n b a' σ' τ' ∧ q_c (C ++ l) (C ++ l) W o 0 a' σ' τ' ∧ hp_fr hm_QD τ τ' ∧ hq_T (4 + 3 * (6 - o)) l ∧ ∀ r, hm_RD n a' W.length τ' r → hm_RT n a τ r) ∨ (∃ τ', q_no σ' τ' ∧ hp_fr hm_QD τ τ' ∧ hm_RT n a τ τ'))
def q_TO (n : Nat) (b : Nat → Nat) (rec : Nat → hl_M → Option hl_M) (o : Nat) : Prop := ∀ σ τ a C W, q_b n b a σ τ → q_c C C W o 0 a σ τ → hq_tw W → (W = [] ∨ ∃ W', W = 25 :: W') → ∃ σ', rec 0 σ = some σ' ∧ hp_fr hx_QD σ σ' ∧ ((∃ a' τ' l cM pd, a < a' ∧ q_b n b a' σ' τ' ∧ q_c (C ++ l) cM (pd ++ W) o 0 a' σ' τ' ∧ cM ++ pd = C ++ l ∧ (∀ x ∈ pd, x = 10 ∨ x = 11) ∧ f_Rd_isWord 36 σ' = some 0 ∧ f_Rd_isWord 37 σ' = some 0 ∧ hp_fr hm_QD τ τ' ∧ hq_T (6 + 3 * (6 - o)) l ∧ ∀ r, hm_RH n a' τ' r → hm_RT n a τ r) ∨ (∃ τ', q_no σ' τ' ∧ hp_fr hm_QD τ τ' ∧ hm_RT n a τ τ'))
section FACT
variable {σ τ σ' τ' τ1 υ r : hl_M} {n a s t k j v K i d x o bs br cd N : Nat} {b : Nat → Nat} {C CX CM W T Wt l cM pd : List Nat} {w v1 v4 : Int32} {rec : Nat → hl_M → Option hl_M}
theorem q_b.normT (B : q_b n b a σ τ) : ∃ s, a ≤ s ∧ hm_r n b (hl_si τ 64 2 (nI s)) ∧ hm_kq (hl_si τ 64 2 (nI s)) ∧ q_os n b s σ (hl_si τ 64 2 (nI s)) ∧ hp_fr hm_FD τ (hl_si τ 64 2 (nI s)) ∧ f_M_look τ = some (hq_ch n b s, hl_si τ 64 2 (nI s)) ∧ (∀ r, hm_RT n s (hl_si τ 64 2 (nI s)) r → hm_RT n a τ r) ∧ (∀ r, hm_RH n s (hl_si τ 64 2 (nI s)) r → hm_RH n a τ r) := by
  obtain ⟨s, hs, R1, K1, H1, F1, lk, -, -⟩ := B.norm
  have eq : f_M_look τ = f_M_look (hl_si τ 64 2 (nI s)) := by rw [lk, H1.look B.1 R1]
  exact ⟨s, hs, R1, K1, H1, F1, lk, fun r Hr => (hm_RT.norm B.2.2.2.1.x.2 H1.x.2 eq Hr).pos hs, fun r Hr => (hm_RH.norm B.2.2.2.1.x.2 H1.x.2 eq Hr).pos hs⟩
theorem hq_tw.hd (h : hq_tw W) : hq_hd W (fun x => 10 ≤ x) := by
  intro x W' e
  subst e
  have := h x (by simp)
  exact ⟨this.1, by omega⟩
theorem q_L2T (T : hx_t n b σ) (R : hm_r n b τ) (H : q_os n b s σ τ) (h : ∀ i, i < 19 → f_M_isHere (hq_v i) τ = some (if K = i then 1 else 0, τ)) : f_M_qTest_L2 (1, τ) = if s < n ∧ b s = 91 then (f_M_qOpens 25 (nI s) τ).bind (fun x8 => some (.inl (1, hl_si x8 64 2 (x8.1 64 2 + 1)))) else if K = 6 then (f_M_qOpens 12 (nI s) τ).bind (fun x6 => (f_M_asks 97 x6).bind fun x7 => some (.inl (1, x7))) else (f_M_qFact τ).bind hm_fk := by
  have z0 : ¬ (1 : Int32) = 0 := by decide
  have e6 : f_M_isHere 97 τ = some (if K = 6 then 1 else 0, τ) := h 6 (by omega)
  unfold f_M_qTest_L2
  dsimp only
  rw [if_neg z0, if_pos H.x.2, H.look T R, Option.bind_some]
  dsimp only
  by_cases c : s < n ∧ b s = 91
  · have c' : hq_ch n b s = 91 := (hq_chE R (v := 91) (by decide)).mpr c
    rw [if_pos c', if_pos c, H.2.1]
  · have c' : ¬ hq_ch n b s = 91 := fun z => c ((hq_chE R (v := 91) (by decide)).mp z)
    rw [if_neg c', if_neg c, e6, Option.bind_some]
    dsimp only
    by_cases k6 : K = 6
    · rw [if_pos k6, if_neg z0, if_pos k6, H.2.1]
    · rw [if_neg k6, if_pos rfl, if_neg k6]
      rfl
theorem hx_noCmp (H : q_no σ τ) : f_Qu_comparison σ = some (-17, f_Rd_fail 1 (σ.1 3 2) σ) := by
  unfold f_Qu_comparison
  rw [hx_noS H, hx_noS H, hx_noS H, Option.bind_some, if_pos rfl, Option.bind_some, if_pos rfl, Option.bind_some, if_pos rfl]
theorem q_cmp (T : hx_t n b σ) (R : hm_r n b τ) (H : q_os n b s σ τ) : f_Qu_comparison σ = if s < n ∧ b s = 60 then some (-15, σ) else if s < n ∧ b s = 62 then some (-16, σ) else if s < n ∧ b s = 61 then some (-17, σ) else some (-17, f_Rd_fail 1 (nI s) σ) := by
  have z0 : ¬ (1 : Int32) = 0 := by decide
  have e1 := q_sgX T R H (v := 60) (by decide) (by decide)
  have e2 := q_sgX T R H (v := 62) (by decide) (by decide)
  have e3 := q_sgX T R H (v := 61) (by decide) (by decide)
  rw [show nI 60 = (60 : Int32) from rfl] at e1
  rw [show nI 62 = (62 : Int32) from rfl] at e2
  rw [show nI 61 = (61 : Int32) from rfl] at e3
  unfold f_Qu_comparison
  rw [e1, e2, e3, Option.bind_some]
  by_cases c1 : s < n ∧ b s = 60
  · rw [if_pos c1, if_neg z0, if_pos c1]
  · rw [if_neg c1, if_pos rfl, if_neg c1, Option.bind_some]
    by_cases c2 : s < n ∧ b s = 62
    · rw [if_pos c2, if_neg z0, if_pos c2]
    · rw [if_neg c2, if_pos rfl, if_neg c2, Option.bind_some]
      by_cases c3 : s < n ∧ b s = 61
      · rw [if_pos c3, if_neg z0, if_pos c3]
      · rw [if_neg c3, if_pos rfl, if_neg c3, H.2.2.1]
/-- a comparison of two sums -/
theorem q_cmpFact (SO : q_SO n b rec o) (NO : q_NO rec) (hW : hq_tw W) (B : q_b n b a σ τ) (Q : q_c C C W o 0 a σ τ) (h100 : f_M_takes 100 τ = some (0, τ)) : ∃ σ' τ', ((rec 2 σ).bind fun x4 => (f_Qu_comparison x4).bind fun x5 => (f_Rd_advance x5.2).bind fun x6 => (rec 2 x6).bind fun x7 => (f_Qu_emit x5.1 x7).bind fun x8 => some x8) = some σ' ∧ f_M_qFact τ = some τ' ∧ hp_fr hx_QD σ σ' ∧ hp_fr hm_QD τ τ' ∧ ((∃ a' l, a < a' ∧ q_b n b a' σ' τ' ∧ q_c (C ++ l) (C ++ l) W o 0 a' σ' τ' ∧ hq_T (4 + 3 * (6 - o)) l) ∨ q_no σ' τ') := by
  have hn := B.1.1
  have dead : ∀ (c : Int32) (σa τa : hl_M), q_no σa τa → ∃ σ', ((f_Rd_advance σa).bind fun x6 => (rec 2 x6).bind fun x7 => (f_Qu_emit c x7).bind fun x8 => some x8) = some σ' ∧ hp_fr hx_QD σa σ' ∧ q_no σ' τa := by
    intro c σa τa no
    obtain ⟨σb, b1, b2, b3⟩ := NO 2 (by omega) σa τa no
    obtain ⟨σc, c1, c2⟩ := hx_emit0 (σ := σb) c
    rw [hx_noA no, Option.bind_some, b1, Option.bind_some, c1, Option.bind_some]
    exact ⟨_, rfl, b2.tr (c2.mono hx_QE_QD), b3.y (fun f => c2.i (by unfold hx_QE; omega))⟩
  obtain ⟨σ1, τ1, p1, p2, p3, p4, p5⟩ := q_qSums SO hW.hd B Q (by omega)
  unfold f_M_qFact
  rw [p1, Option.bind_some, h100, Option.bind_some, if_pos rfl, p2, Option.bind_some]
  rcases p5 with ⟨a1, l1, g1, B1, Q1, hG1⟩ | ⟨no, cb⟩
  · obtain ⟨s1, hs1, R1, K1, H1, F1, lk, -, -⟩ := B1.norm
    have ha1 := B1.2.2.2.2.2
    have hs1n := H1.2.2.2
    obtain ⟨QX1, QM1, Qb1, Ql1⟩ := Q1.FD F1 hs1
    rw [List.length_append] at Ql1
    rw [if_pos B1.2.2.2.1.x.2, lk, Option.bind_some, q_cmp B1.1 R1 H1]
    have c60 : hq_ch n b s1 = 60 ↔ (s1 < n ∧ b s1 = 60) := hq_chE R1 (v := 60) (by decide)
    have c62 : hq_ch n b s1 = 62 ↔ (s1 < n ∧ b s1 = 62) := hq_chE R1 (v := 62) (by decide)
    have c61 : hq_ch n b s1 = 61 ↔ (s1 < n ∧ b s1 = 61) := hq_chE R1 (v := 61) (by decide)
    have FM1 : hp_fr hm_QD τ (hl_si τ1 64 2 (nI s1)) := p4.tr (F1.mono hm_FD_QD)
    dsimp only
    -- what follows a sign
    have go : ∀ (cd : Nat), (cd = 7 ∨ cd = 8 ∨ cd = 9) → s1 < n → hp_kl (b s1) = 3 → (∀ x4, (if hq_ch n b s1 = 60 then f_M_qFact_j102 7 x4 else if hq_ch n b s1 = 62 then f_M_qFact_j102 8 x4 else f_M_qFact_j102 9 x4) = f_M_qFact_j102 (nI cd) x4) → ∃ σ' τ', ((f_Rd_advance σ1).bind fun x6 => (rec 2 x6).bind fun x7 => (f_Qu_emit (hq_xc cd) x7).bind fun x8 => some x8) = some σ' ∧ f_M_qFact_j63 (hq_ch n b s1) (hl_si τ1 64 2 (nI s1)) = some τ' ∧ hp_fr hx_QD σ σ' ∧ hp_fr hm_QD τ τ' ∧ ((∃ a' l, a < a' ∧ q_b n b a' σ' τ' ∧ q_c (C ++ l) (C ++ l) W o 0 a' σ' τ' ∧ hq_T (4 + 3 * (6 - o)) l) ∨ q_no σ' τ') := by
      intro cd hcd hlt k3 hj
      obtain ⟨σ2, r1, r2, r3⟩ := q_sgN B1.1 H1 hlt k3
      have B2 : q_b n b (s1 + 1) σ2 (hl_si (hl_si τ1 64 2 (nI s1)) 64 2 (nI (s1 + 1))) := ⟨B1.1.fr r2 (by unfold hx_RD; omega) (fun k => by unfold hx_RD; omega), R1.si (by omega), K1.fr (hp_fr.rf.si (D := fun q f => q = 64 ∧ f = 2) ⟨rfl, rfl⟩) (fun q f h => by omega), r3, hp_s01, by omega⟩
      have Q2 : q_c (C ++ l1) (C ++ l1) W o 0 (s1 + 1) σ2 (hl_si (hl_si τ1 64 2 (nI s1)) 64 2 (nI (s1 + 1))) := ⟨QX1.fr r2 (fun q f h => by unfold hx_RD at h; omega), QM1.fr (hp_fr.rf.si (D := fun q f => q = 64 ∧ f = 2) ⟨rfl, rfl⟩) (fun q f h => by omega), Qb1, by rw [List.length_append]; omega⟩
      obtain ⟨σ3, τ3, t1, t2, t3, t4, t5⟩ := q_qSums SO hW.hd B2 Q2 (by omega)
      have FM3 : hp_fr hm_QD τ τ3 := (FM1.si (.inl ⟨rfl, by omega⟩)).tr t4
      have FX3 : hp_fr hx_QD σ σ3 := (p3.tr (r2.mono hx_RD_QD)).tr t3
      unfold f_M_qFact_j63
      rw [r1, Option.bind_some, t1, Option.bind_some, H1.2.1, nI_1, t2, Option.bind_some, hj]
      unfold f_M_qFact_j102
      rcases t5 with ⟨a3, l2, g3, B3, Q3, hG3⟩ | ⟨no, cb⟩
      · have ha3 := B3.2.2.2.2.2
        have hl3 := Q3.2.2.2
        rw [List.length_append, List.length_append] at hl3
        -- one more place: the sign itself
        have hl4 : C.length + l1.length + l2.length + 1 + W.length ≤ a3 := by
          omega
        obtain ⟨σ4, e1, e2, e3⟩ := hx_emit Q3.1 (by rw [List.length_append, List.length_append]; omega) (c := hq_xc cd) (v := cd) rfl
        obtain ⟨τ4, d1, d2, d3⟩ := hm_code Q3.2.1 (by rw [List.length_append, List.length_append]; omega) (c := nI cd) (v := cd) rfl
        rw [e1, Option.bind_some, d1, Option.bind_some]
        have as : C ++ l1 ++ l2 ++ [cd] = C ++ (l1 ++ l2 ++ [cd]) := by simp [List.append_assoc]
        rw [as] at e3 d3
        exact ⟨σ4, τ4, rfl, rfl, FX3.tr (e2.mono hx_QE_QD), FM3.tr (d2.mono hm_QE_QD), .inl ⟨a3, l1 ++ l2 ++ [cd], by omega, B3.fr e2 (fun q f h => by unfold hx_QE at h; omega) d2 (fun q f h => by unfold hm_QE at h; omega), ⟨e3, d3, Q3.2.2.1, by rw [List.length_append, List.length_append, List.length_append, List.length_singleton]; omega⟩, hq_T.cmp hG1 hG3 (by omega) (by omega) hcd⟩⟩
      · obtain ⟨σ4, e1, e2⟩ := hx_emit0 (σ := σ3) (hq_xc cd)
        obtain ⟨k, hk, e⟩ := cb
        obtain ⟨τ4, d1, d2⟩ := hm_code0 (τ := τ3) ⟨k, by omega, e⟩ (nI cd)
        rw [e1, Option.bind_some, d1, Option.bind_some]
        exact ⟨σ4, τ4, rfl, rfl, FX3.tr (e2.mono hx_QE_QD), FM3.tr (d2.mono hm_QE_QD), .inr ((no.y (fun f => e2.i (by unfold hx_QE; omega))).z (fun f hf => d2.i (by unfold hm_QE; omega)))⟩
    by_cases h60 : s1 < n ∧ b s1 = 60
    · rw [if_pos h60, if_pos (c60.mpr h60), Option.bind_some]
      exact go 7 (.inl rfl) h60.1 (by rw [h60.2]; rfl) (fun x4 => by rw [if_pos (c60.mpr h60)]; rfl)
    · rw [if_neg h60, if_neg (fun z => h60 (c60.mp z))]
      by_cases h62 : s1 < n ∧ b s1 = 62
      · rw [if_pos h62, if_pos (c62.mpr h62), Option.bind_some]
        exact go 8 (.inr (.inl rfl)) h62.1 (by rw [h62.2]; rfl) (fun x4 => by rw [if_neg (fun z => h60 (c60.mp z)), if_pos (c62.mpr h62)]; rfl)
      · rw [if_neg h62, if_neg (fun z => h62 (c62.mp z))]
        by_cases h61 : s1 < n ∧ b s1 = 61
        · rw [if_pos h61, if_pos (c61.mpr h61), Option.bind_some]
          exact go 9 (.inr (.inr rfl)) h61.1 (by rw [h61.2]; rfl) (fun x4 => by rw [if_neg (fun z => h60 (c60.mp z)), if_neg (fun z => h62 (c62.mp z))]; rfl)
        · obtain ⟨f1, f2, f3⟩ := q_fail0 (σ := σ1) (τ := hl_si τ1 64 2 (nI s1)) (f := 1) (p := nI s1) H1.x.1 H1.x.2 (by decide)
          obtain ⟨σ4, y1, y2, y3⟩ := dead (-17) _ _ f1
          rw [if_neg h61, if_neg (fun z => h61 (c61.mp z)), Option.bind_some, H1.2.1]
          exact ⟨σ4, _, y1, rfl, (p3.tr (f2.mono hx_FD_QD)).tr y2, FM1.tr (f3.mono hm_FD_QD), .inr y3⟩
  · obtain ⟨r1, r2⟩ := q_failN (f := 1) (p := σ1.1 3 2) no
    obtain ⟨σ4, y1, y2, y3⟩ := dead (-17) _ _ r1
    rw [hx_noCmp no, Option.bind_some, if_neg no.x.2]
    exact ⟨σ4, τ1, y1, rfl, (p3.tr (r2.mono hx_FD_QD)).tr y2, p4, .inr y3⟩
end FACT
