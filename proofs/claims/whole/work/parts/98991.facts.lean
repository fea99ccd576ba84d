/-! questions: a fact as a whole, both sides -/
section FACTS
variable {σ τ σ' τ' τ1 υ r : hl_M} {n a s t k j v K i d x o bs br cd N : Nat} {b : Nat → Nat} {C CX CM W T Wt l cM pd : List Nat} {w v1 v4 : Int32} {rec : Nat → hl_M → Option hl_M}
/-- the square bracket's end, in the model -/
theorem hm_closeT (T : hx_t n b σ) (R : hm_r n b τ) (H : q_os n b s σ τ) (hs : s < n) (hb : b s = 93) (Q : hm_q cM (pd ++ 25 :: W) (o + 1) bs τ) (ho : o < 6) (hW : hq_tw W) (hP : ∀ x ∈ pd, x = 10 ∨ x = 11) (h1 : cM.length + pd.length < 1699) (h2 : pd.length + W.length < 1699) : ∃ τ', f_M_qGoesOnTest_L0 τ = (f_M_qDropsNots τ').bind (fun x4 => some (.inl x4)) ∧ hp_fr (fun q f => hm_QF q f ∨ (q = 64 ∧ f = 75)) (hl_si τ 64 2 (nI (s + 1))) τ' ∧ hm_q (cM ++ pd) W o bs τ' := by
  have z0 : ¬ (1 : Int32) = 0 := by decide
  have hc : hq_ch n b s = 93 := (hq_chE R (v := 93) (by decide)).mpr ⟨hs, hb⟩
  have hsq := hm_hasSquare Q (fun x hx => by
    rcases List.mem_append.mp hx with h | h
    · have := hP x h; omega
    · rcases List.mem_cons.mp h with h | h
      · omega
      · have := hW x h; omega) (by rw [List.length_append, List.length_cons]; omega)
  rw [if_pos (by simp)] at hsq
  have Q1 : hm_q cM (pd ++ 25 :: W) (o + 1) bs (hl_si τ 64 2 (nI (s + 1))) := Q.fr (hp_fr.rf.si (D := fun q f => q = 64 ∧ f = 2) ⟨rfl, rfl⟩) (fun q f h => by omega)
  obtain ⟨τ3, d1, d2, d3⟩ := hm_L33 hP (by rw [hp_sn (by omega)]; exact H.x.2) Q1 (by omega) (by omega)
  obtain ⟨q1, q2, q3, q4⟩ := d3.pop
  have e75 : (hl_si τ3 64 74 (nI W.length)).1 64 75 - 1 = nI o := by rw [q1.2.2.1]; exact hl_nsub (a := o + 1) (b := 1) (by omega)
  unfold f_M_qGoesOnTest_L0
  rw [if_pos H.x.2, H.look T R, Option.bind_some]
  dsimp only
  rw [if_pos hc, hsq, Option.bind_some, if_neg z0, H.2.1, nI_1, d1, Option.bind_some, q3, e75]
  exact ⟨_, rfl, ((d2.mono (fun q f h => .inl h)).si (.inl (.inr ⟨rfl, .inr rfl⟩))).si (.inr ⟨rfl, rfl⟩), q1.op o⟩
theorem hm_L0T (T : hx_t n b σ) (R : hm_r n b τ) (H : q_os n b s σ τ) (h : ¬ (s < n ∧ b s = 93)) : f_M_qGoesOnTest_L0 τ = some (.inr τ) := by
  have h' : ¬ hq_ch n b s = 93 := fun z => h ((hq_chE R (v := 93) (by decide)).mp z)
  unfold f_M_qGoesOnTest_L0
  rw [if_pos H.x.2, H.look T R, Option.bind_some]
  dsimp only
  rw [if_neg h']
/-- neither AND nor OR -/
theorem q_H2n (T : hx_t n b σ) (R : hm_r n b τ) (KQ : hm_kq τ) (H : q_os n b s σ τ) (h36 : f_Rd_isWord 36 σ = some 0) (h37 : f_Rd_isWord 37 σ = some 0) {sq : Prop} [Decidable sq] (hsq : f_M_qHasSquare τ = some (if sq then 1 else 0)) : hm_H2 τ = if sq then some (0, f_M_fail 1 (nI s) τ) else some (0, τ) := by
  obtain ⟨K, A⟩ := hq_at.ex T H
  obtain ⟨x17, m17⟩ := q_wd T R KQ H A (i := 17) (by omega)
  obtain ⟨x18, m18⟩ := q_wd T R KQ H A (i := 18) (by omega)
  rw [show 19 + 17 = 36 from rfl, h36] at x17
  rw [show 19 + 18 = 37 from rfl, h37] at x18
  have k17 : ¬ K = 17 := fun e => by rw [if_pos e] at x17; exact absurd (Option.some.inj x17) (by decide)
  have k18 : ¬ K = 18 := fun e => by rw [if_pos e] at x18; exact absurd (Option.some.inj x18) (by decide)
  rw [if_neg k17] at m17
  rw [if_neg k18] at m18
  have t17 : f_M_takes 98 τ = some (0, τ) := (q_wF H (i := 17) m17).1
  have t18 : f_M_takes 99 τ = some (0, τ) := (q_wF H (i := 18) m18).1
  unfold hm_H2
  rw [t17, Option.bind_some, if_pos rfl, t18, Option.bind_some, if_pos rfl, if_pos H.x.2, hsq, Option.bind_some, H.2.1]
  by_cases e : sq
  · rw [if_pos e, if_pos e, if_neg (by decide)]
  · rw [if_neg e, if_neg e, if_pos rfl]
theorem q_takeFact (ho : o ≤ 6) (SO : q_SO n b rec o) (TO : o < 6 → q_TO n b rec (o + 1)) (FO : o < 6 → q_FO n b rec (o + 1)) (NO : q_NO rec) : ∀ σ τ a C W, q_b n b a σ τ → q_c C C W o 0 a σ τ → hq_tw W → ∃ σ', b_Qu_takeFact rec σ = some σ' ∧ hp_fr hx_QD σ σ' ∧ ((∃ a' τ' l, a < a' ∧ q_b n b a' σ' τ' ∧ q_c (C ++ l) (C ++ l) W o 0 a' σ' τ' ∧ hp_fr hm_QD τ τ' ∧ hq_T (4 + 3 * (6 - o)) l ∧ ∀ r, hm_RD n a' W.length τ' r → hm_RT n a τ r) ∨ (∃ τ', q_no σ' τ' ∧ hp_fr hm_QD τ τ' ∧ hm_RT n a τ τ')) := by
  intro σ τ a C W B Q hW
  have hn := B.1.1
  have T := B.1
  have z0 : ¬ (1 : Int32) = 0 := by decide
  obtain ⟨s, hs, R, KQ, H, F1, lk, nT, -⟩ := B.normT
  have ha := B.2.2.2.2.2
  have hsn := H.2.2.2
  have Qn := Q.FD F1 hs
  obtain ⟨QX, QM, Qb, Ql⟩ := Q.FD F1 hs
  obtain ⟨K, A⟩ := hq_at.ex T H
  have hw : ∀ i, i < 19 → f_Rd_isWord (19 + i) σ = some (if K = i then 1 else 0) := fun i hi => (q_wd T R KQ H A hi).1
  have hm : ∀ i, i < 19 → f_M_isHere (hq_v i) (hl_si τ 64 2 (nI s)) = some (if K = i then 1 else 0, hl_si τ 64 2 (nI s)) := fun i hi => (q_wd T R KQ H A hi).2
  have L2 := q_L2T T R H hm
  have lo := fun h => hq_at.lo T H A h
  have w6 : f_Rd_isWord 25 σ = some (if K = 6 then 1 else 0) := hw 6 (by omega)
  have w7 : f_Rd_isWord 26 σ = some (if K = 7 then 1 else 0) := hw 7 (by omega)
  have sg := q_sgX T R H (v := 91) (by decide) (by decide)
  rw [show nI 91 = (91 : Int32) from rfl] at sg
  have Bn : q_b n b s σ (hl_si τ 64 2 (nI s)) := ⟨T, R, KQ, H.1, H.2.1, hsn⟩
  unfold b_Qu_takeFact
  generalize hτ : hl_si τ 64 2 (nI s) = τn at *
  have FMn : hp_fr hm_QD τ τn := F1.mono hm_FD_QD
  rw [w6, Option.bind_some]
  by_cases k6 : K = 6
  · -- NOT
    have e91 : ¬ (s < n ∧ b s = 91) := fun z => by have := (lo (by omega)).2.2; rw [z.2] at this; exact absurd this (by decide)
    rw [if_neg e91, if_pos k6] at L2
    rw [if_pos k6, if_neg z0]
    by_cases e6 : o = 6
    · subst e6
      obtain ⟨r1, r2, r3⟩ := q_fail0 (σ := σ) (τ := τn) (f := 4) (p := nI s) H.x.1 H.x.2 (by decide)
      have ab : f_M_asks 97 (f_M_fail 4 (nI s) τn) = some (f_M_fail 4 (nI s) τn) := by
        unfold f_M_asks
        rw [if_neg r1.x.2]
      rw [hm_opens6 QM H.x.2, Option.bind_some, ab, Option.bind_some] at L2
      rw [hx_opens6 QX, Option.bind_some, if_pos rfl, H.2.2.1]
      exact ⟨_, rfl, r2.mono hx_FD_QD, .inr ⟨_, r1, FMn.tr (r3.mono hm_FD_QD), nT _ (hm_RT.stepBad L2 r1.x.2)⟩⟩
    · have ho6 : o < 6 := by omega
      obtain ⟨τ0, o1, o2, o3⟩ := hm_opens (v := 12) QM H.x.2 ho6 (by omega) (nI s)
      have o1' : f_M_qOpens 12 (nI s) τn = some τ0 := o1
      have T0 : hx_t n b (hl_si σ 55 8 (nI (o + 1))) := T.si (by omega)
      have R0 : hm_r n b τ0 := R.fr o2 (by omega) (fun k => by omega)
      have K0 : hm_kq τ0 := KQ.fr o2 (fun q f h => by omega)
      have H0 : q_os n b s (hl_si σ 55 8 (nI (o + 1))) τ0 := H.fr (fun f _ => hp_sn (by omega)) (fun f hf => o2.i (by omega))
      have A0 : hq_at b s (hl_si σ 55 8 (nI (o + 1))) K := A.fr (hp_sn (by omega)) (hp_sn (by omega))
      have here := (q_wd T0 R0 K0 H0 A0 (i := K) (by omega)).2
      rw [if_pos rfl] at here
      obtain ⟨t, σ1, t1, t2, t3, t4, t5, t6⟩ := q_wN T0 H0 A0 (by omega)
      have wt := (q_wT K0 H0 (by omega) here).2
      rw [← t1] at wt
      have wt' : f_M_asks 97 τ0 = some (hl_si (hl_si τ0 64 2 (nI t)) 64 4 (nI t)) := by rw [← wt, k6]; rfl
      rw [o1', Option.bind_some, wt', Option.bind_some] at L2
      have B1 : q_b n b t σ1 (hl_si (hl_si τ0 64 2 (nI t)) 64 4 (nI t)) := q_bW T0 R0 K0 t5 t3 t6
      have FT : hp_fr hm_FD τ0 (hl_si (hl_si τ0 64 2 (nI t)) 64 4 (nI t)) := (hp_fr.rf.si ⟨rfl, by omega⟩).si ⟨rfl, by omega⟩
      have Q1 : q_c C C (12 :: W) (o + 1) 0 t σ1 (hl_si (hl_si τ0 64 2 (nI t)) 64 4 (nI t)) := ⟨(QX.op (o + 1)).fr t5 (fun q f h => by unfold hx_RD at h; omega), o3.fr FT (fun q f h => by unfold hm_FD at h; omega), Nat.zero_le _, by rw [List.length_cons]; omega⟩
      have FX1 : hp_fr hx_QD σ σ1 := (hp_fr.rf.si (.inr (.inl ⟨rfl, .inr rfl⟩))).tr (t5.mono hx_RD_QD)
      have FM1 : hp_fr hm_QD τ (hl_si (hl_si τ0 64 2 (nI t)) 64 4 (nI t)) := (FMn.tr (o2.mono (fun q f h => by unfold hm_QD; omega))).tr (FT.mono hm_FD_QD)
      have hRT1 : ∀ r, hm_RT n t (hl_si (hl_si τ0 64 2 (nI t)) 64 4 (nI t)) r → hm_RT n a τ r := fun r hr => nT r (hm_RT.step L2 t2 t3 hr)
      rw [hx_opens QX ho6, t4, Option.bind_some, Option.bind_some, if_neg z0]
      obtain ⟨σ2, p1, p2, p3⟩ := FO ho6 σ1 _ t C (12 :: W) B1 Q1 (by
        intro x hx
        rcases List.mem_cons.mp hx with h | h
        · omega
        · exact hW x h)
      rw [p1, Option.bind_some]
      rcases p3 with ⟨a2, τ2, la, g1, g2, g3, g4, g5, g6⟩ | ⟨τ2, g1, g2, g3⟩
      · have hl3 := g3.2.2.2
        have ha2 := g2.2.2.2.2.2
        rw [List.length_append, List.length_cons] at hl3
        obtain ⟨τ3, m1, m2, m3⟩ := hm_RD.pop g3.2.1 g2.2.2.2.1.x.2 (by rw [List.length_append]; omega) (by omega) (by omega)
        have e8 : (σ2.1 55 8) - 1 = nI o := by rw [g3.1.2.2]; exact hl_nsub (a := o + 1) (b := 1) (by omega)
        obtain ⟨σ3, c1, c2, c3⟩ := hx_emit (g3.1.op o) (by rw [List.length_append]; omega) (c := -8) (v := 12) (by decide)
        rw [e8, c1, Option.bind_some]
        have B3 : q_b n b a2 σ3 τ3 := g2.fr (DX := fun q f => hx_QE q f ∨ (q = 55 ∧ f = 8)) ((hp_fr.rf.si (.inr ⟨rfl, rfl⟩)).tr (c2.mono (fun q f h => .inl h))) (fun q f h => by unfold hx_QE at h; omega) m1 (fun q f h => by unfold hm_QF at h; omega)
        exact ⟨σ3, rfl, ((FX1.tr p2).si (.inr (.inl ⟨rfl, .inr rfl⟩))).tr (c2.mono hx_QE_QD), .inl ⟨a2, τ3, la ++ [12], by omega, B3, ⟨by rw [← List.append_assoc]; exact c3, by rw [← List.append_assoc]; exact m2, Nat.zero_le _, by rw [List.length_append, List.length_append, List.length_singleton]; omega⟩, (FM1.tr g4).tr (m1.mono (fun q f h => by unfold hm_QF at h; unfold hm_QD; omega)), (g5.mono (by omega)).not, fun r hr => hRT1 r (g6 r (m3 n a2 r hr))⟩⟩
      · obtain ⟨σ3, c1, c2⟩ := hx_emit0 (σ := hl_si σ2 55 8 ((σ2.1 55 8) - 1)) (-8)
        rw [c1, Option.bind_some]
        exact ⟨σ3, rfl, ((FX1.tr p2).si (.inr (.inl ⟨rfl, .inr rfl⟩))).tr (c2.mono hx_QE_QD), .inr ⟨τ2, (g1.y (σ' := hl_si σ2 55 8 ((σ2.1 55 8) - 1)) (fun f => hp_sn (by omega))).y (fun f => c2.i (by unfold hx_QE; omega)), FM1.tr g2, hRT1 _ g3⟩⟩
  · rw [if_neg k6, if_pos rfl, sg, Option.bind_some]
    by_cases c : s < n ∧ b s = 91
    · -- square brackets
      rw [if_pos c] at L2
      rw [if_pos c, if_neg z0]
      by_cases e6 : o = 6
      · subst e6
        obtain ⟨r1, r2, r3⟩ := q_fail0 (σ := σ) (τ := τn) (f := 4) (p := nI s) H.x.1 H.x.2 (by decide)
        have r1' : q_no (f_Rd_fail 4 (nI s) σ) (hl_si (f_M_fail 4 (nI s) τn) 64 2 (((f_M_fail 4 (nI s) τn).1 64 2) + 1)) := r1.z (fun f hf => hp_sn (by omega))
        rw [hm_opens6 QM H.x.2, Option.bind_some] at L2
        rw [hx_opens6 QX, Option.bind_some, if_pos rfl, H.2.2.1]
        exact ⟨_, rfl, r2.mono hx_FD_QD, .inr ⟨_, r1', (FMn.tr (r3.mono hm_FD_QD)).si (.inl ⟨rfl, by omega⟩), nT _ (hm_RT.stepBad L2 r1'.x.2)⟩⟩
      · have ho6 : o < 6 := by omega
        obtain ⟨τ0, o1, o2, o3⟩ := hm_opens (v := 25) QM H.x.2 ho6 (by omega) (nI s)
        have o1' : f_M_qOpens 25 (nI s) τn = some τ0 := o1
        have FX0 : hp_fr (fun q f => q = 55 ∧ f = 8) σ (hl_si σ 55 8 (nI (o + 1))) := hp_fr.rf.si ⟨rfl, rfl⟩
        have T0 : hx_t n b (hl_si σ 55 8 (nI (o + 1))) := T.si (by omega)
        have R0 : hm_r n b τ0 := R.fr o2 (by omega) (fun k => by omega)
        have K0 : hm_kq τ0 := KQ.fr o2 (fun q f h => by omega)
        have H0 : q_os n b s (hl_si σ 55 8 (nI (o + 1))) τ0 := H.fr (fun f _ => hp_sn (by omega)) (fun f hf => o2.i (by omega))
        obtain ⟨σ1, r1, r2, r3⟩ := q_sgN T0 H0 c.1 (by rw [c.2]; rfl)
        have B1 : q_b n b (s + 1) σ1 (hl_si τ0 64 2 (nI (s + 1))) := ⟨T0.fr r2 (by unfold hx_RD; omega) (fun k => by unfold hx_RD; omega), R0.si (by omega), K0.fr (hp_fr.rf.si (D := fun q f => q = 64 ∧ f = 2) ⟨rfl, rfl⟩) (fun q f h => by omega), r3, hp_s01, by omega⟩
        have Q1 : q_c C C (25 :: W) (o + 1) 0 (s + 1) σ1 (hl_si τ0 64 2 (nI (s + 1))) := ⟨(QX.op (o + 1)).fr r2 (fun q f h => by unfold hx_RD at h; omega), o3.fr (hp_fr.rf.si (D := fun q f => q = 64 ∧ f = 2) ⟨rfl, rfl⟩) (fun q f h => by omega), Nat.zero_le _, by rw [List.length_cons]; omega⟩
        have FX1 : hp_fr hx_QD σ σ1 := (FX0.mono (fun q f h => .inr (.inl ⟨h.1, .inr h.2⟩))).tr (r2.mono hx_RD_QD)
        have FM1 : hp_fr hm_QD τ (hl_si τ0 64 2 (nI (s + 1))) := (FMn.tr (o2.mono (fun q f h => by unfold hm_QD; omega))).si (.inl ⟨rfl, by omega⟩)
        rw [o1', Option.bind_some, H0.2.1, nI_1] at L2
        rw [hx_opens QX ho6, r1, Option.bind_some, Option.bind_some, if_neg z0]
        have hW1 : hq_tw (25 :: W) := by
          intro x hx
          rcases List.mem_cons.mp hx with h | h
          · omega
          · exact hW x h
        obtain ⟨σ2, p1, p2, p3⟩ := TO ho6 σ1 _ (s + 1) C (25 :: W) B1 Q1 hW1 (.inr ⟨W, rfl⟩)
        have hRT1 : ∀ r, hm_RT n (s + 1) (hl_si τ0 64 2 (nI (s + 1))) r → hm_RT n a τ r := fun r hr => nT r (hm_RT.step L2 (Nat.lt_succ_self s) (by omega) hr)
        rw [p1, Option.bind_some]
        rcases p3 with ⟨a2, τ2, la, cM, pd, g1, g2, g3, g4, g5, g6, g7, g8, g9, g10⟩ | ⟨τ2, g1, g2, g3⟩
        · obtain ⟨s2, hs2, R2, K2, H2, F2, lk2, -, nH2⟩ := g2.normT
          obtain ⟨gX, gM, gb, gl⟩ := g3
          have ha2 := g2.2.2.2.2.2
          have hs2n := H2.2.2.2
          rw [List.length_append, List.length_cons] at gl
          have lens : cM.length + pd.length = C.length + la.length := by rw [← List.length_append, g4, List.length_append]
          have gM2 := gM.fr F2 (fun q f h => by unfold hm_FD at h; omega)
          have sg2 := q_sgX g2.1 R2 H2 (v := 93) (by decide) (by decide)
          rw [show nI 93 = (93 : Int32) from rfl] at sg2
          unfold f_Rd_wantSign
          rw [sg2, Option.bind_some]
          by_cases c2 : s2 < n ∧ b s2 = 93
          · obtain ⟨σ3, r4, r5, r6⟩ := q_sgN g2.1 H2 c2.1 (by rw [c2.2]; rfl)
            obtain ⟨τ3, m1, m2, m3⟩ := hm_closeT g2.1 R2 H2 c2.1 c2.2 gM2 ho6 hW g5 (by omega) (by omega)
            have hx3 : hx_q (C ++ la) (o + 1) σ3 := gX.fr r5 (fun q f h => by unfold hx_RD at h; omega)
            have e8 : (σ3.1 55 8) - 1 = nI o := by rw [hx3.2.2]; exact hl_nsub (a := o + 1) (b := 1) (by omega)
            rw [if_pos c2, if_neg z0, r4, Option.bind_some, Option.bind_some, e8]
            rw [g4] at m3
            have B3 : q_b n b (s2 + 1) σ3 (hl_si (hl_si τ2 64 2 (nI s2)) 64 2 (nI (s2 + 1))) := ⟨g2.1.fr r5 (by unfold hx_RD; omega) (fun k => by unfold hx_RD; omega), R2.si (by omega), K2.fr (hp_fr.rf.si (D := fun q f => q = 64 ∧ f = 2) ⟨rfl, rfl⟩) (fun q f h => by omega), r6, hp_s01, by omega⟩
            exact ⟨_, rfl, ((FX1.tr p2).tr (r5.mono hx_RD_QD)).si (.inr (.inl ⟨rfl, .inr rfl⟩)), .inl ⟨s2 + 1, τ3, la, by omega, B3.fr (hp_fr.rf.si (D := fun q f => q = 55 ∧ f = 8) ⟨rfl, rfl⟩) (fun q f h => by omega) m2 (fun q f h => by unfold hm_QF at h; omega), ⟨hx3.op o, m3, Nat.zero_le _, by rw [List.length_append]; omega⟩, (((FM1.tr g8).tr (F2.mono hm_FD_QD)).si (.inl ⟨rfl, by omega⟩)).tr (m2.mono (fun q f h => by unfold hm_QF at h; unfold hm_QD; omega)), g9.mono (by omega), fun r hr => hRT1 r (g10 r (nH2 r (hm_RH.close m1 (Nat.lt_succ_self s2) (by omega) hn (by omega) hr)))⟩⟩
          · obtain ⟨f1, f2, f3⟩ := q_fail0 (σ := σ2) (τ := hl_si τ2 64 2 (nI s2)) (f := 1) (p := nI s2) H2.x.1 H2.x.2 (by decide)
            have hsq := hm_hasSquare gM2 (fun x hx => by
              rcases List.mem_append.mp hx with h | h
              · have := g5 x h; omega
              · have := hW1 x h; omega) (by rw [List.length_append, List.length_cons]; omega)
            have h2 := q_H2n g2.1 R2 K2 H2 g6 g7 hsq
            rw [if_pos (by simp)] at h2
            rw [if_neg c2, if_pos rfl, H2.2.2.1, Option.bind_some]
            exact ⟨_, rfl, ((FX1.tr p2).tr (f2.mono hx_FD_QD)).si (.inr (.inl ⟨rfl, .inr rfl⟩)), .inr ⟨_, f1.y (fun f => hp_sn (by omega)), ((FM1.tr g8).tr (F2.mono hm_FD_QD)).tr (f3.mono hm_FD_QD), hRT1 _ (g10 _ (nH2 _ (hm_RH.stop (hm_L0T g2.1 R2 H2 c2) h2)))⟩⟩
        · obtain ⟨σ3, w1, w2, w3⟩ := hx_noWant g1 93
          rw [w1, Option.bind_some]
          exact ⟨_, rfl, ((FX1.tr p2).tr (w3.mono hx_FD_QD)).si (.inr (.inl ⟨rfl, .inr rfl⟩)), .inr ⟨τ2, w2.y (fun f => hp_sn (by omega)), FM1.tr g2, hRT1 _ g3⟩⟩
    · rw [if_neg c, if_neg k6] at L2
      rw [if_neg c, if_pos rfl, w7, Option.bind_some]
      by_cases k7 : K = 7
      · -- ALL
        obtain ⟨t, σ1, t1, t2, t3, t4, t5, t6⟩ := q_wN T H A (by omega)
        have here := hm K (by omega)
        rw [if_pos rfl] at here
        obtain ⟨wt, -⟩ := q_wT KQ H (by omega) here
        rw [← t1] at wt
        have wt' : f_M_takes 100 τn = some (1, hl_si (hl_si τn 64 2 (nI t)) 64 4 (nI t)) := by rw [← wt, k7]; rfl
        have FT : hp_fr hm_FD τn (hl_si (hl_si τn 64 2 (nI t)) 64 4 (nI t)) := (hp_fr.rf.si ⟨rfl, by omega⟩).si ⟨rfl, by omega⟩
        obtain ⟨τ2, d1, d2, d3⟩ := hm_code (QM.fr FT (fun q f h => by unfold hm_FD at h; omega)) (by omega) (c := 13) (v := 13) rfl
        obtain ⟨σ2, c1, c2, c3⟩ := hx_emit (QX.fr t5 (fun q f h => by unfold hx_RD at h; omega)) (by omega) (c := 1) (v := 13) (by decide)
        have qf : f_M_qFact τn = some τ2 := by
          unfold f_M_qFact
          rw [wt', Option.bind_some, if_neg z0, d1, Option.bind_some]
        rw [qf, Option.bind_some] at L2
        rw [if_pos k7, if_neg z0, t4, Option.bind_some, c1, Option.bind_some]
        have B2 : q_b n b t σ2 τ2 := (q_bW T R KQ t5 t3 t6).fr c2 (fun q f h => by unfold hx_QE at h; omega) d2 (fun q f h => by unfold hm_QE at h; omega)
        exact ⟨σ2, rfl, (t5.mono hx_RD_QD).tr (c2.mono hx_QE_QD), .inl ⟨t, τ2, [13], by omega, B2, ⟨c3, d3, Nat.zero_le _, by rw [hp_len1]; omega⟩, (FMn.tr (FT.mono hm_FD_QD)).tr (d2.mono hm_QE_QD), hq_T.all.mono (by omega), fun r hr => nT r (hm_RT.fact L2 t2 t3 hn (by omega) hr)⟩⟩
      · -- a comparison
        have here := hm 7 (by omega)
        rw [if_neg k7] at here
        have h100 : f_M_takes 100 τn = some (0, τn) := (q_wF H (i := 7) here).1
        obtain ⟨σ1, τ1, p1, p2, p3, p4, p5⟩ := q_cmpFact SO NO hW Bn Qn h100
        rw [p2, Option.bind_some] at L2
        rw [if_neg k7, if_pos rfl, p1]
        rcases p5 with ⟨a1, l, g1, g2, g3, g4⟩ | g1
        · have ha1 := g2.2.2.2.2.2
          have hl3 := g3.2.2.2
          exact ⟨σ1, rfl, p3, .inl ⟨a1, τ1, l, by omega, g2, g3, FMn.tr p4, g4, fun r hr => nT r (hm_RT.fact L2 g1 ha1 hn (by omega) hr)⟩⟩
        · exact ⟨σ1, rfl, p3, .inr ⟨τ1, g1, FMn.tr p4, nT _ (hm_RT.factBad L2 g1.x.2)⟩⟩
end FACTS
