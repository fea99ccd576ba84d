/-! questions: a part, both sides -/
def q_RO (n : Nat) (b : Nat → Nat) (rec : Nat → hl_M → Option hl_M) (o : Nat) : Prop := ∀ σ τ s C W bs v1 (v4 : Int32) br cd, ((v4 = 0 ∧ br = 22 ∧ cd = 6) ∨ (v4 = 1 ∧ br = 21 ∧ cd = 5)) → hx_t n b σ → hm_r n b τ → hm_kq τ → q_os n b s σ τ → q_c C C W o bs s σ τ → ∃ σ' τ1, rec 4 σ = some σ' ∧ f_M_qPartTold_j117 1 v4 (if hq_ch n b s = 40 then nI s else -1) τ = some (.inl (1, τ1)) ∧ hp_fr hx_QD σ σ' ∧ ((∃ a' τ' l, (s + 1 < a' ∧ l.length + 1 + s ≤ a') ∧ s + 1 ≤ n ∧ q_b n b a' σ' τ' ∧ hx_q (C ++ l) o σ' ∧ hm_q (C ++ (l ++ [cd])) W o bs τ' ∧ C.length + l.length + 1 + W.length ≤ a' ∧ hp_fr hm_QD τ τ' ∧ hq_G (1 + 3 * (6 - o)) (l ++ [cd]) ∧ ∀ r, hm_RE n v1 a' W.length τ' r → hm_RP n v1 (s + 1) τ1 r) ∨ (∃ τ', q_no σ' τ' ∧ hm_fq τ τ' ∧ hm_RP n v1 s τ1 τ'))
section PART
variable {σ τ σ' τ' τ1 υ r : hl_M} {n a s t k j v K i d x o bs br cd : Nat} {b : Nat → Nat} {C CX CM W T Wt l cM pd : List Nat} {w v1 v4 : Int32} {rec : Nat → hl_M → Option hl_M}
theorem hq_xcne (h : (40 ≤ v ∧ v < 44) ∨ (60 ≤ v ∧ v < 63)) : ¬ hq_xc v = 0 := by
  have : v = 40 ∨ v = 41 ∨ v = 42 ∨ v = 43 ∨ v = 60 ∨ v = 61 ∨ v = 62 := by omega
  rcases this with rfl | rfl | rfl | rfl | rfl | rfl | rfl <;> decide
/-- the model behind a word that it took -/
theorem q_bW (T : hx_t n b σ) (R : hm_r n b τ) (KQ : hm_kq τ) {σ1 : hl_M} (F : hp_fr hx_RD σ σ1) (hs : t ≤ n) (H : q_ok n b σ1 (hl_si (hl_si τ 64 2 (nI t)) 64 4 (nI t))) : q_b n b t σ1 (hl_si (hl_si τ 64 2 (nI t)) 64 4 (nI t)) := ⟨T.fr F (by unfold hx_RD; omega) (fun k => by unfold hx_RD; omega), (R.si (by omega)).si (by omega), KQ.fr (D := fun q f => q = 64 ∧ (f = 2 ∨ f = 4)) ((hp_fr.rf.si ⟨rfl, .inl rfl⟩).si ⟨rfl, .inr rfl⟩) (fun q f h => by omega), H, by rw [hp_sn (by omega), hp_s01], hs⟩
theorem q_takePart (ho : o ≤ 6) (SO : o < 6 → q_SO n b rec (o + 1)) (PO : o < 6 → q_PO n b rec (o + 1)) (RO : q_RO n b rec o) (NO : q_NO rec) : ∀ σ τ a C W bs v1, q_b n b a σ τ → q_c C C W o bs a σ τ → ∃ σ', b_Qu_takePart rec σ = some σ' ∧ hp_fr hx_QD σ σ' ∧ ((∃ a' τ' l, (a < a' ∧ l.length + a ≤ a') ∧ q_b n b a' σ' τ' ∧ q_c (C ++ l) (C ++ l) W o bs a' σ' τ' ∧ hp_fr hm_QD τ τ' ∧ hq_G (1 + 3 * (6 - o)) l ∧ ∀ r, hm_RE n v1 a' W.length τ' r → hm_RP n v1 a τ r) ∨ (∃ τ', q_no σ' τ' ∧ hm_fq τ τ' ∧ hm_RP n v1 a τ τ')) := by
  intro σ τ a C W bs v1 B Q
  have hn := B.1.1
  have T := B.1
  have z0 : ¬ (1 : Int32) = 0 := by decide
  obtain ⟨s, hs, R, KQ, H, F1, lk, nP, -⟩ := B.norm
  have ha := B.2.2.2.2.2
  have hsn := H.2.2.2
  obtain ⟨QX, QM, Qb, Ql⟩ := Q.FD F1 hs
  obtain ⟨K, A⟩ := hq_at.ex T H
  have hw : ∀ i, i < 19 → f_Rd_isWord (19 + i) σ = some (if K = i then 1 else 0) := fun i hi => (q_wd T R KQ H A hi).1
  have hm : ∀ i, i < 19 → f_M_isHere (hq_v i) (hl_si τ 64 2 (nI s)) = some (if K = i then 1 else 0, hl_si τ 64 2 (nI s)) := fun i hi => (q_wd T R KQ H A hi).2
  have L2 := q_L2 T R H hm
  have lo := fun h => hq_at.lo T H A h
  have sg := q_sgX T R H (v := 40) (by decide) (by decide)
  rw [show nI 40 = (40 : Int32) from rfl] at sg
  have hC : C.length < 1700 := by omega
  unfold b_Qu_takePart
  generalize hτ : hl_si τ 64 2 (nI s) = τn at *
  have FMn : hp_fr hm_QD τ τn := F1.mono hm_FD_QD
  by_cases k2 : σ.1 3 1 = 2
  · -- a number
    obtain ⟨t, S, E, he, x3, kd, kd3, kd0⟩ := H.tok T
    obtain ⟨e1, e2, e3⟩ := (kd 2 (.inr rfl)).mp k2
    have e40 : ¬ (s < n ∧ b s = 40) := fun z => by rw [z.2] at e2; exact absurd e2 (by decide)
    have hK : ¬ K < 19 := fun h => by have := (lo h).1; rw [k2] at this; exact absurd this (by decide)
    have E2 := E.2.1
    have st := (E.2.2 e1).1
    obtain ⟨x, y, σ1, τ1, n1, n2, n3, n4, n5, n6⟩ := q_number2 T R (.inl H.1) 0 9999 (u := t) (fun _ => x3)
    rw [if_neg e40, if_neg (by omega), if_neg (by omega)] at L2
    have P2 := q_P2b H hm (by omega)
    rw [n2, Option.bind_some] at P2
    rw [if_pos k2, n1, Option.bind_some]
    dsimp only at P2 ⊢
    rcases n5 with n5 | n5
    · obtain ⟨rfl, -, -, ⟨v, hv, rfl⟩, -, g2⟩ := n6 n5.x.1
      have QX1 := QX.fr n3 (fun q f h => by unfold hx_FD at h; omega)
      have QM1 := QM.fr n4 (fun q f h => by unfold hm_FD at h; omega)
      obtain ⟨σ2, c1, c2, c3⟩ := hx_emit QX1 (by omega) (c := nI v) (v := 1000 + v) (by unfold hq_xc; rw [if_pos (by omega), show 1000 + v - 1000 = v by omega])
      obtain ⟨τ2, d1, d2, d3⟩ := hm_code QM1 (by omega) (c := 1000 + nI v) (v := 1000 + v) (by rw [show (1000 : Int32) = nI 1000 from rfl, nI_add])
      rw [hm_j234 d1] at P2
      rw [c1, Option.bind_some]
      have B1 : q_b n b t σ1 τ1 := ⟨T.fr n3 (by unfold hx_FD; omega) (fun k => by unfold hx_FD; omega), R.fr n4 (by unfold hm_FD; omega) (fun k => by unfold hm_FD; omega), KQ.fr n4 (fun q f h => by unfold hm_FD at h; omega), n5, g2, E2⟩
      have B2 : q_b n b t σ2 τ2 := B1.fr c2 (fun q f h => by unfold hx_QE at h; omega) d2 (fun q f h => by unfold hm_QE at h; omega)
      exact ⟨σ2, rfl, (n3.mono hx_FD_QD).tr (c2.mono hx_QE_QD), .inl ⟨t, τ2, [1000 + v], ⟨by omega, by rw [List.length_singleton]; omega⟩, B2, ⟨c3, d3, Qb, by rw [hp_len1]; omega⟩, (FMn.tr (n4.mono hm_FD_QD)).tr (d2.mono hm_QE_QD), (hq_G.num (by omega) (by omega)).mono (by omega), fun r hr => nP v1 r (hm_RP.code L2 P2 st E2 hn (by omega) hr)⟩⟩
    · obtain ⟨σ2, c1, c2⟩ := hx_emit0 (σ := σ1) x
      obtain ⟨τ2, d1, d2, dc⟩ := hm_code1 (τ := τ1) (k := C.length) (by omega) (by rw [n4.i (by unfold hm_FD; omega)]; exact QM.1.1) (1000 + y)
      have no2 : q_no σ2 τ2 := (n5.y (fun f => c2.i (by unfold hx_QE; omega))).z (fun f hf => d2.i (by unfold hm_QE; omega))
      rw [hm_j234 d1, hm_endsBad no2.x.2] at P2
      rw [c1, Option.bind_some]
      exact ⟨σ2, rfl, (n3.mono hx_FD_QD).tr (c2.mono hx_QE_QD), .inr ⟨τ2, no2, ⟨(FMn.tr (n4.mono hm_FD_QD)).tr (d2.mono hm_QE_QD), dc⟩, nP v1 _ (hm_RP.codeBad L2 P2 no2.x.2)⟩⟩
  · rw [if_neg k2, sg, Option.bind_some]
    by_cases c : s < n ∧ b s = 40
    · -- in brackets
      rw [if_pos c, if_neg z0]
      rw [if_pos c] at L2
      by_cases e6 : o = 6
      · subst e6
        obtain ⟨r1, r2, r3⟩ := q_fail0 (σ := σ) (τ := τn) (f := 4) (p := nI s) H.x.1 H.x.2 (by decide)
        have r1' : q_no (f_Rd_fail 4 (nI s) σ) (hl_si (f_M_fail 4 (nI s) τn) 64 2 (((f_M_fail 4 (nI s) τn).1 64 2) + 1)) := r1.z (fun f hf => hp_sn (by omega))
        rw [hm_opens6 QM H.x.2, Option.bind_some] at L2
        rw [hx_opens6 QX, Option.bind_some, if_pos rfl, H.2.2.1]
        exact ⟨_, rfl, r2.mono hx_FD_QD, .inr ⟨_, r1', ⟨(FMn.tr (r3.mono hm_FD_QD)).si (.inl ⟨rfl, by omega⟩), (QM.cb (by omega)).fr (r3.si (show hm_FD 64 2 from ⟨rfl, by omega⟩)) (by unfold hm_FD; omega)⟩, nP v1 _ (hm_RP.stepBad L2 r1'.x.2)⟩⟩
      · have ho6 : o < 6 := by omega
        obtain ⟨τ0, o1, o2, o3⟩ := hm_opens (v := 20) QM H.x.2 ho6 (by omega) (nI s)
        have o1' : f_M_qOpens 20 (nI s) τn = some τ0 := o1
        have FX0 : hp_fr (fun q f => q = 55 ∧ f = 8) σ (hl_si σ 55 8 (nI (o + 1))) := hp_fr.rf.si ⟨rfl, rfl⟩
        have T0 : hx_t n b (hl_si σ 55 8 (nI (o + 1))) := T.si (by omega)
        have R0 : hm_r n b τ0 := R.fr o2 (by omega) (fun k => by omega)
        have K0 : hm_kq τ0 := KQ.fr o2 (fun q f h => by omega)
        have H0 : q_os n b s (hl_si σ 55 8 (nI (o + 1))) τ0 := H.fr (fun f _ => hp_sn (by omega)) (fun f hf => o2.i (by omega))
        obtain ⟨σ1, r1, r2, r3⟩ := q_sgN T0 H0 c.1 (by rw [c.2]; rfl)
        have B1 : q_b n b (s + 1) σ1 (hl_si τ0 64 2 (nI (s + 1))) := ⟨T0.fr r2 (by unfold hx_RD; omega) (fun k => by unfold hx_RD; omega), R0.si (by omega), K0.fr (hp_fr.rf.si (D := fun q f => q = 64 ∧ f = 2) ⟨rfl, rfl⟩) (fun q f h => by omega), r3, hp_s01, by omega⟩
        have Q1 : q_c C C (20 :: W) (o + 1) bs (s + 1) σ1 (hl_si τ0 64 2 (nI (s + 1))) := ⟨(QX.op (o + 1)).fr r2 (fun q f h => by unfold hx_RD at h; omega), o3.fr (hp_fr.rf.si (D := fun q f => q = 64 ∧ f = 2) ⟨rfl, rfl⟩) (fun q f h => by omega), by rw [List.length_cons]; omega, by rw [List.length_cons]; omega⟩
        have FX1 : hp_fr hx_QD σ σ1 := (FX0.mono (fun q f h => .inr (.inl ⟨h.1, .inr h.2⟩))).tr (r2.mono hx_RD_QD)
        have FM1 : hp_fr hm_QD τ (hl_si τ0 64 2 (nI (s + 1))) := (FMn.tr (o2.mono (fun q f h => by unfold hm_QD; omega))).si (.inl ⟨rfl, by omega⟩)
        rw [o1', Option.bind_some, H0.2.1, nI_1] at L2
        rw [hx_opens QX ho6, r1, Option.bind_some, Option.bind_some, if_neg z0]
        obtain ⟨σ2, p1, p2, p3⟩ := SO ho6 σ1 _ (s + 1) C (20 :: W) bs v1 B1 Q1 (hq_ctx.mk2 (by omega) (by omega) Qb)
        have hRP1 : ∀ r, hm_RP n v1 (s + 1) (hl_si τ0 64 2 (nI (s + 1))) r → hm_RP n v1 a τ r := fun r hr => nP v1 r (hm_RP.step L2 (Nat.lt_succ_self s) (by omega) hr)
        rw [p1, Option.bind_some]
        rcases p3 with ⟨a2, τ2, la, cM, pd, g1, g2, g3, g4, g5, g6, g7, g8, g9⟩ | ⟨τ2, g1, g2, g3⟩
        · obtain ⟨σ7, k1, k2, k3⟩ := q_closeN (v1 := v1) g2 g3.1 g3.2.1 g3.2.2.2 ho6 (.inl rfl) Qb g5 g6
          rw [k1, Option.bind_some]
          refine ⟨_, rfl, (FX1.tr p2).tr k2, ?_⟩
          rcases k3 with ⟨a7, τ7, u1, u2, u3, u4, u5, u6⟩ | ⟨τ7, u1, u2, u3⟩
          · rw [if_pos rfl, List.append_nil, g4] at u4
            have hl3 := g3.2.2.2
            have lens : cM.length + pd.length = C.length + la.length := by rw [← List.length_append, g4, List.length_append]
            rw [List.length_append, List.length_cons] at hl3
            exact .inl ⟨a7, τ7, la, ⟨by omega, by omega⟩, u2, ⟨u3, u4, Qb, by rw [List.length_append]; omega⟩, (FM1.tr g7).tr u5, g8.mono (by omega), fun r hr => hRP1 r (g9 r (u6 r hr))⟩
          · exact .inr ⟨τ7, u1, hm_fq.tr (FM1.tr g7) u2, hRP1 _ (g9 _ u3)⟩
        · obtain ⟨σ3, w1, w2, w3⟩ := hx_noWant g1 41
          rw [w1, Option.bind_some]
          exact ⟨_, rfl, ((FX1.tr p2).tr (w3.mono hx_FD_QD)).si (.inr (.inl ⟨rfl, .inr rfl⟩)), .inr ⟨τ2, w2.y (fun f => hp_sn (by omega)), hm_fq.tr FM1 g2, hRP1 _ g3⟩⟩
    · rw [if_neg c, if_pos rfl, hx_ones hw, Option.bind_some]
      rw [if_neg c] at L2
      by_cases kb : 8 ≤ K ∧ K ≤ 11
      · -- a part of a beat
        rw [if_pos kb, if_neg (hq_xcne (by omega)), Option.bind_some]
        rw [if_neg (by omega), if_neg (by omega)] at L2
        have P2 := q_P2a H hm kb.1 kb.2
        have here : f_M_isHere (hq_v K) τn = some (1, τn) := by have := hm K (by omega); rw [if_pos rfl] at this; exact this
        rw [(q_wT KQ H (by omega) here).2, Option.bind_some] at P2
        obtain ⟨σ2, c1, c2, c3⟩ := hx_emit QX (by omega) (c := hq_xc (32 + K)) (v := 32 + K) rfl
        have T2 : hx_t n b σ2 := T.fr c2 (by unfold hx_QE; omega) (fun k => by unfold hx_QE; omega)
        have H2 : q_os n b s σ2 τn := H.fr (fun f _ => c2.i (by unfold hx_QE; omega)) (fun f _ => rfl)
        obtain ⟨t, σ3, t1, t2, t3, t4, t5, t6⟩ := q_wN T2 H2 (A.fr (c2.i (by unfold hx_QE; omega)) (c2.i (by unfold hx_QE; omega))) (by omega)
        rw [← t1] at P2
        have FT : hp_fr hm_FD τn (hl_si (hl_si τn 64 2 (nI t)) 64 4 (nI t)) := (hp_fr.rf.si ⟨rfl, by omega⟩).si ⟨rfl, by omega⟩
        obtain ⟨τ4, d1, d2, d3⟩ := hm_code (QM.fr FT (fun q f h => by unfold hm_FD at h; omega)) hC (c := nI (32 + K)) (v := 32 + K) rfl
        rw [hm_j234 d1] at P2
        rw [c1, Option.bind_some, t4, Option.bind_some]
        have B3 : q_b n b t σ3 τ4 := (q_bW T2 R KQ t5 t3 t6).fr (.rf (D := fun _ _ => False)) (fun q f h => h.elim) d2 (fun q f h => by unfold hm_QE at h; omega)
        exact ⟨σ3, rfl, (c2.mono hx_QE_QD).tr (t5.mono hx_RD_QD), .inl ⟨t, τ4, [32 + K], ⟨by omega, by rw [List.length_singleton]; omega⟩, B3, ⟨c3.fr t5 (fun q f h => by unfold hx_RD at h; omega), d3, Qb, by rw [hp_len1]; omega⟩, (FMn.tr (FT.mono hm_FD_QD)).tr (d2.mono hm_QE_QD), (hq_G.part (by omega) (by omega)).mono (by omega), fun r hr => nP v1 r (hm_RP.code L2 P2 t2 t3 hn (by omega) hr)⟩⟩
      · rw [if_neg kb, if_pos rfl, hx_ones2 hw, Option.bind_some]
        by_cases kn : 12 ≤ K ∧ K ≤ 14
        · -- a part of a number
          have nx : ¬ hq_xc (48 + K) = 0 := hq_xcne (by omega)
          rw [if_pos kn, if_neg nx, Option.bind_some]
          rw [if_neg (by omega), if_pos kn] at L2
          by_cases e6 : o = 6
          · subst e6
            obtain ⟨r1, r2, r3⟩ := q_fail0 (σ := σ) (τ := τn) (f := 4) (p := nI s) H.x.1 H.x.2 (by decide)
            rw [hm_opens6 QM H.x.2, Option.bind_some, hm_asksWord (by omega) kn.2] at L2
            have ab : f_M_asks (hq_v K) (f_M_fail 4 (nI s) τn) = some (f_M_fail 4 (nI s) τn) := by
              unfold f_M_asks
              rw [if_neg r1.x.2]
            rw [ab, Option.bind_some] at L2
            rw [hx_opens6 QX, Option.bind_some, if_pos rfl, H.2.2.1]
            exact ⟨_, rfl, r2.mono hx_FD_QD, .inr ⟨_, r1, ⟨FMn.tr (r3.mono hm_FD_QD), (QM.cb (by omega)).fr r3 (by unfold hm_FD; omega)⟩, nP v1 _ (hm_RP.stepBad L2 r1.x.2)⟩⟩
          · have ho6 : o < 6 := by omega
            obtain ⟨τ0, o1, o2, o3⟩ := hm_opens (v := 48 + K) QM H.x.2 ho6 (by omega) (nI s)
            have T0 : hx_t n b (hl_si σ 55 8 (nI (o + 1))) := T.si (by omega)
            have R0 : hm_r n b τ0 := R.fr o2 (by omega) (fun k => by omega)
            have K0 : hm_kq τ0 := KQ.fr o2 (fun q f h => by omega)
            have H0 : q_os n b s (hl_si σ 55 8 (nI (o + 1))) τ0 := H.fr (fun f _ => hp_sn (by omega)) (fun f hf => o2.i (by omega))
            have A0 : hq_at b s (hl_si σ 55 8 (nI (o + 1))) K := A.fr (hp_sn (by omega)) (hp_sn (by omega))
            have here := (q_wd T0 R0 K0 H0 A0 (i := K) (by omega)).2
            rw [if_pos rfl] at here
            obtain ⟨t, σ1, t1, t2, t3, t4, t5, t6⟩ := q_wN T0 H0 A0 (by omega)
            have wt := (q_wT K0 H0 (by omega) here).2
            rw [← t1] at wt
            rw [o1, Option.bind_some, hm_asksWord (by omega) kn.2, wt, Option.bind_some] at L2
            have B1 : q_b n b t σ1 (hl_si (hl_si τ0 64 2 (nI t)) 64 4 (nI t)) := q_bW T0 R0 K0 t5 t3 t6
            have FT : hp_fr hm_FD τ0 (hl_si (hl_si τ0 64 2 (nI t)) 64 4 (nI t)) := (hp_fr.rf.si ⟨rfl, by omega⟩).si ⟨rfl, by omega⟩
            have Q1 : q_c C C ((48 + K) :: W) (o + 1) bs t σ1 (hl_si (hl_si τ0 64 2 (nI t)) 64 4 (nI t)) := ⟨(QX.op (o + 1)).fr t5 (fun q f h => by unfold hx_RD at h; omega), o3.fr FT (fun q f h => by unfold hm_FD at h; omega), by rw [List.length_cons]; omega, by rw [List.length_cons]; omega⟩
            have FX1 : hp_fr hx_QD σ σ1 := (hp_fr.rf.si (.inr (.inl ⟨rfl, .inr rfl⟩))).tr (t5.mono hx_RD_QD)
            have FM1 : hp_fr hm_QD τ (hl_si (hl_si τ0 64 2 (nI t)) 64 4 (nI t)) := (FMn.tr (o2.mono (fun q f h => by unfold hm_QD; omega))).tr (FT.mono hm_FD_QD)
            have hRP1 : ∀ r, hm_RP n v1 t (hl_si (hl_si τ0 64 2 (nI t)) 64 4 (nI t)) r → hm_RP n v1 a τ r := fun r hr => nP v1 r (hm_RP.step L2 t2 t3 hr)
            rw [hx_opens QX ho6, t4, Option.bind_some, Option.bind_some, if_neg z0]
            obtain ⟨σ2, p1, p2, p3⟩ := PO ho6 σ1 _ t C ((48 + K) :: W) bs v1 B1 Q1
            rw [p1, Option.bind_some]
            rcases p3 with ⟨a2, τ2, la, g1, g2, g3, g4, g5, g6⟩ | ⟨τ2, g1, g2, g3⟩
            · have hl3 := g3.2.2.2
              have ha2 := g2.2.2.2.2.2
              rw [List.length_append, List.length_cons] at hl3
              obtain ⟨τ3, m1, m2, m3⟩ := hm_RE.pop g3.2.1 Qb (by omega) (by omega) g2.2.2.2.1.x.2 (by rw [List.length_append]; omega) (by omega) (by omega)
              have e8 : (σ2.1 55 8) - 1 = nI o := by rw [g3.1.2.2]; exact hl_nsub (a := o + 1) (b := 1) (by omega)
              obtain ⟨σ3, c1, c2, c3⟩ := hx_emit (g3.1.op o) (by rw [List.length_append]; omega) (c := hq_xc (48 + K)) (v := 48 + K) rfl
              rw [e8, c1, Option.bind_some]
              have B3 : q_b n b a2 σ3 τ3 := g2.fr (DX := fun q f => hx_QE q f ∨ (q = 55 ∧ f = 8)) ((hp_fr.rf.si (.inr ⟨rfl, rfl⟩)).tr (c2.mono (fun q f h => .inl h))) (fun q f h => by unfold hx_QE at h; omega) m1 (fun q f h => by unfold hm_QF at h; omega)
              refine ⟨σ3, rfl, ((FX1.tr p2).si (.inr (.inl ⟨rfl, .inr rfl⟩))).tr (c2.mono hx_QE_QD), .inl ⟨a2, τ3, la ++ [48 + K], ⟨by omega, by rw [List.length_append, List.length_singleton]; omega⟩, B3, ⟨by rw [← List.append_assoc]; exact c3, by rw [← List.append_assoc]; exact m2, Qb, by rw [List.length_append, List.length_append, List.length_singleton]; omega⟩, (FM1.tr g4).tr (m1.mono (fun q f h => by unfold hm_QF at h; unfold hm_QD; omega)), (g5.mono (by omega)).of (by omega) (by omega), fun r hr => hRP1 r (g6 r (m3 n v1 a2 r hr))⟩⟩
            · obtain ⟨σ3, c1, c2⟩ := hx_emit0 (σ := hl_si σ2 55 8 ((σ2.1 55 8) - 1)) (hq_xc (48 + K))
              rw [c1, Option.bind_some]
              exact ⟨σ3, rfl, ((FX1.tr p2).si (.inr (.inl ⟨rfl, .inr rfl⟩))).tr (c2.mono hx_QE_QD), .inr ⟨τ2, (g1.y (σ' := hl_si σ2 55 8 ((σ2.1 55 8) - 1)) (fun f => hp_sn (by omega))).y (fun f => c2.i (by unfold hx_QE; omega)), hm_fq.tr FM1 g2, hRP1 _ g3⟩⟩
        · have w15 : f_Rd_isWord 34 σ = some (if K = 15 then 1 else 0) := hw 15 (by omega)
          have w16 : f_Rd_isWord 35 σ = some (if K = 16 then 1 else 0) := hw 16 (by omega)
          rw [if_neg kn, if_pos rfl, w15, Option.bind_some]
          by_cases kk : K = 15 ∨ K = 16
          · -- the least, the greatest of two
            have e164 : ((if (if K = 15 then (1 : Int32) else 0) = 0 then ((f_Rd_isWord 35 σ).bind fun x9 => if x9 = 0 then some (f_Rd_fail 1 (σ.1 3 2) σ) else f_Qu_takePart_j164 rec σ) else f_Qu_takePart_j164 rec σ)) = f_Qu_takePart_j183 rec (if K = 15 then -9 else -10) σ := by
              unfold f_Qu_takePart_j164
              rw [w15, w16, Option.bind_some, Option.bind_some]
              rcases kk with rfl | rfl <;> rfl
            rw [e164]
            rw [if_pos kk] at L2
            obtain ⟨t, σ1, t1, t2, t3, t4, t5, t6⟩ := q_wN T H A (by omega)
            have here := hm K (by omega)
            rw [if_pos rfl] at here
            obtain ⟨wt1, wt2⟩ := q_wT KQ H (by omega) here
            rw [← t1] at wt1 wt2
            have FT : hp_fr hm_FD τn (hl_si (hl_si τn 64 2 (nI t)) 64 4 (nI t)) := (hp_fr.rf.si ⟨rfl, by omega⟩).si ⟨rfl, by omega⟩
            have j77 : f_M_qPartTold_j77 1 τn = f_M_qPartTold_j100 1 (if K = 15 then 1 else 0) (hl_si (hl_si τn 64 2 (nI t)) 64 4 (nI t)) := by
              unfold f_M_qPartTold_j77
              rcases kk with rfl | rfl
              · have e : f_M_takes 101 τn = some (1, hl_si (hl_si τn 64 2 (nI t)) 64 4 (nI t)) := wt1
                rw [e, Option.bind_some, if_neg z0]
                rfl
              · have e : f_M_takes 101 τn = some (0, τn) := (q_wF H (i := 15) (by have := hm 15 (by omega); rw [if_neg (by decide)] at this; exact this)).1
                have e' : f_M_asks 102 τn = some (hl_si (hl_si τn 64 2 (nI t)) 64 4 (nI t)) := wt2
                rw [e, Option.bind_some, if_pos rfl, e', Option.bind_some]
                rfl
            have B1 : q_b n b t σ1 (hl_si (hl_si τn 64 2 (nI t)) 64 4 (nI t)) := q_bW T R KQ t5 t3 t6
            obtain ⟨s1, hs1, R1, K1, H1, F2, lk1, -, -⟩ := B1.norm
            have j100 : f_M_qPartTold_j100 1 (if K = 15 then 1 else 0) (hl_si (hl_si τn 64 2 (nI t)) 64 4 (nI t)) = f_M_qPartTold_j117 1 (if K = 15 then 1 else 0) (if hq_ch n b s1 = 40 then nI s1 else -1) (hl_si (hl_si (hl_si τn 64 2 (nI t)) 64 4 (nI t)) 64 2 (nI s1)) := by
              unfold f_M_qPartTold_j100
              rw [lk1, Option.bind_some]
              dsimp only
              rw [H1.2.1]
              split <;> rfl
            have Q1 : q_c C C W o bs s1 σ1 (hl_si (hl_si (hl_si τn 64 2 (nI t)) 64 4 (nI t)) 64 2 (nI s1)) := ⟨QX.fr t5 (fun q f h => by unfold hx_RD at h; omega), (QM.fr FT (fun q f h => by unfold hm_FD at h; omega)).fr F2 (fun q f h => by unfold hm_FD at h; omega), Qb, by omega⟩
            have T1 := B1.1
            obtain ⟨σ2, τ4, p1, p2, p3, p4⟩ := RO σ1 _ s1 C W bs v1 (if K = 15 then 1 else 0) (if K = 15 then 21 else 22) (if K = 15 then 5 else 6) (by rcases kk with rfl | rfl; exact .inr ⟨rfl, rfl, rfl⟩; exact .inl ⟨rfl, rfl, rfl⟩) T1 R1 K1 H1 Q1
            rw [j77, j100, p2] at L2
            have FM4 : hp_fr hm_QD τ (hl_si (hl_si (hl_si τn 64 2 (nI t)) 64 4 (nI t)) 64 2 (nI s1)) := (FMn.tr (FT.mono hm_FD_QD)).tr (F2.mono hm_FD_QD)
            unfold f_Qu_takePart_j183
            rw [t4, Option.bind_some, p1, Option.bind_some]
            have exc : (if K = 15 then (-9 : Int32) else -10) = hq_xc (if K = 15 then 5 else 6) := by rcases kk with rfl | rfl <;> decide
            rw [exc]
            generalize (if K = 15 then 5 else 6) = cd at *
            rcases p4 with ⟨a4, τ6, l, g1, g1', g2, g3, g4, g5, g6, g7, g8⟩ | ⟨τ6, g1, g2, g3⟩
            · have ha4 := g2.2.2.2.2.2
              obtain ⟨σ5, c1, c2, c3⟩ := hx_emit g3 (by rw [List.length_append]; omega) (c := hq_xc cd) (v := cd) rfl
              rw [c1, Option.bind_some]
              have B5 : q_b n b a4 σ5 τ6 := g2.fr c2 (fun q f h => by unfold hx_QE at h; omega) (.rf (D := fun _ _ => False)) (fun q f h => h.elim)
              exact ⟨σ5, rfl, ((t5.mono hx_RD_QD).tr p3).tr (c2.mono hx_QE_QD), .inl ⟨a4, τ6, l ++ [cd], ⟨by omega, by rw [List.length_append, List.length_singleton]; omega⟩, B5, ⟨by rw [← List.append_assoc]; exact c3, g4, Qb, by rw [List.length_append, List.length_append, List.length_singleton]; omega⟩, FM4.tr g6, g7, fun r hr => nP v1 r (hm_RP.step L2 (show s < s1 + 1 by omega) g1' (g8 r hr))⟩⟩
            · obtain ⟨σ5, c1, c2⟩ := hx_emit0 (σ := σ2) (hq_xc cd)
              rw [c1, Option.bind_some]
              refine ⟨σ5, rfl, ((t5.mono hx_RD_QD).tr p3).tr (c2.mono hx_QE_QD), .inr ⟨τ6, g1.y (fun f => c2.i (by unfold hx_QE; omega)), hm_fq.tr FM4 g2, nP v1 _ ?_⟩⟩
              have := H1.2.2.2
              exact hm_RP.step L2 (show s < s1 by omega) this g3
          · -- nothing of these
            have k15 : ¬ K = 15 := fun h => kk (.inl h)
            have k16 : ¬ K = 16 := fun h => kk (.inr h)
            rw [if_neg k15, if_pos rfl, w16, if_neg k16, Option.bind_some, if_pos rfl]
            rw [if_neg kk, if_neg kn] at L2
            have P2 := q_P2b H hm kb
            obtain ⟨x, y, σ1, τ1, n1, n2, n3, n4, n5, n6⟩ := q_number T R (.inl H.1) 0 9999
            have eX : f_Rd_wantNumber 0 9999 σ = some (-1, f_Rd_fail 1 (σ.1 3 2) σ) := by
              unfold f_Rd_wantNumber
              rw [if_neg k2]
            rw [eX] at n1
            have e1 : f_Rd_fail 1 (σ.1 3 2) σ = σ1 := congrArg Prod.snd (Option.some.inj n1)
            have no1 : q_no σ1 τ1 := by
              rcases n5 with h | h
              · exfalso
                have := (q_fail0 (σ := σ) (τ := τn) (f := 1) (p := σ.1 3 2) H.x.1 H.x.2 (by decide)).1.1
                rw [e1] at this
                exact this h.x.1
              · exact h
            obtain ⟨τ2, d1, d2, dc⟩ := hm_code1 (τ := τ1) (k := C.length) (by omega) (by rw [n4.i (by unfold hm_FD; omega)]; exact QM.1.1) (1000 + y)
            have no2 : q_no σ1 τ2 := no1.z (fun f hf => d2.i (by unfold hm_QE; omega))
            rw [n2, Option.bind_some, hm_j234 d1, hm_endsBad no2.x.2] at P2
            rw [e1]
            exact ⟨σ1, rfl, n3.mono hx_FD_QD, .inr ⟨τ2, no2, ⟨(FMn.tr (n4.mono hm_FD_QD)).tr (d2.mono hm_QE_QD), dc⟩, nP v1 _ (hm_RP.codeBad L2 P2 no2.x.2)⟩⟩
end PART
