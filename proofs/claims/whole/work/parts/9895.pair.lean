/-! questions: two in brackets, both sides -/
def q_NO (rec : Nat → hl_M → Option hl_M) : Prop := ∀ k, k < 5 → ∀ σ τ, q_no σ τ → ∃ σ', rec k σ = some σ' ∧ hp_fr hx_QD σ σ' ∧ q_no σ' τ
section PAIR
variable {σ τ σ' τ' τ1 υ r : hl_M} {n a s t k j v K i d x o bs br cd : Nat} {b : Nat → Nat} {C CX CM W T Wt l cM pd : List Nat} {w v1 v4 : Int32} {rec : Nat → hl_M → Option hl_M}
theorem hx_opens (Q : hx_q C o σ) (ho : o < 6) : f_Qu_opens σ = (f_Rd_advance (hl_si σ 55 8 (nI (o + 1)))).bind fun x1 => some (1, x1) := by
  unfold f_Qu_opens
  rw [Q.2.2, if_pos (show nI o < (6 : Int32) from (hl_lt (a := o) (b := 6) (by omega) (by omega)).mpr ho), nI_1]
theorem hx_opens6 (Q : hx_q C 6 σ) : f_Qu_opens σ = some (0, f_Rd_fail 4 (σ.1 3 2) σ) := by
  unfold f_Qu_opens
  rw [Q.2.2, if_neg (by decide)]
theorem q_no.z (H : q_no σ τ) (F : ∀ f, f = 5 ∨ f = 6 → τ'.1 64 f = τ.1 64 f) : q_no σ τ' := H.fr (fun f _ => rfl) F
/-- behind a bracket that closes: state and stage -/
theorem q_closeN (B : q_b n b a σ τ) (hx : hx_q CX (o + 1) σ) (Q : hm_q cM (pd ++ br :: W) (o + 1) bs τ) (hl : cM.length + (pd ++ br :: W).length ≤ a) (ho : o < 6) (hbr : br = 20 ∨ br = 23 ∨ br = 24) (h3 : bs ≤ W.length) (hP : ∀ x ∈ pd, 1 ≤ x ∧ x ≤ 4) (hc : f_Qu_calculation σ = some 0) : ∃ σ1, f_Rd_wantSign 41 σ = some σ1 ∧ hp_fr hx_QD σ (hl_si σ1 55 8 ((σ1.1 55 8) - 1)) ∧ ((∃ a' τ', a < a' ∧ q_b n b a' (hl_si σ1 55 8 ((σ1.1 55 8) - 1)) τ' ∧ hx_q CX o (hl_si σ1 55 8 ((σ1.1 55 8) - 1)) ∧ hm_q (cM ++ pd ++ (if br = 20 then [] else [if br = 23 then 5 else 6])) W o bs τ' ∧ hp_fr hm_QD τ τ' ∧ ∀ r, hm_RE n v1 a' W.length τ' r → hm_RG n v1 a τ r) ∨ (∃ τ', q_no (hl_si σ1 55 8 ((σ1.1 55 8) - 1)) τ' ∧ hm_fq τ τ' ∧ hm_RG n v1 a τ τ')) := by
  obtain ⟨s, hs, R1, K1, H1, F1, lk, nP, nG⟩ := B.norm
  have hn := B.1.1
  have ha := B.2.2.2.2.2
  rw [List.length_append, List.length_cons] at hl
  have Q1 := Q.fr F1 (fun q f h => by unfold hm_FD at h; omega)
  have sg := q_sgX B.1 R1 H1 (v := 41) (by decide) (by decide)
  rw [show nI 41 = (41 : Int32) from rfl] at sg
  unfold f_Rd_wantSign
  rw [sg, Option.bind_some]
  by_cases c : s < n ∧ b s = 41
  · obtain ⟨σ1, r1, r2, r3⟩ := q_sgN B.1 H1 c.1 (by rw [c.2]; rfl)
    obtain ⟨τ3, m1, m2, m3⟩ := hm_close B.1 R1 H1 c.1 c.2 Q1 ho hbr h3 hP (by omega) (by omega)
    have hx1 : hx_q CX (o + 1) σ1 := hx.fr r2 (fun q f h => by unfold hx_RD at h; omega)
    have e8 : (σ1.1 55 8) - 1 = nI o := by rw [hx1.2.2]; exact hl_nsub (a := o + 1) (b := 1) (by omega)
    rw [if_pos c, if_neg (by decide), r1, Option.bind_some]
    have B1 : q_b n b (s + 1) σ1 (hl_si (hl_si τ 64 2 (nI s)) 64 2 (nI (s + 1))) := ⟨B.1.fr r2 (by unfold hx_RD; omega) (fun k => by unfold hx_RD; omega), R1.si (by omega), K1.fr (hp_fr.rf.si (D := fun q f => q = 64 ∧ f = 2) ⟨rfl, rfl⟩) (fun q f h => by omega), r3, hp_s01, by omega⟩
    refine ⟨σ1, rfl, (r2.mono hx_RD_QD).si (.inr (.inl ⟨rfl, .inr rfl⟩)), .inl ⟨s + 1, τ3, by omega, B1.fr (hp_fr.rf.si (D := fun q f => q = 55 ∧ f = 8) ⟨rfl, rfl⟩) (fun q f h => by omega) m2 (fun q f h => by unfold hm_QF at h; omega), by rw [e8]; exact hx1.op o, m3, ((F1.mono hm_FD_QD).si (.inl ⟨rfl, by omega⟩)).tr (m2.mono (fun q f h => by unfold hm_QF at h; unfold hm_QD; omega)), fun r hr => nG v1 r (hm_RG.close m1 (Nat.lt_succ_self s) (by omega) hn (by omega) hr)⟩⟩
  · have eb := hm_brE (by omega) (by omega) h3 hP Q1 (by rw [List.length_cons]; omega)
    obtain ⟨r1, r2, r3⟩ := q_fail0 (σ := σ) (τ := hl_si τ 64 2 (nI s)) (f := 1) (p := nI s) H1.x.1 H1.x.2 (by decide)
    rw [if_neg c, if_pos rfl, H1.2.2.1]
    refine ⟨_, rfl, (r2.mono hx_FD_QD).si (.inr (.inl ⟨rfl, .inr rfl⟩)), .inr ⟨_, r1.y (fun f => hp_sn (by omega)), ⟨(F1.tr r3).mono hm_FD_QD, (Q1.cb (by omega)).fr r3 (by unfold hm_FD; omega)⟩, nG v1 _ (hm_RG.stop (hm_L0n B.1 R1 H1 c) ?_)⟩⟩
    rw [q_G2n B.1 R1 H1 hc, hm_G3f H1 hbr eb]
theorem hm_L0n' (T : hx_t n b σ) (R : hm_r n b τ) (H : q_os n b s σ τ) (Q : hm_q cM (pd ++ br :: W) o bs τ) (h3 : bs ≤ W.length) (hP : ∀ x ∈ pd, 1 ≤ x ∧ x ≤ 4) (hbr : br = 21 ∨ br = 22) (hl : pd.length + W.length < 1699) : f_M_qGoesOn_L0 τ = some (.inr τ) := by
  by_cases c : s < n ∧ b s = 41
  · have eb := hm_brE (by omega) (by omega) h3 hP Q (by rw [List.length_cons]; omega)
    have hc : hq_ch n b s = 41 := (hq_chE R (v := 41) (by decide)).mpr c
    unfold f_M_qGoesOn_L0
    rw [if_pos H.x.2, H.look T R, Option.bind_some]
    dsimp only
    rw [if_pos hc, eb, Option.bind_some, Option.bind_some, Option.bind_some]
    rcases hbr with rfl | rfl
    · rw [if_neg (by decide), if_neg (by decide), if_neg (by decide)]
    · rw [if_neg (by decide), if_neg (by decide), if_neg (by decide)]
  · exact hm_L0n T R H c
theorem q_takePair (ho : o ≤ 6) (SO : o < 6 → q_SO n b rec (o + 1)) (NO : q_NO rec) (hv : (v4 = 0 ∧ br = 22 ∧ cd = 6) ∨ (v4 = 1 ∧ br = 21 ∧ cd = 5)) (T : hx_t n b σ) (R : hm_r n b τ) (KQ : hm_kq τ) (H : q_os n b s σ τ) (Q : q_c C C W o bs s σ τ) : ∃ σ' τ1, b_Qu_takePair rec σ = some σ' ∧ f_M_qPartTold_j117 1 v4 (if hq_ch n b s = 40 then nI s else -1) τ = some (.inl (1, τ1)) ∧ hp_fr hx_QD σ σ' ∧ ((∃ a' τ' l, (s + 1 < a' ∧ l.length + 1 + s ≤ a') ∧ s + 1 ≤ n ∧ q_b n b a' σ' τ' ∧ hx_q (C ++ l) o σ' ∧ hm_q (C ++ (l ++ [cd])) W o bs τ' ∧ C.length + l.length + 1 + W.length ≤ a' ∧ hp_fr hm_QD τ τ' ∧ hq_G (1 + 3 * (6 - o)) (l ++ [cd]) ∧ ∀ r, hm_RE n v1 a' W.length τ' r → hm_RP n v1 (s + 1) τ1 r) ∨ (∃ τ', q_no σ' τ' ∧ hm_fq τ τ' ∧ hm_RP n v1 s τ1 τ')) := by
  have hn := T.1
  have z0 : ¬ (1 : Int32) = 0 := by decide
  obtain ⟨QX, QM, Qb, Ql⟩ := Q
  have hsn := H.2.2.2
  have sg := q_sgX T R H (v := 40) (by decide) (by decide)
  rw [show nI 40 = (40 : Int32) from rfl] at sg
  unfold b_Qu_takePair f_M_qPartTold_j117
  rw [sg, Option.bind_some]
  by_cases c : s < n ∧ b s = 40
  · have hc : hq_ch n b s = 40 := (hq_chE R (v := 40) (by decide)).mpr c
    have nm : ¬ nI s = -1 := hl_nm1 (by omega)
    have e138 : (if v4 = 0 then f_M_qPartTold_j138 1 (nI s) 22 τ else f_M_qPartTold_j138 1 (nI s) 21 τ) = f_M_qPartTold_j138 1 (nI s) (nI br) τ := by
      rcases hv with ⟨rfl, rfl, -⟩ | ⟨rfl, rfl, -⟩
      · rw [if_pos rfl]; rfl
      · rw [if_neg z0]; rfl
    rw [if_pos c, if_neg z0, if_pos hc, if_neg nm, e138]
    unfold f_M_qPartTold_j138 f_M_qPartTold_j143
    by_cases e6 : o = 6
    · subst e6
      obtain ⟨r1, r2, r3⟩ := q_fail0 (σ := σ) (τ := τ) (f := 4) (p := nI s) H.x.1 H.x.2 (by decide)
      rw [hx_opens6 QX, Option.bind_some, if_pos rfl, hm_opens6 QM H.x.2, Option.bind_some, hm_sign_no r1.x.2, Option.bind_some, H.2.2.1]
      exact ⟨_, _, rfl, rfl, r2.mono hx_FD_QD, .inr ⟨_, r1, ⟨r3.mono hm_FD_QD, (QM.cb (by omega)).fr r3 (by unfold hm_FD; omega)⟩, hm_RP.bad r1.x.2⟩⟩
    · have ho6 : o < 6 := by omega
      obtain ⟨τ0, o1, o2, o3⟩ := hm_opens (v := br) QM H.x.2 ho6 (by omega) (nI s)
      have FX0 : hp_fr (fun q f => q = 55 ∧ f = 8) σ (hl_si σ 55 8 (nI (o + 1))) := hp_fr.rf.si ⟨rfl, rfl⟩
      have T0 : hx_t n b (hl_si σ 55 8 (nI (o + 1))) := T.si (by omega)
      have R0 : hm_r n b τ0 := R.fr o2 (by omega) (fun k => by omega)
      have K0 : hm_kq τ0 := KQ.fr o2 (fun q f h => by omega)
      have H0 : q_os n b s (hl_si σ 55 8 (nI (o + 1))) τ0 := H.fr (fun f _ => hp_sn (by omega)) (fun f hf => o2.i (by omega))
      obtain ⟨σ1, r1, r2, r3⟩ := q_sgN T0 H0 c.1 (by rw [c.2]; rfl)
      have sm := q_sgM T0 R0 H0 (v := 40) (by decide)
      rw [show nI 40 = (40 : Int32) from rfl, if_pos c] at sm
      have ask : f_M_asksSign 40 τ0 = some (hl_si τ0 64 2 (nI (s + 1))) := by
        unfold f_M_asksSign
        rw [if_pos H0.x.2, sm, Option.bind_some, if_neg z0]
      have B1 : q_b n b (s + 1) σ1 (hl_si τ0 64 2 (nI (s + 1))) := ⟨T0.fr r2 (by unfold hx_RD; omega) (fun k => by unfold hx_RD; omega), R0.si (by omega), K0.fr (hp_fr.rf.si (D := fun q f => q = 64 ∧ f = 2) ⟨rfl, rfl⟩) (fun q f h => by omega), r3, hp_s01, by omega⟩
      have Q1 : q_c C C (br :: W) (o + 1) bs (s + 1) σ1 (hl_si τ0 64 2 (nI (s + 1))) := ⟨(QX.op (o + 1)).fr r2 (fun q f h => by unfold hx_RD at h; omega), o3.fr (hp_fr.rf.si (D := fun q f => q = 64 ∧ f = 2) ⟨rfl, rfl⟩) (fun q f h => by omega), by rw [List.length_cons]; omega, by rw [List.length_cons]; omega⟩
      have FX1 : hp_fr hx_QD σ σ1 := (FX0.mono (fun q f h => .inr (.inl ⟨h.1, .inr h.2⟩))).tr (r2.mono hx_RD_QD)
      have FM1 : hp_fr hm_QD τ (hl_si τ0 64 2 (nI (s + 1))) := (o2.mono (fun q f h => by unfold hm_QD; omega)).si (.inl ⟨rfl, by omega⟩)
      rw [hx_opens QX ho6, r1, Option.bind_some, Option.bind_some, if_neg z0, o1, Option.bind_some, ask, Option.bind_some]
      obtain ⟨σ2, p1, p2, p3⟩ := SO ho6 σ1 _ (s + 1) C (br :: W) bs v1 B1 Q1 (hq_ctx.mk2 (by omega) (by omega) Qb)
      rw [p1, Option.bind_some]
      have deadX : ∀ (σa τa : hl_M), q_no σa τa → ∃ σ', ((rec 2 σa).bind fun x5 => (f_Rd_wantSign 41 x5).bind fun x6 => some (hl_si x6 55 8 ((x6.1 55 8) - 1))) = some σ' ∧ hp_fr hx_QD σa σ' ∧ q_no σ' τa := by
        intro σa τa no
        obtain ⟨σb, b1, b2, b3⟩ := NO 2 (by omega) σa τa no
        obtain ⟨σc, c1, c2, c3⟩ := hx_noWant b3 41
        rw [b1, Option.bind_some, c1, Option.bind_some]
        exact ⟨_, rfl, (b2.tr (c3.mono hx_FD_QD)).si (.inr (.inl ⟨rfl, .inr rfl⟩)), c2.y (fun f => hp_sn (by omega))⟩
      rcases p3 with ⟨a2, τ2, la, cM, pd, g1, g2, g3, g4, g5, g6, g7, g8, g9⟩ | ⟨τ2, g1, g2, g3⟩
      · obtain ⟨s2, hs2, R2, K2, H2, F2, lk2, nP2, nG2⟩ := g2.norm
        obtain ⟨gX, gM, gb, gl⟩ := g3
        have ha2 := g2.2.2.2.2.2
        have hs2n := H2.2.2.2
        rw [List.length_append, List.length_cons] at gl
        have gM2 := gM.fr F2 (fun q f h => by unfold hm_FD at h; omega)
        obtain ⟨cY, cN⟩ := hm_G3c g2.1 R2 H2 gM2 (by omega) Qb g5 (by omega) (by omega)
        have sg2 := q_sgX g2.1 R2 H2 (v := 44) (by decide) (by decide)
        rw [show nI 44 = (44 : Int32) from rfl] at sg2
        have lens : cM.length + pd.length = C.length + la.length := by rw [← List.length_append, g4, List.length_append]
        unfold f_Rd_wantSign
        rw [sg2, Option.bind_some]
        by_cases c2 : s2 < n ∧ b s2 = 44
        · obtain ⟨τ5, m1, m2, m3⟩ := cY c2
          obtain ⟨σ3, r4, r5, r6⟩ := q_sgN g2.1 H2 c2.1 (by rw [c2.2]; rfl)
          rw [if_pos c2, if_neg z0, r4, Option.bind_some, Option.bind_some]
          have B3 : q_b n b (s2 + 1) σ3 τ5 := by
            have B3' : q_b n b (s2 + 1) σ3 (hl_si (hl_si τ2 64 2 (nI s2)) 64 2 (nI (s2 + 1))) := ⟨g2.1.fr r5 (by unfold hx_RD; omega) (fun k => by unfold hx_RD; omega), R2.si (by omega), K2.fr (hp_fr.rf.si (D := fun q f => q = 64 ∧ f = 2) ⟨rfl, rfl⟩) (fun q f h => by omega), r6, hp_s01, by omega⟩
            exact B3'.fr (.rf (D := fun _ _ => False)) (fun q f h => h.elim) m2 (fun q f h => by unfold hm_QF at h; omega)
          rw [g4] at m3
          have Q3 : q_c (C ++ la) (C ++ la) ((br + 2) :: W) (o + 1) bs (s2 + 1) σ3 τ5 := ⟨gX.fr r5 (fun q f h => by unfold hx_RD at h; omega), m3, by rw [List.length_cons]; omega, by rw [List.length_cons, List.length_append]; omega⟩
          have FM5 : hp_fr hm_QD τ τ5 := (((FM1.tr g7).tr (F2.mono hm_FD_QD)).si (.inl ⟨rfl, by omega⟩)).tr (m2.mono (fun q f h => by unfold hm_QF at h; unfold hm_QD; omega))
          have hRP5 : ∀ r, hm_RP n v1 (s2 + 1) τ5 r → hm_RP n v1 (s + 1) (hl_si τ0 64 2 (nI (s + 1))) r := fun r hr => g9 r (nG2 v1 r (hm_RG.next (hm_L0n g2.1 R2 H2 (by omega)) ((q_G2n g2.1 R2 H2 g6).trans m1) B3.2.2.2.1.x.2 (Nat.lt_succ_self s2) (by omega) hn hr))
          obtain ⟨σ4, t1, t2, t3⟩ := SO ho6 σ3 τ5 (s2 + 1) (C ++ la) ((br + 2) :: W) bs v1 B3 Q3 (hq_ctx.mk2 (by omega) (by omega) Qb)
          rw [t1, Option.bind_some]
          have FX4 : hp_fr hx_QD σ σ4 := ((FX1.tr p2).tr (r5.mono hx_RD_QD)).tr t2
          rcases t3 with ⟨a4, τ6, lc, cM2, pd2, h1, h2, h3, h4, h5, h6, h7, h8, h9⟩ | ⟨τ6, h1, h2, h3⟩
          · have lens2 : cM2.length + pd2.length = C.length + la.length + lc.length := by rw [← List.length_append, h4, List.length_append, List.length_append]
            obtain ⟨σ7, k1, k2, k3⟩ := q_closeN (v1 := v1) h2 h3.1 h3.2.1 h3.2.2.2 ho6 (by omega) Qb h5 h6
            unfold f_Rd_wantSign at k1
            rw [k1, Option.bind_some]
            refine ⟨_, _, rfl, rfl, FX4.tr k2, ?_⟩
            have ecd : (if br + 2 = 20 then [] else [if br + 2 = 23 then 5 else 6]) = [cd] := by
              rcases hv with ⟨-, rfl, rfl⟩ | ⟨-, rfl, rfl⟩ <;> rfl
            rcases k3 with ⟨a7, τ7, u1, u2, u3, u4, u5, u6⟩ | ⟨τ7, u1, u2, u3⟩
            · rw [ecd, h4] at u4
              have hl3 := h3.2.2.2
              rw [List.length_append, List.length_cons] at hl3
              refine .inl ⟨a7, τ7, la ++ lc, ⟨by omega, by rw [List.length_append]; omega⟩, by omega, u2, by rw [← List.append_assoc]; exact u3, ?_, ?_, (FM5.tr h7).tr u5, ?_, fun r hr => hRP5 r (h9 r (u6 r hr))⟩
              · have : C ++ la ++ lc ++ [cd] = C ++ (la ++ lc ++ [cd]) := by simp [List.append_assoc]
                rw [← this]; exact u4
              · rw [List.length_append]; omega
              · exact hq_G.bin g8 h8 (by omega) (by omega) (by omega) (by omega)
            · exact .inr ⟨τ7, u1, hm_fq.tr (FM5.tr h7) u2, (hRP5 _ (h9 _ u3)).pos (by omega)⟩
          · obtain ⟨σ7, k1, k2, k3⟩ := hx_noWant h1 41
            unfold f_Rd_wantSign at k1
            rw [k1, Option.bind_some]
            exact ⟨_, _, rfl, rfl, (FX4.tr (k3.mono hx_FD_QD)).si (.inr (.inl ⟨rfl, .inr rfl⟩)), .inr ⟨τ6, k2.y (fun f => hp_sn (by omega)), hm_fq.tr FM5 h2, (hRP5 _ h3).pos (by omega)⟩⟩
        · obtain ⟨f1, f2, f3⟩ := q_fail0 (σ := σ2) (τ := hl_si τ2 64 2 (nI s2)) (f := 1) (p := nI s2) H2.x.1 H2.x.2 (by decide)
          obtain ⟨σ7, k1, k2, k3⟩ := deadX _ _ f1
          unfold f_Rd_wantSign at k1
          rw [if_neg c2, if_pos rfl, H2.2.2.1, Option.bind_some, k1]
          refine ⟨_, _, rfl, rfl, ((FX1.tr p2).tr (f2.mono hx_FD_QD)).tr k2, .inr ⟨_, k3, ⟨((FM1.tr g7).tr (F2.mono hm_FD_QD)).tr (f3.mono hm_FD_QD), (gM2.cb (by omega)).fr f3 (by unfold hm_FD; omega)⟩, (g9 _ (nG2 v1 _ (hm_RG.stop (hm_L0n' g2.1 R2 H2 gM2 Qb g5 (by omega) (by omega)) ((q_G2n g2.1 R2 H2 g6).trans (cN c2))))).pos (by omega)⟩⟩
      · obtain ⟨σ3, w1, w2, w3⟩ := hx_noWant g1 44
        obtain ⟨σ7, k1, k2, k3⟩ := deadX _ _ w2
        rw [w1, Option.bind_some, k1]
        exact ⟨_, _, rfl, rfl, ((FX1.tr p2).tr (w3.mono hx_FD_QD)).tr k2, .inr ⟨τ2, k3, hm_fq.tr FM1 g2, g3.pos (by omega)⟩⟩
  · have hc : ¬ hq_ch n b s = 40 := fun z => c ((hq_chE R (v := 40) (by decide)).mp z)
    obtain ⟨r1, r2, r3⟩ := q_fail0 (σ := σ) (τ := τ) (f := 1) (p := nI s) H.x.1 H.x.2 (by decide)
    have sm := q_sgM T R H (v := 40) (by decide)
    rw [show nI 40 = (40 : Int32) from rfl, if_neg c] at sm
    unfold f_M_qPartTold_j143 f_M_asksSign
    rw [if_neg c, if_pos rfl, if_neg hc, if_pos rfl, if_pos H.x.2, sm, Option.bind_some, if_pos rfl, Option.bind_some, H.2.1, H.2.2.1]
    exact ⟨_, _, rfl, rfl, r2.mono hx_FD_QD, .inr ⟨_, r1, ⟨r3.mono hm_FD_QD, (QM.cb (by omega)).fr r3 (by unfold hm_FD; omega)⟩, hm_RP.bad r1.x.2⟩⟩
end PAIR
