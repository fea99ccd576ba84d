/-! questions: sums, the class' recursion against the model's stages -/
def q_b (n : Nat) (b : Nat → Nat) (a : Nat) (σ τ : hl_M) : Prop := hx_t n b σ ∧ hm_r n b τ ∧ hm_kq τ ∧ q_ok n b σ τ ∧ τ.1 64 2 = nI a ∧ a ≤ n
def q_c (CX CM W : List Nat) (o bs a : Nat) (σ τ : hl_M) : Prop := hx_q CX o σ ∧ hm_q CM W o bs τ ∧ bs ≤ W.length ∧ CM.length + W.length ≤ a
def hm_cb (τ : hl_M) : Prop := ∃ k, k < 1699 ∧ τ.1 64 72 = nI k
def hm_fq (τ τ' : hl_M) : Prop := hp_fr hm_QD τ τ' ∧ hm_cb τ'
def q_PO (n : Nat) (b : Nat → Nat) (rec : Nat → hl_M → Option hl_M) (o : Nat) : Prop := ∀ σ τ a C W bs v1, q_b n b a σ τ → q_c C C W o bs a σ τ → ∃ σ', rec 3 σ = some σ' ∧ hp_fr hx_QD σ σ' ∧ ((∃ a' τ' l, (a < a' ∧ l.length + a ≤ a') ∧ q_b n b a' σ' τ' ∧ q_c (C ++ l) (C ++ l) W o bs a' σ' τ' ∧ hp_fr hm_QD τ τ' ∧ hq_G (1 + 3 * (6 - o)) l ∧ ∀ r, hm_RE n v1 a' W.length τ' r → hm_RP n v1 a τ r) ∨ (∃ τ', q_no σ' τ' ∧ hm_fq τ τ' ∧ hm_RP n v1 a τ τ'))
def q_SO (n : Nat) (b : Nat → Nat) (rec : Nat → hl_M → Option hl_M) (o : Nat) : Prop := ∀ σ τ a C W bs v1, q_b n b a σ τ → q_c C C W o bs a σ τ → hq_ctx W bs → ∃ σ', rec 2 σ = some σ' ∧ hp_fr hx_QD σ σ' ∧ ((∃ a' τ' l cM pd, (a < a' ∧ l.length + a ≤ a') ∧ q_b n b a' σ' τ' ∧ q_c (C ++ l) cM (pd ++ W) o bs a' σ' τ' ∧ cM ++ pd = C ++ l ∧ (∀ x ∈ pd, 1 ≤ x ∧ x ≤ 4) ∧ f_Qu_calculation σ' = some 0 ∧ hp_fr hm_QD τ τ' ∧ hq_G (3 + 3 * (6 - o)) l ∧ ∀ r, hm_RG n v1 a' τ' r → hm_RP n v1 a τ r) ∨ (∃ τ', q_no σ' τ' ∧ hm_fq τ τ' ∧ hm_RP n v1 a τ τ'))
/-- how a sum waits -/
def hq_sh (o : Nat) (l Wt : List Nat) (w : Int32) : Prop := (Wt = [] ∧ w = 0 ∧ hq_G (2 + 3 * (6 - o)) l) ∨ ∃ u l1 l2, Wt = [u] ∧ (u = 1 ∨ u = 2) ∧ w = hq_xc u ∧ l = l1 ++ l2 ∧ hq_G (3 + 3 * (6 - o)) l1 ∧ hq_G (2 + 3 * (6 - o)) l2
section SUM
variable {σ τ σ' τ' τ1 υ r : hl_M} {n a s t k j v K i d x o bs : Nat} {b : Nat → Nat} {C CX CM W T Wt l cM pd : List Nat} {w v1 : Int32} {DX DM : Nat → Nat → Prop} {rec : Nat → hl_M → Option hl_M}
theorem hm_fq.tr (F : hp_fr hm_QD τ τ1) (g : hm_fq τ1 υ) : hm_fq τ υ := ⟨F.tr g.1, g.2⟩
theorem hm_q.cb (Q : hm_q C W o bs τ) (h : C.length < 1699) : hm_cb τ := ⟨C.length, h, Q.1.1⟩
theorem hm_cb.fr (H : hm_cb τ) (F : hp_fr DM τ τ') (h : ¬ DM 64 72) : hm_cb τ' := by
  obtain ⟨k, h1, h2⟩ := H
  exact ⟨k, h1, by rw [F.i h]; exact h2⟩
theorem hm_code1 (hk : k < 1698) (e : τ.1 64 72 = nI k) (c : Int32) : ∃ τ', f_M_qCode c τ = some τ' ∧ hp_fr hm_QE τ τ' ∧ hm_cb τ' := by
  unfold f_M_qCode
  rw [e, if_pos ((hl_nIb (by omega)).mpr (show k < 1700 by omega)), hp_let, nI_clamp (by omega)]
  have e6 : (hl_si τ 110 k c).1 64 72 = nI k := by rw [hp_sn (by omega)]; exact e
  rw [e6, nI_1]
  exact ⟨_, rfl, (hp_fr.rf.si (.inl rfl)).si (.inr ⟨rfl, rfl⟩), k + 1, by omega, hp_s01⟩
theorem hm_RP.pos (H : hm_RP n v1 s τ r) (h : a ≤ s) : hm_RP n v1 a τ r := fun k m hk hm => H k m (by omega) (by omega)
theorem hm_RG.pos (H : hm_RG n v1 s τ r) (h : a ≤ s) : hm_RG n v1 a τ r := fun k m hk hm => H k m (by omega) (by omega)
theorem q_b.norm (B : q_b n b a σ τ) : ∃ s, a ≤ s ∧ hm_r n b (hl_si τ 64 2 (nI s)) ∧ hm_kq (hl_si τ 64 2 (nI s)) ∧ q_os n b s σ (hl_si τ 64 2 (nI s)) ∧ hp_fr hm_FD τ (hl_si τ 64 2 (nI s)) ∧ f_M_look τ = some (hq_ch n b s, hl_si τ 64 2 (nI s)) ∧ (∀ v1 r, hm_RP n v1 s (hl_si τ 64 2 (nI s)) r → hm_RP n v1 a τ r) ∧ (∀ v1 r, hm_RG n v1 s (hl_si τ 64 2 (nI s)) r → hm_RG n v1 a τ r) := by
  obtain ⟨T, R, KQ, H, h2, ha⟩ := B
  have hn := T.1
  obtain ⟨a0, s, g1, g2, g3, g4⟩ := q_norm T R H
  have F : hp_fr hm_FD τ (hl_si τ 64 2 (nI s)) := hp_fr.rf.si ⟨rfl, by omega⟩
  have R' : hm_r n b (hl_si τ 64 2 (nI s)) := R.si (by omega)
  have e : a = a0 := by
    rw [h2] at g1
    have hs := g3.2.2.2
    have q : nI a = nI a0 ↔ a = a0 := hl_eq (by omega) (by omega)
    exact q.mp g1
  subst e
  have lk := g3.look T R'
  have eq : f_M_look τ = f_M_look (hl_si τ 64 2 (nI s)) := by rw [g4, lk]
  exact ⟨s, g2, R', KQ.fr F (fun q f h => by have := h.1; omega), g3, F, g4, fun v1 r Hr => (hm_RP.norm H.x.2 g3.x.2 eq Hr).pos g2, fun v1 r Hr => (hm_RG.norm H.x.2 g3.x.2 eq Hr).pos g2⟩
theorem q_b.fr (B : q_b n b a σ τ) (FX : hp_fr DX σ σ') (hX : ∀ q f, DX q f → q ≠ 1 ∧ q ≠ 2 ∧ q ≠ 3) (FM : hp_fr DM τ τ') (hM : ∀ q f, DM q f → ¬ (q = 64 ∧ f ≤ 6) ∧ q ≠ 65 ∧ ¬ (91 ≤ q ∧ q ≤ 109)) : q_b n b a σ' τ' := by
  obtain ⟨T, R, KQ, H, h2, ha⟩ := B
  have m2 : ∀ f, f ≤ 6 → τ'.1 64 f = τ.1 64 f := fun f hf => FM.i (fun z => (hM _ _ z).1 ⟨rfl, hf⟩)
  exact ⟨T.fr FX (fun z => (hX _ _ z).1 rfl) (fun k z => (hX _ _ z).2.1 rfl), R.fr FM (fun z => (hM _ _ z).1 ⟨rfl, by omega⟩) (fun k z => (hM _ _ z).2.1 rfl), KQ.fr FM (fun q f z => (hM _ _ z).2.2), H.fr (fun f _ => FX.i (fun z => (hX _ _ z).2.2 rfl)) (fun f hf => m2 f (by omega)), by rw [m2 2 (by omega)]; exact h2, ha⟩
theorem q_c.FD (H : q_c CX CM W o bs a σ τ) (F : hp_fr hm_FD τ τ') (h : a ≤ s) : q_c CX CM W o bs s σ τ' := ⟨H.1, H.2.1.fr F (fun q f h => by unfold hm_FD at h; omega), H.2.2.1, by have := H.2.2.2; omega⟩
theorem hm_QF_QD : ∀ q f, hm_QF q f → hm_QD q f := fun q f h => by unfold hm_QF at h; unfold hm_QD; omega
theorem hm_QE_QD : ∀ q f, hm_QE q f → hm_QD q f := fun q f h => by unfold hm_QE at h; unfold hm_QD; omega
theorem hm_FD_QD : ∀ q f, hm_FD q f → hm_QD q f := fun q f h => .inl h
theorem hx_QE_QD : ∀ q f, hx_QE q f → hx_QD q f := fun q f h => by unfold hx_QE at h; unfold hx_QD; omega
theorem hx_RD_QD : ∀ q f, hx_RD q f → hx_QD q f := fun q f h => .inl h.1
theorem hx_FD_QD : ∀ q f, hx_FD q f → hx_QD q f := fun q f h => .inl h
/-- nothing closes here -/
theorem hm_L0n (T : hx_t n b σ) (R : hm_r n b τ) (H : q_os n b s σ τ) (h : ¬ (s < n ∧ b s = 41)) : f_M_qGoesOn_L0 τ = some (.inr τ) := by
  have h' : ¬ hq_ch n b s = 41 := fun z => h ((hq_chE R (v := 41) (by decide)).mp z)
  unfold f_M_qGoesOn_L0
  rw [if_pos H.x.2, H.look T R, Option.bind_some]
  dsimp only
  rw [if_neg h']
/-- the model takes on times and over -/
theorem hm_j140 (R : hm_r n b τ) (hs : s < n) (hb : b s = 42 ∨ b s = 47) (h2 : τ.1 64 2 = nI (s + 1)) (h5 : τ.1 64 5 = 0) (hW : hq_hd W (fun x => x ≠ 3 ∧ x ≠ 4)) (hT : ∀ x ∈ T, x = 3 ∨ x = 4) (H : hm_q cM (T ++ W) o bs τ) (h1 : cM.length + T.length < 1700) (h3 : T.length + W.length < 1699) : ∃ τ', f_M_qGoesOn_j140 τ = some (1, τ') ∧ hp_fr (fun q f => hm_QF q f ∨ q = 111) τ τ' ∧ hm_q (cM ++ T) ((if b s = 42 then 3 else 4) :: W) o bs τ' := by
  have hn := R.1
  have hbs := R.2.2 s hs
  have e1 : τ.1 64 2 - 1 = nI s := by rw [h2]; exact hl_nsub (a := s + 1) (b := 1) (by omega)
  have hb1 : hl_b (nI s) 1600 := (hl_nIb (by omega)).mpr (by omega)
  unfold f_M_qGoesOn_j140
  rw [e1, if_pos hb1, nI_clamp (by omega), hbs.2]
  have push : ∀ (u : Nat) (τ1 : hl_M), hm_q (cM ++ T) W o bs τ1 → hp_fr hm_QF τ τ1 → ∃ τ', (if hl_b (τ1.1 64 74) 1700 then hl_let (hl_si (hl_si τ1 111 (τ1.1 64 74).toNatClampNeg (nI u)) 64 74 (((hl_si τ1 111 (τ1.1 64 74).toNatClampNeg (nI u)).1 64 74) + 1)) (fun σ16 => some ((1 : Int32), σ16)) else none) = some (1, τ') ∧ hp_fr (fun q f => hm_QF q f ∨ q = 111) τ τ' ∧ hm_q (cM ++ T) (u :: W) o bs τ' := by
    intro u τ1 Q F
    have e4 : τ1.1 64 74 = nI W.length := Q.2.1.1
    have hb : hl_b (nI W.length) 1700 := (hl_nIb (by omega)).mpr (by omega)
    have e7 : (hl_si τ1 111 W.length (nI u)).1 64 74 = nI W.length := by rw [hp_sn (by omega)]; exact e4
    rw [e4, if_pos hb, hp_let, nI_clamp (by omega), e7, nI_1]
    exact ⟨_, rfl, ((F.mono (fun q f h => .inl h)).si (.inr rfl)).si (.inl (.inr ⟨rfl, .inr rfl⟩)), Q.push⟩
  by_cases e : b s = 42
  · have e' : nI (b s) = 42 := by rw [e]; rfl
    obtain ⟨τ1, r1, r2, r3⟩ := hm_L162 (v := 3) hW hT h5 H h1 (by omega)
    rw [if_pos e', if_pos e, r1, Option.bind_some]
    exact push 3 τ1 r3 r2
  · have e' : ¬ nI (b s) = 42 := by
      have q : nI (b s) = nI 42 ↔ b s = 42 := hl_eq (by omega) (by omega)
      exact fun z => e (q.mp z)
    obtain ⟨τ1, r1, r2, r3⟩ := hm_L162 (v := 4) hW hT h5 H h1 (by omega)
    rw [if_neg e', if_neg e, r1, Option.bind_some]
    exact push 4 τ1 r3 r2
/-- .. plus and minus -/
theorem hm_j225 (R : hm_r n b τ) (hs : s < n) (hb : b s = 43 ∨ b s = 45) (h2 : τ.1 64 2 = nI (s + 1)) (h5 : τ.1 64 5 = 0) (hW : hq_hd W (fun x => 5 ≤ x)) (hT : ∀ x ∈ pd, 1 ≤ x ∧ x ≤ 4) (H : hm_q cM (pd ++ W) o bs τ) (h1 : cM.length + pd.length < 1700) (h3 : pd.length + W.length < 1699) : ∃ τ', f_M_qGoesOn_j225 τ = some (1, τ') ∧ hp_fr (fun q f => hm_QF q f ∨ q = 111) τ τ' ∧ hm_q (cM ++ pd) ((if b s = 43 then 1 else 2) :: W) o bs τ' := by
  have hn := R.1
  have hbs := R.2.2 s hs
  have e1 : τ.1 64 2 - 1 = nI s := by rw [h2]; exact hl_nsub (a := s + 1) (b := 1) (by omega)
  have hb1 : hl_b (nI s) 1600 := (hl_nIb (by omega)).mpr (by omega)
  unfold f_M_qGoesOn_j225
  rw [e1, if_pos hb1, nI_clamp (by omega), hbs.2]
  have push : ∀ (u : Nat) (τ1 : hl_M), hm_q (cM ++ pd) W o bs τ1 → hp_fr hm_QF τ τ1 → ∃ τ', (if hl_b (τ1.1 64 74) 1700 then hl_let (hl_si (hl_si τ1 111 (τ1.1 64 74).toNatClampNeg (nI u)) 64 74 (((hl_si τ1 111 (τ1.1 64 74).toNatClampNeg (nI u)).1 64 74) + 1)) (fun σ16 => some ((1 : Int32), σ16)) else none) = some (1, τ') ∧ hp_fr (fun q f => hm_QF q f ∨ q = 111) τ τ' ∧ hm_q (cM ++ pd) (u :: W) o bs τ' := by
    intro u τ1 Q F
    have e4 : τ1.1 64 74 = nI W.length := Q.2.1.1
    have hb : hl_b (nI W.length) 1700 := (hl_nIb (by omega)).mpr (by omega)
    have e7 : (hl_si τ1 111 W.length (nI u)).1 64 74 = nI W.length := by rw [hp_sn (by omega)]; exact e4
    rw [e4, if_pos hb, hp_let, nI_clamp (by omega), e7, nI_1]
    exact ⟨_, rfl, ((F.mono (fun q f h => .inl h)).si (.inr rfl)).si (.inl (.inr ⟨rfl, .inr rfl⟩)), Q.push⟩
  by_cases e : b s = 43
  · have e' : nI (b s) = 43 := by rw [e]; rfl
    obtain ⟨τ1, r1, r2, r3⟩ := hm_L247 (v := 1) hW hT h5 H h1 (by omega)
    rw [if_pos e', if_pos e, r1, Option.bind_some]
    exact push 1 τ1 r3 r2
  · have e' : ¬ nI (b s) = 43 := by
      have q : nI (b s) = nI 43 ↔ b s = 43 := hl_eq (by omega) (by omega)
      exact fun z => e (q.mp z)
    obtain ⟨τ1, r1, r2, r3⟩ := hm_L247 (v := 2) hW hT h5 H h1 (by omega)
    rw [if_neg e', if_neg e, r1, Option.bind_some]
    exact push 2 τ1 r3 r2
end SUM
