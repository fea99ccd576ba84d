/-! questions: what is asked, both sides -/
def hx_UD (q f : Nat) : Prop := hx_QD q f ∨ (q = 55 ∧ f = 9)
def hm_UD (q f : Nat) : Prop := hm_QD q f ∨ (q = 64 ∧ f ≤ 8)
def hm_askE (v1 : Int32) (σ : hl_M) : Option (Int32 × hl_M) :=
  if (σ.1 64 5) = 0 then
  (f_M_look σ).bind fun x5 =>
  if x5.1 = ((-1)) then
  some (v1, x5.2) else
  some (v1, f_M_fail 1 (x5.2.1 64 2) x5.2) else
  some (v1, σ)
def hm_askR (x2 : Int32 × hl_M) : Option (Int32 × hl_M) :=
  if (x2.2.1 64 5) = 0 then
  if 3 ≤ x2.1 then
  (f_M_qSums x2.2).bind fun x6 => hm_askE x2.1 x6 else
  (f_M_qTest x2.2).bind fun x7 => hm_askE x2.1 x7 else
  hm_askE x2.1 x2.2
def hm_ask0 (τ : hl_M) : hl_M := hl_si (hl_si (hl_si (hl_si (hm_beg τ) 64 72 0) 64 74 0) 64 75 0) 64 76 0
section UNDER
variable {σ τ σ' τ' τ1 υ r : hl_M} {n a s t k j v K i d x o bs br cd N : Nat} {b : Nat → Nat} {C CX CM W T Wt l cM pd : List Nat} {w v1 v4 : Int32} {rec : Nat → hl_M → Option hl_M}
theorem hm_askj (v1 : Int32) (σ : hl_M) : f_M_ask_j104 v1 σ = (hm_askE v1 σ).bind fun x => f_M_ask_j128 x.1 x.2 := by
  unfold f_M_ask_j104 hm_askE
  by_cases h : σ.1 64 5 = 0
  · rw [if_pos h, if_pos h, Option.bind_assoc]
    congr 1
    funext x
    by_cases e : x.1 = -1
    · rw [if_pos e, if_pos e, Option.bind_some]
    · rw [if_neg e, if_neg e, Option.bind_some]
  · rw [if_neg h, if_neg h, Option.bind_some]
theorem hm_askM (h : ¬ τ.1 64 30 = 0) : f_M_ask τ = ((f_M_qKind (hm_ask0 τ)).bind hm_askR).bind fun x => f_M_ask_j128 x.1 x.2 := by
  unfold f_M_ask
  rw [if_neg h, hp_let]
  show (f_M_qKind (hm_ask0 τ)).bind _ = _
  rw [Option.bind_assoc]
  congr 1
  funext x2
  unfold hm_askR
  by_cases h5 : x2.2.1 64 5 = 0
  · rw [if_pos h5, if_pos h5]
    by_cases h3 : 3 ≤ x2.1
    · rw [if_pos h3, if_pos h3]
      unfold f_M_ask_j93
      rw [if_pos h5, Option.bind_assoc]
      congr 1
      funext x6
      exact hm_askj _ _
    · rw [if_neg h3, if_neg h3, Option.bind_assoc]
      congr 1
      funext x7
      exact hm_askj _ _
  · rw [if_neg h5, if_neg h5]
    unfold f_M_ask_j93
    rw [if_neg h5]
    exact hm_askj _ _
theorem hm_takesN (h : τ.1 64 5 = 0) (h1 : τ1.1 64 5 = 0) (hl : f_M_look τ = f_M_look τ1) (v : Nat) : f_M_takes v τ = f_M_takes v τ1 := by
  unfold f_M_takes f_M_isHere
  rw [if_pos h, if_pos h1, hl]
/-- the first word -/
theorem hx_first (h : ∀ i, i < 19 → f_Rd_isWord (19 + i) σ = some (if K = i then 1 else 0)) : f_Qu_firstWord σ = some (if K < 6 then nI (K + 1) else 0) := by
  have e0 : f_Rd_isWord 19 σ = some (if K = 0 then 1 else 0) := h 0 (by omega)
  have e1 : f_Rd_isWord 20 σ = some (if K = 1 then 1 else 0) := h 1 (by omega)
  have e2 : f_Rd_isWord 21 σ = some (if K = 2 then 1 else 0) := h 2 (by omega)
  have e3 : f_Rd_isWord 22 σ = some (if K = 3 then 1 else 0) := h 3 (by omega)
  have e4 : f_Rd_isWord 23 σ = some (if K = 4 then 1 else 0) := h 4 (by omega)
  have e5 : f_Rd_isWord 24 σ = some (if K = 5 then 1 else 0) := h 5 (by omega)
  unfold f_Qu_firstWord
  rw [e0, e1, e2, e3, e4, e5]
  by_cases k : K < 6
  · have : K = 0 ∨ K = 1 ∨ K = 2 ∨ K = 3 ∨ K = 4 ∨ K = 5 := by omega
    rcases this with rfl | rfl | rfl | rfl | rfl | rfl <;> rfl
  · rw [if_neg (show ¬ K = 0 by omega), if_neg (show ¬ K = 1 by omega), if_neg (show ¬ K = 2 by omega), if_neg (show ¬ K = 3 by omega), if_neg (show ¬ K = 4 by omega), if_neg (show ¬ K = 5 by omega), if_neg k]
    rfl
theorem hm_first (KQ : hm_kq τ) (H : q_os n b s σ τ) (h : ∀ i, i < 19 → f_M_isHere (hq_v i) τ = some (if K = i then 1 else 0, τ)) : f_M_qKind τ = if K < 6 then some (nI K, hl_si (hl_si τ 64 2 (nI (s + (hq_W K).length))) 64 4 (nI (s + (hq_W K).length))) else some (5, f_M_fail 1 (nI s) τ) := by
  have z0 : ¬ (1 : Int32) = 0 := by decide
  have yes : ∀ i, i < 19 → K = i → f_M_takes (hq_v i) τ = some (1, hl_si (hl_si τ 64 2 (nI (s + (hq_W K).length))) 64 4 (nI (s + (hq_W K).length))) ∧ f_M_asks (hq_v i) τ = some (hl_si (hl_si τ 64 2 (nI (s + (hq_W K).length))) 64 4 (nI (s + (hq_W K).length))) := by
    intro i hi e
    have := h i hi
    rw [if_pos e] at this
    rw [e]
    exact q_wT KQ H hi this
  have no : ∀ i, i < 19 → ¬ K = i → f_M_takes (hq_v i) τ = some (0, τ) ∧ f_M_asks (hq_v i) τ = some (f_M_fail 1 (nI s) τ) := by
    intro i hi e
    have := h i hi
    rw [if_neg e] at this
    exact q_wF H this
  unfold f_M_qKind f_M_qKind_j76
  by_cases k0 : K = 0
  · have y : f_M_takes 91 τ = _ := (yes 0 (by omega) k0).1
    rw [y, Option.bind_some, if_neg z0, if_neg (by decide), if_pos (by omega), k0]; rfl
  have y0 : f_M_takes 91 τ = some (0, τ) := (no 0 (by omega) k0).1
  rw [y0, Option.bind_some, if_pos rfl]
  by_cases k1 : K = 1
  · have y : f_M_takes 92 τ = _ := (yes 1 (by omega) k1).1
    rw [y, Option.bind_some, if_neg z0, if_neg (by decide), if_pos (by omega), k1]; rfl
  have y1 : f_M_takes 92 τ = some (0, τ) := (no 1 (by omega) k1).1
  rw [y1, Option.bind_some, if_pos rfl]
  by_cases k2 : K = 2
  · have y : f_M_takes 93 τ = _ := (yes 2 (by omega) k2).1
    rw [y, Option.bind_some, if_neg z0, if_neg (by decide), if_pos (by omega), k2]; rfl
  have y2 : f_M_takes 93 τ = some (0, τ) := (no 2 (by omega) k2).1
  rw [y2, Option.bind_some, if_pos rfl]
  by_cases k3 : K = 3
  · have y : f_M_takes 94 τ = _ := (yes 3 (by omega) k3).1
    rw [y, Option.bind_some, if_neg z0, if_neg (by decide), if_pos (by omega), k3]; rfl
  have y3 : f_M_takes 94 τ = some (0, τ) := (no 3 (by omega) k3).1
  rw [y3, Option.bind_some, if_pos rfl]
  by_cases k4 : K = 4
  · have y : f_M_takes 95 τ = _ := (yes 4 (by omega) k4).1
    rw [y, Option.bind_some, if_neg z0, if_neg (by decide), if_pos (by omega), k4]; rfl
  have y4 : f_M_takes 95 τ = some (0, τ) := (no 4 (by omega) k4).1
  rw [y4, Option.bind_some, if_pos rfl, if_pos rfl]
  by_cases k5 : K = 5
  · have y : f_M_asks 96 τ = _ := (yes 5 (by omega) k5).2
    rw [y, Option.bind_some, if_pos (by omega), k5]; rfl
  have y5 : f_M_asks 96 τ = some (f_M_fail 1 (nI s) τ) := (no 5 (by omega) k5).2
  rw [y5, Option.bind_some, if_neg (by omega)]
/-- the model's test stands alone -/
theorem hm_L0s (T : hx_t n b σ) (R : hm_r n b τ) (H : q_os n b s σ τ) (hsq : f_M_qHasSquare τ = some 0) : f_M_qGoesOnTest_L0 τ = some (.inr τ) := by
  unfold f_M_qGoesOnTest_L0
  rw [if_pos H.x.2, H.look T R, Option.bind_some]
  dsimp only
  by_cases c : hq_ch n b s = 93
  · rw [if_pos c, hsq, Option.bind_some, if_pos rfl]
  · rw [if_neg c]
theorem q_qTest (TO : q_TO n b rec 0) (B : q_b n b a σ τ) (Q : q_c C C [] 0 0 a σ τ) : ∃ σ' τ', rec 0 σ = some σ' ∧ f_M_qTest τ = some τ' ∧ hp_fr hx_QD σ σ' ∧ hp_fr hm_QD τ τ' ∧ ((∃ a' l, a < a' ∧ q_b n b a' σ' τ' ∧ q_c (C ++ l) (C ++ l) [] 0 0 a' σ' τ' ∧ hq_T 24 l) ∨ q_no σ' τ') := by
  have hn := B.1.1
  obtain ⟨σ1, p1, p2, p3⟩ := TO σ τ a C [] B Q (fun x hx => by cases hx) (.inl rfl)
  unfold f_M_qTest
  rcases p3 with ⟨a2, τ2, l, cM, pd, g1, g2, g3, g4, g5, g6, g7, g8, g9, g10⟩ | ⟨τ2, g1, g2, g3⟩
  · obtain ⟨s, hs, R1, K1, H1, F1, lk, -, nH⟩ := g2.normT
    obtain ⟨gX, gM, gb, gl⟩ := g3
    have ha2 := g2.2.2.2.2.2
    have hsn := H1.2.2.2
    rw [List.length_append, List.length_nil] at gl
    have gM1 := gM.fr F1 (fun q f h => by unfold hm_FD at h; omega)
    have hsq := hm_hasSquare gM1 (fun x hx => by
      rw [List.append_nil] at hx
      have := g5 x hx; omega) (by rw [List.length_append, List.length_nil]; omega)
    have n25 : ¬ 25 ∈ pd ++ [] := by
      intro z
      rw [List.append_nil] at z
      have := g5 25 z
      omega
    have h2 := q_H2n g2.1 R1 K1 H1 g6 g7 hsq
    rw [if_neg n25] at h2 hsq
    have rr := g10 _ (nH _ (hm_RH.stop (hm_L0s g2.1 R1 H1 hsq) h2)) hl_big (by unfold hl_big; omega)
    obtain ⟨τ5, d1, d2, d3⟩ := hm_L110 g5 H1.x.2 gM1 (by omega)
    rw [g4] at d3
    have lens : cM.length + pd.length = C.length + l.length := by rw [← List.length_append, g4, List.length_append]
    rw [p1, rr, Option.bind_some, d1, Option.bind_some]
    have B1 : q_b n b s σ1 (hl_si τ2 64 2 (nI s)) := ⟨g2.1, R1, K1, H1.1, H1.2.1, hsn⟩
    exact ⟨σ1, τ5, rfl, rfl, p2, (g8.tr (F1.mono hm_FD_QD)).tr (d2.mono hm_QF_QD), .inl ⟨s, l, by omega, B1.fr (.rf (D := fun _ _ => False)) (fun q f h => h.elim) d2 (fun q f h => by unfold hm_QF at h; omega), ⟨gX, d3, Nat.zero_le _, by rw [List.length_append, List.length_nil]; omega⟩, g9⟩⟩
  · have rr := g3 hl_big (by unfold hl_big; omega)
    have l110 : f_M_qTest_L110 τ2 = some (.inr τ2) := by
      unfold f_M_qTest_L110
      rw [if_neg g1.x.2]
    rw [p1, rr, Option.bind_some, hp_lpe _ l110, Option.bind_some]
    exact ⟨σ1, τ2, rfl, rfl, p2, g2, .inr g1⟩
/-- the question's end -/
theorem q_askE (B : q_b n b a σ τ) (w : Int32) : ∃ σ' τ' x, f_Qu_understand_j73 σ = some (x, σ') ∧ hm_askE w τ = some (w, τ') ∧ hp_fr hx_FD σ σ' ∧ hp_fr hm_FD τ τ' ∧ ((x = 1 ∧ q_ok n b σ' τ') ∨ (x = 0 ∧ q_no σ' τ')) := by
  obtain ⟨s, hs, R1, K1, H1, F1, lk, -, -⟩ := B.norm
  obtain ⟨t, S, E, he, x3, kd, kd3, kd0⟩ := H1.tok B.1
  have ce := hq_chN R1 H1
  unfold f_Qu_understand_j73 f_Qu_understand_j98 hm_askE
  rw [if_pos B.2.2.2.1.x.2, lk, Option.bind_some]
  dsimp only
  by_cases e : s = n
  · rw [if_pos (kd0.mpr e), if_pos (ce.mpr e), hx_failed0 H1.x.1, if_pos rfl]
    exact ⟨σ, _, 1, rfl, rfl, .rf, F1, .inl ⟨rfl, H1.1⟩⟩
  · obtain ⟨f1, f2, f3⟩ := q_fail0 (σ := σ) (τ := hl_si τ 64 2 (nI s)) (f := 1) (p := nI s) H1.x.1 H1.x.2 (by decide)
    rw [if_neg (fun z => e (kd0.mp z)), if_neg (fun z => e (ce.mp z)), H1.2.2.1, H1.2.1, hx_failed1 f1.x.1, if_neg (show ¬ (1 : Int32) = 0 by decide)]
    exact ⟨_, _, 0, rfl, rfl, f2, F1.tr f3, .inr ⟨rfl, f1⟩⟩
theorem q_askN (H : q_no σ τ) (w : Int32) : ∃ σ', f_Qu_understand_j73 σ = some (0, σ') ∧ hm_askE w τ = some (w, τ) ∧ hp_fr hx_FD σ σ' ∧ q_no σ' τ := by
  obtain ⟨r1, r2⟩ := q_failN (f := 1) (p := σ.1 3 2) H
  unfold f_Qu_understand_j73 f_Qu_understand_j98 hm_askE
  rw [if_neg H.x.2, H.2.2.1, if_neg (by decide), hx_failed1 r1.x.1, if_neg (show ¬ (1 : Int32) = 0 by decide)]
  exact ⟨_, rfl, rfl, r2, r1⟩
theorem hm_ask0_f : hp_fr hm_UD τ (hm_ask0 τ) ∧ (hm_ask0 τ).1 64 1 = 0 := by
  obtain ⟨v3, v1, v2, v4, v5, v6⟩ := hm_beg_v (τ := τ)
  refine ⟨((((hm_beg_f.mono (fun q f h => .inr ⟨h.1, by omega⟩)).si (by unfold hm_UD hm_QD; omega)).si (by unfold hm_UD hm_QD; omega)).si (by unfold hm_UD hm_QD; omega)).si (by unfold hm_UD hm_QD; omega), ?_⟩
  unfold hm_ask0
  rw [hp_sn (by omega), hp_sn (by omega), hp_sn (by omega), hp_sn (by omega)]
  exact v1
theorem q_under (T : hx_t n b σ) (U : hm_t n b τ) (KQ : hm_kq τ) : ∃ σ' τ' w x, f_Qu_understand σ = some (x, σ') ∧ (f_M_qKind (hm_ask0 τ)).bind hm_askR = some (w, τ') ∧ hp_fr hx_UD σ σ' ∧ hp_fr hm_QD (hm_ask0 τ) τ' ∧ ((x = 1 ∧ ∃ kd l, kd < 6 ∧ w = nI kd ∧ σ'.1 55 9 = nI (kd + 1) ∧ hx_q l 0 σ' ∧ hm_q l [] 0 0 τ' ∧ l.length < 1601 ∧ q_ok n b σ' τ' ∧ (3 ≤ kd → hq_G 21 l) ∧ (kd < 3 → hq_T 24 l)) ∨ (x = 0 ∧ q_no σ' τ')) := by
  have hn := T.1
  obtain ⟨v3, v1, v2, v4, v5, v6⟩ := hm_beg_v (τ := τ)
  have FM0 : hp_fr (fun q f => q = 64 ∧ (f ≤ 6 ∨ (72 ≤ f ∧ f ≤ 76))) τ (hm_ask0 τ) := ((((hm_beg_f.mono (fun q f h => ⟨h.1, .inl h.2⟩)).si ⟨rfl, by omega⟩).si ⟨rfl, by omega⟩).si ⟨rfl, by omega⟩).si ⟨rfl, by omega⟩
  have e0 : ∀ f, f ≤ 6 → (hm_ask0 τ).1 64 f = (hm_beg τ).1 64 f := fun f hf => by
    unfold hm_ask0
    rw [hp_sn (by omega), hp_sn (by omega), hp_sn (by omega), hp_sn (by omega)]
  have R0 : hm_r n b (hm_ask0 τ) := ⟨U.1, by rw [e0 3 (by omega), v3]; exact U.2.1, fun k hk => ⟨(U.2.2 k hk).1, by rw [FM0.i (by omega)]; exact (U.2.2 k hk).2⟩⟩
  have K0 : hm_kq (hm_ask0 τ) := KQ.fr FM0 (fun q f h => by omega)
  have QM0 : hm_q [] [] 0 0 (hm_ask0 τ) := by
    unfold hm_ask0
    refine ⟨⟨?_, fun i v hi => (by cases hi)⟩, ⟨?_, trivial⟩, ?_, hp_s01⟩
    · rw [hp_sn (by omega), hp_sn (by omega), hp_sn (by omega), hp_s01]; rfl
    · rw [hp_sn (by omega), hp_sn (by omega), hp_s01]; rfl
    · rw [hp_sn (by omega), hp_s01]; rfl
  have FX0 : hp_fr (fun q f => q = 55 ∧ (f = 6 ∨ f = 8)) σ (hl_si (hl_si σ 55 6 0) 55 8 0) := (hp_fr.rf.si ⟨rfl, .inl rfl⟩).si ⟨rfl, .inr rfl⟩
  obtain ⟨σ1, b1, b2, b3⟩ := hx_begin (τ := hm_ask0 τ) ((T.si (p := 55) (f := 6) (x := 0) (by omega)).si (p := 55) (f := 8) (x := 0) (by omega)) (by rw [e0 5 (by omega)]; exact v5) (by rw [e0 2 (by omega)]; exact v2) (by rw [e0 4 (by omega)]; exact v4) (by rw [e0 6 (by omega)]; exact v6)
  have T1 : hx_t n b σ1 := ((T.si (p := 55) (f := 6) (x := 0) (by omega)).si (p := 55) (f := 8) (x := 0) (by omega)).fr b2 (by unfold hx_FD; omega) (fun k => by unfold hx_FD; omega)
  have QX1 : hx_q [] 0 σ1 := by
    refine ⟨?_, fun i v hi => (by cases hi), ?_⟩
    · rw [b2.i (by unfold hx_FD; omega), hp_sn (by omega), hp_s01]; rfl
    · rw [b2.i (by unfold hx_FD; omega), hp_s01]; rfl
  have B1 : q_b n b 0 σ1 (hm_ask0 τ) := ⟨T1, R0, K0, b3, by rw [e0 2 (by omega)]; exact v2, Nat.zero_le _⟩
  have FX1 : hp_fr hx_UD σ σ1 := (FX0.mono (fun q f h => .inl (.inr (.inl h)))).tr (b2.mono (fun q f h => .inl (hx_FD_QD q f h)))
  have FM1 : hp_fr hm_QD (hm_ask0 τ) (hm_ask0 τ) := .rf
  obtain ⟨s, hs, R, KQ1, H, F1, lk, -, -⟩ := B1.norm
  have hsn := H.2.2.2
  obtain ⟨K, A⟩ := hq_at.ex T1 H
  have hw : ∀ i, i < 19 → f_Rd_isWord (19 + i) σ1 = some (if K = i then 1 else 0) := fun i hi => (q_wd T1 R KQ1 H A hi).1
  have hm : ∀ i, i < 19 → f_M_isHere (hq_v i) (hl_si (hm_ask0 τ) 64 2 (nI s)) = some (if K = i then 1 else 0, hl_si (hm_ask0 τ) 64 2 (nI s)) := fun i hi => (q_wd T1 R KQ1 H A hi).2
  have eqK : f_M_qKind (hm_ask0 τ) = f_M_qKind (hl_si (hm_ask0 τ) 64 2 (nI s)) := by
    unfold f_M_qKind
    rw [hm_takesN B1.2.2.2.1.x.2 H.x.2 (by rw [lk, H.look T1 R]) 91]
  have FS9 : ∀ c, hp_fr (fun q f => q = 55 ∧ f = 9) σ1 (hl_si σ1 55 9 c) := fun c => hp_fr.rf.si ⟨rfl, rfl⟩
  rw [eqK, hm_first KQ1 H hm]
  unfold f_Qu_understand
  rw [b1, Option.bind_some, hx_first hw, Option.bind_some, hp_s01]
  by_cases k6 : K < 6
  · obtain ⟨t, σ2, t1, t2, t3, t4, t5, t6⟩ := q_wN (σ := hl_si σ1 55 9 (nI (K + 1))) (T1.si (by omega)) (H.fr (σ' := hl_si σ1 55 9 (nI (K + 1))) (fun f _ => hp_sn (by omega)) (fun f _ => rfl)) (A.fr (hp_sn (by omega)) (hp_sn (by omega))) (by omega)
    rw [← t1]
    have nk : ¬ nI (K + 1) = 0 := by first | omega | (simp (disch := first | assumption | omega) only [↓hp_neg1, hp_l0, hp_l1, hp_l2, hp_l3, hp_l4, hp_l5, hp_l6, hp_l7, hp_l8, hp_l9, hp_l10, hp_l11, hp_l12, hp_l13, hp_l14, hp_l15, hp_l16, hp_l17, hp_l18, hp_l19, hp_l20, hp_l21, hp_l22, hp_l23, hp_l24, hp_l25, hp_l26, hp_l27, hp_l28, hp_l29, hp_l30, hp_l31, hp_l32, hp_l33, hp_l34, hp_l35, hp_l36, hp_l37, hp_l38, hp_l39, hp_l40, hp_l41, hp_l42, hp_l43, hp_l44, hp_l45, hp_l46, hp_l47, hp_l48, hp_l49, hp_l50, hp_l51, hp_l52, hp_l53, hp_l54, hp_l55, hp_l56, hp_l57, hp_l58, hp_l59, hp_l60, hp_l61, hp_l62, hp_l63, hp_l64, hp_l65, hp_l66, hp_l67, hp_l68, hp_l69, hp_l70, hp_l71, hp_l72, hp_l73, hp_l74, hp_l75, hp_l76, hp_l77, hp_l78, hp_l79, hp_l80, hp_l81, hp_l82, hp_l83, hp_l84, hp_l85, hp_l86, hp_l87, hp_l88, hp_l89, hp_l90, hp_l91, hp_l92, hp_l93, hp_l94, hp_l95, hp_l96, hp_l97, hp_l98, hp_l99, hp_l100, hp_l101, hp_l102, hp_l103, hp_l104, hp_l105, hp_l106, hp_l107, hp_l108, hp_l109, hp_l110, hp_l111, hp_l112, hp_l113, hp_l114, hp_l115, hp_l116, hp_l117, hp_l118, hp_l119, hp_l120, hp_l121, hp_l122, hp_l123, hp_l124, hp_l125, hp_l126, hp_l127, hp_l141, hp_l142, hp_l150, hp_l151, hp_l152, hp_l153, hp_l251, hp_l255, hp_l256, hp_l300, hp_l432, hp_l864, hp_l1000, hp_l1600, hp_l1700, hp_l2304, hp_l2916, hp_l3000, hp_l9999, hp_l10000, nI_add, pk_mul, nI_clamp, hl_lt, hl_le, hl_eq, hl_nIb, hl_nsub, hp_eqm, hp_meq, hp_ltm, hp_mlt, hp_lem, hp_mle, hp_addm, hp_meqm, hp_mlem, hp_withinE, hp_within0, if_pos, if_neg, Option.bind_some, hp_let, Sum.elim_inl, Sum.elim_inr, hp_s01, hp_s11, hp_s2, true_and, and_true, if_true, if_false, not_true_eq_false, not_false_eq_true, reduceCtorEq] <;> omega)
    have Bw : q_b n b t σ2 (hl_si (hl_si (hl_si (hm_ask0 τ) 64 2 (nI s)) 64 2 (nI t)) 64 4 (nI t)) := q_bW (σ := hl_si σ1 55 9 (nI (K + 1))) (T1.si (by omega)) R KQ1 t5 t3 t6
    have FT : hp_fr hm_FD (hl_si (hm_ask0 τ) 64 2 (nI s)) (hl_si (hl_si (hl_si (hm_ask0 τ) 64 2 (nI s)) 64 2 (nI t)) 64 4 (nI t)) := (hp_fr.rf.si ⟨rfl, by omega⟩).si ⟨rfl, by omega⟩
    have FTT := F1.tr FT
    have Qw : q_c [] [] [] 0 0 t σ2 (hl_si (hl_si (hl_si (hm_ask0 τ) 64 2 (nI s)) 64 2 (nI t)) 64 4 (nI t)) := ⟨(QX1.fr (FS9 _) (fun q f h => by omega)).fr t5 (fun q f h => by unfold hx_RD at h; omega), QM0.fr FTT (fun q f h => by unfold hm_FD at h; omega), Nat.zero_le _, Nat.zero_le _⟩
    have e9 : σ2.1 55 9 = nI (K + 1) := by rw [t5.i (by unfold hx_RD; omega), hp_s01]
    have FX2 : hp_fr hx_UD σ σ2 := (FX1.tr ((FS9 (nI (K + 1))).mono (fun q f h => .inr h))).tr (t5.mono (fun q f h => .inl (hx_RD_QD q f h)))
    have FM2 : hp_fr hm_QD (hm_ask0 τ) (hl_si (hl_si (hl_si (hm_ask0 τ) 64 2 (nI s)) 64 2 (nI t)) 64 4 (nI t)) := FM1.tr (FTT.mono hm_FD_QD)
    rw [if_pos k6, if_pos k6, if_neg nk, Option.bind_some]
    unfold f_Qu_understand_j47 hm_askR
    rw [t4, Option.bind_some, e9, if_pos Bw.2.2.2.1.x.2]
    dsimp only
    by_cases k3 : 3 ≤ K
    · have n3 : (3 : Int32) < nI (K + 1) := (hl_lt (a := 3) (by omega) (by omega)).mpr (by omega)
      have m3 : (3 : Int32) ≤ nI K := nI_le k3 (by omega)
      obtain ⟨σ3, τ3, p1, p2, p3, p4, p5⟩ := q_qSums (q_recSum (n := n) (b := b) (N := 40) (o := 0) (by omega) (by omega)) (fun x V e => by cases e) Bw Qw (by omega)
      rw [if_pos n3, if_pos m3, p1, Option.bind_some, p2, Option.bind_some]
      have FX3 : hp_fr hx_UD σ σ3 := FX2.tr (p3.mono (fun q f h => .inl h))
      have FM3 : hp_fr hm_QD (hm_ask0 τ) τ3 := FM2.tr p4
      rcases p5 with ⟨a3, l, g1, g2, g3, g4⟩ | ⟨no, -⟩
      · obtain ⟨σ4, τ4, x, q1, q2, q3, q4, q5⟩ := q_askE g2 (nI K)
        refine ⟨σ4, τ4, nI K, x, q1, q2, FX3.tr (q3.mono (fun q f h => .inl (hx_FD_QD q f h))), FM3.tr (q4.mono hm_FD_QD), ?_⟩
        rcases q5 with ⟨rfl, q5⟩ | ⟨rfl, q5⟩
        · have ha3 := g2.2.2.2.2.2
          have hl3 := g3.2.2.2
          rw [List.nil_append] at g3 hl3
          exact .inl ⟨rfl, K, l, k6, rfl, by rw [q3.i (by unfold hx_FD; omega), p3.i (by unfold hx_QD; omega)]; exact e9, g3.1.fr q3 (fun q f h => by unfold hx_FD at h; omega), g3.2.1.fr q4 (fun q f h => by unfold hm_FD at h; omega), by rw [List.length_nil] at hl3; omega, q5, fun _ => g4.mono (by omega), fun h => by omega⟩
        · exact .inr ⟨rfl, q5⟩
      · obtain ⟨σ4, q1, q2, q3, q4⟩ := q_askN no (nI K)
        exact ⟨σ4, τ3, nI K, 0, q1, q2, FX3.tr (q3.mono (fun q f h => .inl (hx_FD_QD q f h))), FM3, .inr ⟨rfl, q4⟩⟩
    · have n3 : ¬ (3 : Int32) < nI (K + 1) := fun z => by have := (hl_lt (a := 3) (by omega) (by omega)).mp z; omega
      have m3 : ¬ (3 : Int32) ≤ nI K := fun z => by have := (hl_le (a := 3) (by omega) (by omega)).mp z; omega
      obtain ⟨σ3, τ3, p1, p2, p3, p4, p5⟩ := q_qTest (q_recTest (n := n) (b := b)) Bw Qw
      rw [if_neg n3, if_neg m3, p1, Option.bind_some, p2, Option.bind_some]
      have FX3 : hp_fr hx_UD σ σ3 := FX2.tr (p3.mono (fun q f h => .inl h))
      have FM3 : hp_fr hm_QD (hm_ask0 τ) τ3 := FM2.tr p4
      rcases p5 with ⟨a3, l, g1, g2, g3, g4⟩ | no
      · obtain ⟨σ4, τ4, x, q1, q2, q3, q4, q5⟩ := q_askE g2 (nI K)
        refine ⟨σ4, τ4, nI K, x, q1, q2, FX3.tr (q3.mono (fun q f h => .inl (hx_FD_QD q f h))), FM3.tr (q4.mono hm_FD_QD), ?_⟩
        rcases q5 with ⟨rfl, q5⟩ | ⟨rfl, q5⟩
        · have ha3 := g2.2.2.2.2.2
          have hl3 := g3.2.2.2
          rw [List.nil_append] at g3 hl3
          exact .inl ⟨rfl, K, l, k6, rfl, by rw [q3.i (by unfold hx_FD; omega), p3.i (by unfold hx_QD; omega)]; exact e9, g3.1.fr q3 (fun q f h => by unfold hx_FD at h; omega), g3.2.1.fr q4 (fun q f h => by unfold hm_FD at h; omega), by rw [List.length_nil] at hl3; omega, q5, fun h => by omega, fun _ => g4⟩
        · exact .inr ⟨rfl, q5⟩
      · obtain ⟨σ4, q1, q2, q3, q4⟩ := q_askN no (nI K)
        exact ⟨σ4, τ3, nI K, 0, q1, q2, FX3.tr (q3.mono (fun q f h => .inl (hx_FD_QD q f h))), FM3, .inr ⟨rfl, q4⟩⟩
  · obtain ⟨f1, f2, f3⟩ := q_fail0 (σ := hl_si σ1 55 9 0) (τ := hl_si (hm_ask0 τ) 64 2 (nI s)) (f := 1) (p := nI s) (by rw [hp_sn (by omega)]; exact H.x.1) H.x.2 (by decide)
    have e2 : (hl_si σ1 55 9 0).1 3 2 = nI s := by rw [hp_sn (by omega)]; exact H.2.2.1
    have e9 : (f_Rd_fail 1 (nI s) (hl_si σ1 55 9 0)).1 55 9 = 0 := by rw [f2.i (by unfold hx_FD; omega), hp_s01]
    obtain ⟨σ3, p1, p2, p3⟩ := hx_noT 0 (by omega) 40 (by omega) _ f1
    obtain ⟨σ4, q1, q2, q3, q4⟩ := q_askN p3 5
    rw [if_neg k6, if_neg k6, if_pos rfl, e2, Option.bind_some]
    unfold f_Qu_understand_j47 hm_askR
    rw [hx_noA f1, Option.bind_some, e9, if_neg (show ¬ (3 : Int32) < 0 by decide), p1, Option.bind_some, if_neg f1.x.2]
    exact ⟨σ4, _, 5, 0, q1, q2, (((FX1.tr ((FS9 0).mono (fun q f h => .inr h))).tr (f2.mono (fun q f h => .inl (hx_FD_QD q f h)))).tr (p2.mono (fun q f h => .inl h))).tr (q3.mono (fun q f h => .inl (hx_FD_QD q f h))), (FM1.tr (F1.mono hm_FD_QD)).tr (f3.mono hm_FD_QD), .inr ⟨rfl, q4⟩⟩
end UNDER
