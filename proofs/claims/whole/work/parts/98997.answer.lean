/-! questions: the answer of all beats, both sides -/
def hq_tk (kd : Nat) (v : Int64) (i : Int32) (a : Int64) (nw : Int32) : Int64 := if kd = 0 then (if v = 1 ∧ a = -1 then i.toInt64 else a) else if kd = 1 then (if v = 1 then i.toInt64 else a) else if kd = 2 then (if v = 1 then a + 1 else a) else if kd = 3 then a + v else if kd = 4 then (if nw = 0 then (if v ≤ a then a else v) else v) else (if nw = 0 then (if a ≤ v then a else v) else v)
def hm_WD (q f : Nat) : Prop := hm_PD q f ∨ (q = 64 ∧ (f = 79 ∨ f = 80))
section ANSWER
variable {G P : hp_G} {σ τ σ' τ' υ : hl_M} {k j N bb o bs kd : Nat} {v x y z : Int64} {p q : List Int64} {C l : List Nat}
theorem hm_takesE (hk : kd < 6) (v : Int64) (i : Int32) (τ : hl_M) : hp_fr (fun q f => q = 64 ∧ (f = 79 ∨ f = 80)) τ (f_M_qTakes (nI kd) v i τ) ∧ (f_M_qTakes (nI kd) v i τ).1 64 80 = 0 ∧ (f_M_qTakes (nI kd) v i τ).2 64 79 = hq_tk kd v i (τ.2 64 79) (τ.1 64 80) := by
  have A : hp_fr (fun q f => q = 64 ∧ (f = 79 ∨ f = 80)) τ (hl_si τ 64 80 0) ∧ (hl_si τ 64 80 0).1 64 80 = 0 ∧ (hl_si τ 64 80 0).2 64 79 = τ.2 64 79 := ⟨hp_fr.rf.si ⟨rfl, .inr rfl⟩, hp_s01, rfl⟩
  have Bf : ∀ w : Int64, hp_fr (fun q f => q = 64 ∧ (f = 79 ∨ f = 80)) τ (hl_si (hl_sl τ 64 79 w) 64 80 0) ∧ (hl_si (hl_sl τ 64 79 w) 64 80 0).1 64 80 = 0 ∧ (hl_si (hl_sl τ 64 79 w) 64 80 0).2 64 79 = w := fun w => ⟨(hp_fr.rf.sl ⟨rfl, .inl rfl⟩).si ⟨rfl, .inr rfl⟩, hp_s01, by rw [hp_s2, hp_s11]⟩
  have : kd = 0 ∨ kd = 1 ∨ kd = 2 ∨ kd = 3 ∨ kd = 4 ∨ kd = 5 := by omega
  have z0 : ¬ (1 : Int32) = 0 := by decide
  rcases this with rfl | rfl | rfl | rfl | rfl | rfl
  · unfold f_M_qTakes f_M_qTakes_j16 f_M_qTakes_j38 f_M_qTakes_j48 f_M_qTakes_j55 f_M_qTakes_j75 f_M_qTakes_j90 f_M_qTakes_j133
    show _ ∧ _ ∧ _ = (if v = 1 ∧ τ.2 64 79 = -1 then i.toInt64 else τ.2 64 79)
    rw [if_neg (by decide)]
    by_cases h : v = 1
    · rw [if_pos h, if_pos (show nI 0 = (0 : Int32) from rfl), if_neg z0]
      by_cases e : τ.2 64 79 = -1
      · rw [if_pos e, if_neg (by decide), if_neg (by decide), if_pos (by decide), if_pos (show v = 1 ∧ τ.2 64 79 = -1 from ⟨h, e⟩)]
        exact Bf _
      · rw [if_neg e, if_neg (by decide), if_neg (by decide), if_neg (by decide), if_pos (by decide), if_neg (fun z => e z.2)]
        exact A
    · rw [if_neg h, if_pos (show nI 0 = (0 : Int32) from rfl), if_pos rfl, if_neg (by decide), if_neg (by decide), if_neg (by decide), if_pos (by decide), if_neg (fun z => h z.1)]
      exact A
  · unfold f_M_qTakes f_M_qTakes_j16 f_M_qTakes_j38 f_M_qTakes_j48 f_M_qTakes_j55 f_M_qTakes_j75 f_M_qTakes_j90 f_M_qTakes_j133
    show _ ∧ _ ∧ _ = (if v = 1 then i.toInt64 else τ.2 64 79)
    rw [if_neg (by decide)]
    by_cases h : v = 1
    · rw [if_pos h, if_neg (by decide), if_pos (show nI 1 = (1 : Int32) from rfl), if_neg z0, if_neg (by decide), if_neg (by decide), if_pos (by decide), if_pos h]
      exact Bf _
    · rw [if_neg h, if_neg (by decide), if_pos (show nI 1 = (1 : Int32) from rfl), if_pos rfl, if_neg (by decide), if_neg (by decide), if_pos (by decide), if_neg h]
      exact A
  · unfold f_M_qTakes f_M_qTakes_j16 f_M_qTakes_j38 f_M_qTakes_j55 f_M_qTakes_j75 f_M_qTakes_j90 f_M_qTakes_j133
    show _ ∧ _ ∧ _ = (if v = 1 then τ.2 64 79 + 1 else τ.2 64 79)
    rw [if_neg (by decide)]
    by_cases h : v = 1
    · rw [if_pos h, if_neg (by decide), if_neg (by decide), if_pos (show nI 2 = (2 : Int32) from rfl), if_neg z0, if_neg (by decide), if_pos (by decide), if_pos h]
      exact Bf _
    · rw [if_neg h, if_neg (by decide), if_neg (by decide), if_pos (show nI 2 = (2 : Int32) from rfl), if_pos rfl, if_neg (by decide), if_pos (by decide), if_neg h]
      exact A
  · unfold f_M_qTakes f_M_qTakes_j16 f_M_qTakes_j38 f_M_qTakes_j55 f_M_qTakes_j75 f_M_qTakes_j90 f_M_qTakes_j133
    show _ ∧ _ ∧ _ = τ.2 64 79 + v
    rw [if_pos (by decide), if_neg (by decide), if_neg (by decide), if_neg (by decide), if_pos (show nI 3 = (3 : Int32) from rfl), if_pos (by decide)]
    exact Bf _
  · unfold f_M_qTakes f_M_qTakes_j16 f_M_qTakes_j38 f_M_qTakes_j55 f_M_qTakes_j75 f_M_qTakes_j90 f_M_qTakes_j128 f_M_qTakes_j133
    show _ ∧ _ ∧ _ = (if τ.1 64 80 = 0 then (if v ≤ τ.2 64 79 then τ.2 64 79 else v) else v)
    rw [if_pos (by decide), if_neg (by decide), if_neg (by decide), if_neg (by decide), if_neg (by decide), if_neg (by decide)]
    by_cases h : τ.1 64 80 = 0
    · rw [if_pos h, if_pos (show nI 4 = (4 : Int32) from rfl), if_pos h]
      by_cases e : v ≤ τ.2 64 79
      · rw [if_pos e, if_pos e]; exact A
      · rw [if_neg e, if_neg e]; exact Bf _
    · rw [if_neg h, if_neg h]; exact Bf _
  · unfold f_M_qTakes f_M_qTakes_j16 f_M_qTakes_j38 f_M_qTakes_j55 f_M_qTakes_j75 f_M_qTakes_j90 f_M_qTakes_j128 f_M_qTakes_j133
    show _ ∧ _ ∧ _ = (if τ.1 64 80 = 0 then (if τ.2 64 79 ≤ v then τ.2 64 79 else v) else v)
    rw [if_pos (by decide), if_neg (by decide), if_neg (by decide), if_neg (by decide), if_neg (by decide), if_neg (by decide)]
    by_cases h : τ.1 64 80 = 0
    · rw [if_pos h, if_neg (by decide), if_pos h]
      by_cases e : τ.2 64 79 ≤ v
      · rw [if_pos e, if_pos e]; exact A
      · rw [if_neg e, if_neg e]; exact Bf _
    · rw [if_neg h, if_neg h]; exact Bf _
theorem hp_max64' (x y : Int64) : f_Math_max_JJJ x y = if y ≤ x then x else y := by
  unfold f_Math_max_JJJ
  simp only [fa_lt64, fa_le64]
  by_cases h : x.toInt < y.toInt
  · rw [if_pos h, if_neg (by omega)]
  · rw [if_neg h, if_pos (by omega)]
theorem hp_min64' (x y : Int64) : f_Math_min_JJJ x y = if x ≤ y then x else y := by
  unfold f_Math_min_JJJ
  simp only [fa_lt64, fa_le64]
  by_cases h : y.toInt < x.toInt
  · rw [if_pos h, if_neg (by omega)]
  · rw [if_neg h, if_pos (by omega)]
def hq_rel (kd k : Nat) (v0 : Int64) (fi la : Int32) (m : Nat) (to mo le a : Int64) (nw : Int32) : Prop := (kd = 0 → a = fi.toInt64) ∧ (kd = 1 → a = la.toInt64) ∧ (kd = 2 → a = lN m) ∧ (kd = 3 → a = to) ∧ (kd = 4 → 0 < k → a = mo) ∧ (kd = 5 → 0 < k → a = le) ∧ (k = 0 → nw = 1 ∧ mo = v0 ∧ le = v0) ∧ (0 < k → nw = 0)
theorem q_answer (H : hx G P σ) (K : hm G P τ) (O : hm_o 1000 1000 0 τ) (QX : hx_q C o σ) (QM : hm_q C [] o bs τ) (hl : C.length < 1601) (hk : kd < 6) (e9 : σ.1 55 9 = nI (kd + 1)) (hG : 3 ≤ kd → hq_G 21 C) (hT : kd < 3 → hq_T 24 C) : ∃ r σ' τ', f_Qu_answer σ = some (r, σ') ∧ hp_fr hx_VD σ σ' ∧ f_M_ask_j168 (nI kd) (if kd < 2 then -1 else 0) τ = some (r, τ') ∧ hp_fr hm_WD τ τ' := by
  obtain ⟨v0, -, V0, -⟩ := q_value (bb := 0) H K O hl (by omega) hG hT (o := o) (bs := bs)
  obtain ⟨σ0, a1, a2⟩ := V0 σ H QX
  have a1' : f_Qu_valueIn 0 σ = some (v0, σ0) := a1
  have OF : ∀ τ', hp_fr hm_WD τ τ' → hm_o 1000 1000 0 τ' := fun τ' F => ⟨O.1, O.2.1, O.2.2.1, by rw [F.i (by unfold hm_WD hm_PD; omega)]; exact O.2.2.2.1, by rw [F.i (by unfold hm_WD hm_PD; omega)]; exact O.2.2.2.2.1, fun h => absurd rfl h⟩
  have HF : ∀ σ', hp_fr hx_VD σ σ' → hx G P σ' ∧ hx_q C o σ' := fun σ' F => ⟨H.fr F (fun q f h => by unfold hx_VD hx_PD at h; omega), QX.fr F (fun q f h => by unfold hx_VD hx_PD at h; omega)⟩
  have KF : ∀ τ', hp_fr hm_WD τ τ' → hm G P τ' ∧ hm_q C [] o bs τ' := fun τ' F => ⟨K.fr F (fun q f h => by unfold hm_WD hm_PD at h; unfold hm_dep; omega), QM.fr F (fun q f h => by unfold hm_WD hm_PD at h; omega)⟩
  have FM0 : hp_fr hm_WD τ (hl_si (hl_sl τ 64 79 (if kd < 2 then -1 else 0)) 64 80 1) := (hp_fr.rf.sl (.inr ⟨rfl, .inl rfl⟩)).si (.inr ⟨rfl, .inr rfl⟩)
  unfold f_Qu_answer f_M_ask_j168
  rw [a1', Option.bind_some]
  dsimp only
  refine hp_simX (b := f_Qu_answer_L23) (b' := f_M_ask_L178 (nI kd)) (s := (-1, -1, 0, 0, v0, v0, 0, σ0)) (s' := (0, hl_si (hl_sl τ 64 79 (if kd < 2 then -1 else 0)) 64 80 1)) 100 (fun k x y => ∃ fi la m to mo le σ1 τ1, x = (fi, la, nI m, to, mo, le, nI k, σ1) ∧ y = (nI k, τ1) ∧ m ≤ k ∧ (m = 0 ↔ fi = -1) ∧ hp_fr hx_VD σ σ1 ∧ hp_fr hm_WD τ τ1 ∧ hq_rel kd k v0 fi la m to mo le (τ1.2 64 79) (τ1.1 64 80)) (fun e e' => ∃ fi la m to mo le σ1, e = (fi, la, nI m, to, mo, le, σ1) ∧ m ≤ 100 ∧ hp_fr hx_VD σ σ1 ∧ hp_fr hm_WD τ e' ∧ hq_rel kd 100 v0 fi la m to mo le (e'.2 64 79) (e'.1 64 80)) (by omega) ?_ ?_ ?_ ?_
  · refine ⟨-1, -1, 0, 0, v0, v0, σ0, _, rfl, rfl, Nat.le_refl _, ⟨fun _ => rfl, fun _ => rfl⟩, a2, FM0, ?_, ?_, ?_, ?_, fun _ h => absurd h (by omega), fun _ h => absurd h (by omega), fun _ => ⟨hp_s01, rfl, rfl⟩, fun h => absurd h (by omega)⟩
    · rintro rfl; rw [hp_s2, hp_s11]; decide
    · rintro rfl; rw [hp_s2, hp_s11]; decide
    · rintro rfl; rw [hp_s2, hp_s11]; decide
    · rintro rfl; rw [hp_s2, hp_s11]; decide
  · rintro e e' g1 g2 ⟨fi, la, m, to, mo, le, σ1, rfl, hm, FX, FM, R⟩
    obtain ⟨R0, R1, R2, R3, R4, R5, -, -⟩ := R
    have x9 : σ1.1 55 9 = nI (kd + 1) := by rw [FX.i (by unfold hx_VD hx_PD; omega)]; exact e9
    rw [g1, g2, Option.bind_some, Option.bind_some]
    dsimp only
    rw [x9]
    have : kd = 0 ∨ kd = 1 ∨ kd = 2 ∨ kd = 3 ∨ kd = 4 ∨ kd = 5 := by omega
    rcases this with rfl | rfl | rfl | rfl | rfl | rfl
    · rw [if_pos (by decide), R0 rfl]; exact ⟨_, _, _, rfl, FX, rfl, FM⟩
    · rw [if_neg (by decide), if_pos (by decide), R1 rfl]; exact ⟨_, _, _, rfl, FX, rfl, FM⟩
    · rw [if_neg (by decide), if_neg (by decide), if_pos (by decide), R2 rfl, nI_l (by omega)]; exact ⟨_, _, _, rfl, FX, rfl, FM⟩
    · rw [if_neg (by decide), if_neg (by decide), if_neg (by decide), if_pos (by decide), R3 rfl]; exact ⟨_, _, _, rfl, FX, rfl, FM⟩
    · rw [if_neg (by decide), if_neg (by decide), if_neg (by decide), if_neg (by decide), if_pos (by decide), R4 rfl (by omega)]; exact ⟨_, _, _, rfl, FX, rfl, FM⟩
    · rw [if_neg (by decide), if_neg (by decide), if_neg (by decide), if_neg (by decide), if_neg (by decide), R5 rfl (by omega)]; exact ⟨_, _, _, rfl, FX, rfl, FM⟩
  · rintro k _ _ hk100 ⟨fi, la, m, to, mo, le, σ1, τ1, rfl, rfl, hm, mf, FX, FM, R0, R1, R2, R3, R4, R5, R6, R7⟩
    left
    obtain ⟨v, hv, VX, VM⟩ := q_value (bb := k) H K O hl hk100 hG hT (o := o) (bs := bs)
    obtain ⟨σ2, b1, b2⟩ := VX σ1 (HF σ1 FX).1 (HF σ1 FX).2
    obtain ⟨τ2, c1, c2⟩ := VM τ1 (KF τ1 FM).1 (OF τ1 FM) (KF τ1 FM).2
    obtain ⟨d1, d2, d3⟩ := hm_takesE hk v (nI k) τ2
    have v00 : k = 0 → v = v0 := by
      rintro rfl
      obtain ⟨σ3, f1, f2⟩ := V0 σ1 (HF σ1 FX).1 (HF σ1 FX).2
      rw [f1] at b1
      exact (congrArg Prod.fst (Option.some.inj b1)).symm
    have n1 : ¬ 100 ≤ nI k := by first | omega | (simp (disch := first | assumption | omega) only [↓hp_neg1, hp_l0, hp_l1, hp_l2, hp_l3, hp_l4, hp_l5, hp_l6, hp_l7, hp_l8, hp_l9, hp_l10, hp_l11, hp_l12, hp_l13, hp_l14, hp_l15, hp_l16, hp_l17, hp_l18, hp_l19, hp_l20, hp_l21, hp_l22, hp_l23, hp_l24, hp_l25, hp_l26, hp_l27, hp_l28, hp_l29, hp_l30, hp_l31, hp_l32, hp_l33, hp_l34, hp_l35, hp_l36, hp_l37, hp_l38, hp_l39, hp_l40, hp_l41, hp_l42, hp_l43, hp_l44, hp_l45, hp_l46, hp_l47, hp_l48, hp_l49, hp_l50, hp_l51, hp_l52, hp_l53, hp_l54, hp_l55, hp_l56, hp_l57, hp_l58, hp_l59, hp_l60, hp_l61, hp_l62, hp_l63, hp_l64, hp_l65, hp_l66, hp_l67, hp_l68, hp_l69, hp_l70, hp_l71, hp_l72, hp_l73, hp_l74, hp_l75, hp_l76, hp_l77, hp_l78, hp_l79, hp_l80, hp_l81, hp_l82, hp_l83, hp_l84, hp_l85, hp_l86, hp_l87, hp_l88, hp_l89, hp_l90, hp_l91, hp_l92, hp_l93, hp_l94, hp_l95, hp_l96, hp_l97, hp_l98, hp_l99, hp_l100, hp_l101, hp_l102, hp_l103, hp_l104, hp_l105, hp_l106, hp_l107, hp_l108, hp_l109, hp_l110, hp_l111, hp_l112, hp_l113, hp_l114, hp_l115, hp_l116, hp_l117, hp_l118, hp_l119, hp_l120, hp_l121, hp_l122, hp_l123, hp_l124, hp_l125, hp_l126, hp_l127, hp_l141, hp_l142, hp_l150, hp_l151, hp_l152, hp_l153, hp_l251, hp_l255, hp_l256, hp_l300, hp_l432, hp_l864, hp_l1000, hp_l1600, hp_l1700, hp_l2304, hp_l2916, hp_l3000, hp_l9999, hp_l10000, nI_add, pk_mul, nI_clamp, hl_lt, hl_le, hl_eq, hl_nIb, hl_nsub, hp_eqm, hp_meq, hp_ltm, hp_mlt, hp_lem, hp_mle, hp_addm, hp_meqm, hp_mlem, hp_withinE, hp_within0, if_pos, if_neg, Option.bind_some, hp_let, Sum.elim_inl, Sum.elim_inr, hp_s01, hp_s11, hp_s2, true_and, and_true, if_true, if_false, not_true_eq_false, not_false_eq_true, reduceCtorEq] <;> omega)
    have y79 : τ2.2 64 79 = τ1.2 64 79 := c2.l (by unfold hm_PD; omega)
    have y80 : τ2.1 64 80 = τ1.1 64 80 := c2.i (by unfold hm_PD; omega)
    rw [y79, y80] at d3
    have FX2 : hp_fr hx_VD σ σ2 := FX.tr b2
    have FM2 : hp_fr hm_WD τ (f_M_qTakes (nI kd) v (nI k) τ2) := (FM.tr (c2.mono (fun q f h => .inl h))).tr (d1.mono (fun q f h => .inr h))
    have stM : f_M_ask_L178 (nI kd) (nI k, τ1) = some (.inl (nI (k + 1), f_M_qTakes (nI kd) v (nI k) τ2)) := by
      unfold f_M_ask_L178
      dsimp only
      rw [if_neg n1, c1, Option.bind_some, nI_1]
    -- most and least
    have mm : kd = 4 → (f_M_qTakes (nI kd) v (nI k) τ2).2 64 79 = f_Math_max_JJJ mo v := by
      rintro rfl
      rw [d3, hp_max64']
      show (if τ1.1 64 80 = 0 then (if v ≤ τ1.2 64 79 then τ1.2 64 79 else v) else v) = _
      rcases Nat.eq_zero_or_pos k with z | z
      · rw [(R6 z).1, if_neg (by decide), (R6 z).2.1, v00 z]
        split <;> rfl
      · rw [R7 z, if_pos rfl, R4 rfl z]
    have ml : kd = 5 → (f_M_qTakes (nI kd) v (nI k) τ2).2 64 79 = f_Math_min_JJJ le v := by
      rintro rfl
      rw [d3, hp_min64']
      show (if τ1.1 64 80 = 0 then (if τ1.2 64 79 ≤ v then τ1.2 64 79 else v) else v) = _
      rcases Nat.eq_zero_or_pos k with z | z
      · rw [(R6 z).1, if_neg (by decide), (R6 z).2.2, v00 z]
        split <;> rfl
      · rw [R7 z, if_pos rfl, R5 rfl z]
    have mt : kd = 3 → (f_M_qTakes (nI kd) v (nI k) τ2).2 64 79 = to + v := by
      rintro rfl
      rw [d3, ← R3 rfl]
      rfl
    -- the class' round
    have stX : ∀ fi' la' m', (if v = 0 then f_Qu_answer_j62 fi la (nI m) to mo le (nI k) v σ2 else if nI m = 0 then f_Qu_answer_j62 (nI k) (nI k) (nI m + 1) to mo le (nI k) v σ2 else f_Qu_answer_j62 fi (nI k) (nI m + 1) to mo le (nI k) v σ2) = f_Qu_answer_j62 fi' la' (nI m') to mo le (nI k) v σ2 → f_Qu_answer_L23 (fi, la, nI m, to, mo, le, nI k, σ1) = some (.inl (fi', la', nI m', to + v, f_Math_max_JJJ mo v, f_Math_min_JJJ le v, nI (k + 1), σ2)) := by
      intro fi' la' m' h
      unfold f_Qu_answer_L23
      dsimp only
      rw [if_neg n1, b1, Option.bind_some]
      dsimp only
      rw [h]
      unfold f_Qu_answer_j62
      rw [nI_1]
    have fin : ∀ fi' la' m', m' ≤ k + 1 → (m' = 0 ↔ fi' = -1) → (kd = 0 → (f_M_qTakes (nI kd) v (nI k) τ2).2 64 79 = fi'.toInt64) → (kd = 1 → (f_M_qTakes (nI kd) v (nI k) τ2).2 64 79 = la'.toInt64) → (kd = 2 → (f_M_qTakes (nI kd) v (nI k) τ2).2 64 79 = lN m') → (if v = 0 then f_Qu_answer_j62 fi la (nI m) to mo le (nI k) v σ2 else if nI m = 0 then f_Qu_answer_j62 (nI k) (nI k) (nI m + 1) to mo le (nI k) v σ2 else f_Qu_answer_j62 fi (nI k) (nI m + 1) to mo le (nI k) v σ2) = f_Qu_answer_j62 fi' la' (nI m') to mo le (nI k) v σ2 → ∃ t t', f_Qu_answer_L23 (fi, la, nI m, to, mo, le, nI k, σ1) = some (.inl t) ∧ f_M_ask_L178 (nI kd) (nI k, τ1) = some (.inl t') ∧ ∃ fi la m to mo le σ1 τ1, t = (fi, la, nI m, to, mo, le, nI (k + 1), σ1) ∧ t' = (nI (k + 1), τ1) ∧ m ≤ k + 1 ∧ (m = 0 ↔ fi = -1) ∧ hp_fr hx_VD σ σ1 ∧ hp_fr hm_WD τ τ1 ∧ hq_rel kd (k + 1) v0 fi la m to mo le (τ1.2 64 79) (τ1.1 64 80) := by
      intro fi' la' m' g1 g2 g3 g4 g5 g6
      exact ⟨_, _, stX fi' la' m' g6, stM, fi', la', m', _, _, _, σ2, _, rfl, rfl, g1, g2, FX2, FM2, g3, g4, g5, mt, fun e _ => mm e, fun e _ => ml e, fun h => absurd h (by omega), fun _ => d2⟩
    by_cases hz : v = 0
    · have nv : ¬ v = 1 := by rw [hz]; decide
      refine fin fi la m (by omega) mf ?_ ?_ ?_ (by rw [if_pos hz])
      · rintro rfl
        rw [d3]
        show (if v = 1 ∧ τ1.2 64 79 = -1 then (nI k).toInt64 else τ1.2 64 79) = _
        rw [if_neg (fun z => nv z.1)]; exact R0 rfl
      · rintro rfl
        rw [d3]
        show (if v = 1 then (nI k).toInt64 else τ1.2 64 79) = _
        rw [if_neg nv]; exact R1 rfl
      · rintro rfl
        rw [d3]
        show (if v = 1 then τ1.2 64 79 + 1 else τ1.2 64 79) = _
        rw [if_neg nv]; exact R2 rfl
    · have nv : kd < 3 → v = 1 := fun h => (hv h).resolve_left hz
      have nk : ¬ nI k = -1 := hl_nm1 (by omega)
      by_cases hm0 : m = 0
      · subst hm0
        refine fin (nI k) (nI k) 1 (by omega) ⟨fun h => absurd h (by decide), fun h => absurd h nk⟩ ?_ ?_ ?_ (by rw [if_neg hz, if_pos (show nI 0 = (0 : Int32) from rfl)]; rfl)
        · rintro rfl
          rw [d3]
          show (if v = 1 ∧ τ1.2 64 79 = -1 then (nI k).toInt64 else τ1.2 64 79) = _
          rw [if_pos ⟨nv (by omega), by rw [R0 rfl, mf.mp rfl]; decide⟩]
        · rintro rfl
          rw [d3]
          show (if v = 1 then (nI k).toInt64 else τ1.2 64 79) = _
          rw [if_pos (nv (by omega))]
        · rintro rfl
          rw [d3]
          show (if v = 1 then τ1.2 64 79 + 1 else τ1.2 64 79) = _
          rw [if_pos (nv (by omega)), R2 rfl, lN_1]
      · have nm : ¬ nI m = 0 := by first | omega | (simp (disch := first | assumption | omega) only [↓hp_neg1, hp_l0, hp_l1, hp_l2, hp_l3, hp_l4, hp_l5, hp_l6, hp_l7, hp_l8, hp_l9, hp_l10, hp_l11, hp_l12, hp_l13, hp_l14, hp_l15, hp_l16, hp_l17, hp_l18, hp_l19, hp_l20, hp_l21, hp_l22, hp_l23, hp_l24, hp_l25, hp_l26, hp_l27, hp_l28, hp_l29, hp_l30, hp_l31, hp_l32, hp_l33, hp_l34, hp_l35, hp_l36, hp_l37, hp_l38, hp_l39, hp_l40, hp_l41, hp_l42, hp_l43, hp_l44, hp_l45, hp_l46, hp_l47, hp_l48, hp_l49, hp_l50, hp_l51, hp_l52, hp_l53, hp_l54, hp_l55, hp_l56, hp_l57, hp_l58, hp_l59, hp_l60, hp_l61, hp_l62, hp_l63, hp_l64, hp_l65, hp_l66, hp_l67, hp_l68, hp_l69, hp_l70, hp_l71, hp_l72, hp_l73, hp_l74, hp_l75, hp_l76, hp_l77, hp_l78, hp_l79, hp_l80, hp_l81, hp_l82, hp_l83, hp_l84, hp_l85, hp_l86, hp_l87, hp_l88, hp_l89, hp_l90, hp_l91, hp_l92, hp_l93, hp_l94, hp_l95, hp_l96, hp_l97, hp_l98, hp_l99, hp_l100, hp_l101, hp_l102, hp_l103, hp_l104, hp_l105, hp_l106, hp_l107, hp_l108, hp_l109, hp_l110, hp_l111, hp_l112, hp_l113, hp_l114, hp_l115, hp_l116, hp_l117, hp_l118, hp_l119, hp_l120, hp_l121, hp_l122, hp_l123, hp_l124, hp_l125, hp_l126, hp_l127, hp_l141, hp_l142, hp_l150, hp_l151, hp_l152, hp_l153, hp_l251, hp_l255, hp_l256, hp_l300, hp_l432, hp_l864, hp_l1000, hp_l1600, hp_l1700, hp_l2304, hp_l2916, hp_l3000, hp_l9999, hp_l10000, nI_add, pk_mul, nI_clamp, hl_lt, hl_le, hl_eq, hl_nIb, hl_nsub, hp_eqm, hp_meq, hp_ltm, hp_mlt, hp_lem, hp_mle, hp_addm, hp_meqm, hp_mlem, hp_withinE, hp_within0, if_pos, if_neg, Option.bind_some, hp_let, Sum.elim_inl, Sum.elim_inr, hp_s01, hp_s11, hp_s2, true_and, and_true, if_true, if_false, not_true_eq_false, not_false_eq_true, reduceCtorEq] <;> omega)
        have nf : ¬ fi = -1 := fun h => hm0 (mf.mpr h)
        refine fin fi (nI k) (m + 1) (by omega) ⟨fun h => absurd h (by omega), fun h => absurd h nf⟩ ?_ ?_ ?_ (by rw [if_neg hz, if_neg nm, nI_1])
        · rintro rfl
          rw [d3]
          show (if v = 1 ∧ τ1.2 64 79 = -1 then (nI k).toInt64 else τ1.2 64 79) = _
          rw [if_neg, R0 rfl]
          rintro ⟨-, h⟩
          rw [R0 rfl, show (-1 : Int64) = (-1 : Int32).toInt64 from by decide, fa_wide_eq] at h
          exact nf h
        · rintro rfl
          rw [d3]
          show (if v = 1 then (nI k).toInt64 else τ1.2 64 79) = _
          rw [if_pos (nv (by omega))]
        · rintro rfl
          rw [d3]
          show (if v = 1 then τ1.2 64 79 + 1 else τ1.2 64 79) = _
          rw [if_pos (nv (by omega)), R2 rfl, lN_1]
  · rintro _ _ ⟨fi, la, m, to, mo, le, σ1, τ1, rfl, rfl, hm, mf, FX, FM, R⟩
    refine ⟨_, _, ?_, ?_, fi, la, m, to, mo, le, σ1, rfl, hm, FX, FM, R⟩
    · unfold f_Qu_answer_L23
      dsimp only
      rw [if_pos (by decide)]
    · unfold f_M_ask_L178
      dsimp only
      rw [if_pos (by decide)]
end ANSWER
