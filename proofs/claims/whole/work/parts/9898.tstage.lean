/-! questions: the stages of the model's test -/
def hm_H2 (x7 : hl_M) : Option (Int32 × hl_M) :=
  (f_M_takes 98 x7).bind fun x8 =>
  if x8.1 = 0 then
  (f_M_takes 99 x8.2).bind fun x9 =>
  if x9.1 = 0 then
  if (x9.2.1 64 5) = 0 then
  (f_M_qHasSquare x9.2).bind fun x10 =>
  if x10 = 0 then
  some ((0, x9.2)) else
  some ((0, f_M_fail 1 (x9.2.1 64 2) x9.2)) else
  some ((0, x9.2)) else
  (hl_lp (f_M_qGoesOnTest_L137) hl_big x9.2).bind fun x14 =>
  if hl_b (x14.1 64 74) 1700 then
  hl_let (hl_si (hl_si x14 111 (x14.1 64 74).toNatClampNeg 11) 64 74 (((hl_si x14 111 (x14.1 64 74).toNatClampNeg 11).1 64 74) + 1)) (fun σ15 =>
  some ((1, σ15))) else none else
  (hl_lp (f_M_qGoesOnTest_L87) hl_big x8.2).bind fun x18 =>
  if hl_b (x18.1 64 74) 1700 then
  hl_let (hl_si (hl_si x18 111 (x18.1 64 74).toNatClampNeg 10) 64 74 (((hl_si x18 111 (x18.1 64 74).toNatClampNeg 10).1 64 74) + 1)) (fun σ19 =>
  some ((1, σ19))) else none
def hm_B (k : Nat) (x5 : Int32 × hl_M) : Option hl_M := if x5.1 = 0 then hl_lp f_M_qTest_L2 k (0, x5.2) else hl_lp f_M_qTest_L2 k (1, x5.2)
def hm_sH (k m : Nat) (τ : hl_M) : Option hl_M := ((hl_lp f_M_qGoesOnTest_L0 m τ).bind hm_H2).bind (hm_B k)
def hm_B1 (k : Nat) (x4 : hl_M) : Option hl_M := if x4.1 64 5 = 0 then hm_sH k hl_big x4 else hl_lp f_M_qTest_L2 k (0, x4)
def hm_RT (n s : Nat) (τ r : hl_M) : Prop := ∀ k, 2 * (n - s) + 4 ≤ k → hl_lp f_M_qTest_L2 k (1, τ) = some r
def hm_RH (n s : Nat) (τ r : hl_M) : Prop := ∀ k m, 2 * (n - s) + 4 ≤ k → 2 * (n - s) + 4 ≤ m → hm_sH k m τ = some r
def hm_RD (n s w : Nat) (τ r : hl_M) : Prop := ∀ (F : hl_M → Option hl_M) k m j, 2 * (n - s) + 4 ≤ k → 2 * (n - s) + 4 ≤ m → w + 1 ≤ j → (∀ x, x.1 64 5 = 0 → F x = hm_sH k m x) → (hl_lp f_M_qDropsNots_L0 j τ).bind F = some r
section TSTAGE
variable {σ τ τ1 υ r : hl_M} {C W pd : List Nat} {v o bs k m w x br n s a s1 j : Nat}
theorem hm_s.mem : ∀ {W : List Nat}, hm_s W τ → ∀ v ∈ W, ∃ i, i < W.length ∧ τ.1 111 i = nI v
  | [], _, v, h => by cases h
  | y :: W, ⟨h1, h2⟩, v, h => by
    rcases List.mem_cons.mp h with rfl | h
    · exact ⟨W.length, by simp, h1⟩
    · obtain ⟨i, hi, e⟩ := hm_s.mem h2 v h
      exact ⟨i, by simp; omega, e⟩
theorem hm_s.at' : ∀ {W : List Nat}, hm_s W τ → ∀ i, i < W.length → ∃ v, v ∈ W ∧ τ.1 111 i = nI v
  | [], _, i, h => by cases h
  | y :: W, ⟨h1, h2⟩, i, h => by
    by_cases e : i = W.length
    · subst e; exact ⟨y, by simp, h1⟩
    · obtain ⟨v, hv, e⟩ := hm_s.at' h2 i (by simp at h; omega)
      exact ⟨v, by simp [hv], e⟩
theorem hm_hasSquare (H : hm_q C W o bs τ) (hW : ∀ x ∈ W, x < 1000) (hl : W.length < 1700) : f_M_qHasSquare τ = some (if 25 ∈ W then 1 else 0) := by
  have e74 : τ.1 64 74 = nI W.length := H.2.1.1
  have hs := H.2.1.2
  unfold f_M_qHasSquare
  refine hp_invX (b := f_M_qHasSquare_L2 τ) (s := 0) W.length (fun j x => x = nI j ∧ ∀ i, i < j → ¬ τ.1 111 i = 25) (fun e => (e = .inl () ∧ ∀ i, i < W.length → ¬ τ.1 111 i = 25) ∨ (e = .inr 1 ∧ ∃ i, i < W.length ∧ τ.1 111 i = 25)) (by omega) ⟨rfl, fun i hi => by omega⟩ ?_ ?_ ?_
  · intro e h1 h2
    rw [h1, Option.bind_some]
    rcases h2 with ⟨rfl, h2⟩ | ⟨rfl, i, hi, h2⟩
    · rw [if_neg]
      · rfl
      · intro z
        obtain ⟨i, hi, e⟩ := hs.mem 25 z
        exact h2 i hi e
    · rw [if_pos]
      · rfl
      · obtain ⟨v, hv, e⟩ := hs.at' i hi
        rw [h2] at e
        have hv2 := hW v hv
        have q : nI 25 = nI v ↔ 25 = v := hl_eq (by omega) (by omega)
        rw [q.mp e]
        exact hv
  · rintro j _ hj ⟨rfl, h2⟩
    have n1 : ¬ nI W.length ≤ nI j := by first | omega | (simp (disch := first | assumption | omega) only [↓hp_neg1, hp_l0, hp_l1, hp_l2, hp_l3, hp_l4, hp_l5, hp_l6, hp_l7, hp_l8, hp_l9, hp_l10, hp_l11, hp_l12, hp_l13, hp_l14, hp_l15, hp_l16, hp_l17, hp_l18, hp_l19, hp_l20, hp_l21, hp_l22, hp_l23, hp_l24, hp_l25, hp_l26, hp_l27, hp_l28, hp_l29, hp_l30, hp_l31, hp_l32, hp_l33, hp_l34, hp_l35, hp_l36, hp_l37, hp_l38, hp_l39, hp_l40, hp_l41, hp_l42, hp_l43, hp_l44, hp_l45, hp_l46, hp_l47, hp_l48, hp_l49, hp_l50, hp_l51, hp_l52, hp_l53, hp_l54, hp_l55, hp_l56, hp_l57, hp_l58, hp_l59, hp_l60, hp_l61, hp_l62, hp_l63, hp_l64, hp_l65, hp_l66, hp_l67, hp_l68, hp_l69, hp_l70, hp_l71, hp_l72, hp_l73, hp_l74, hp_l75, hp_l76, hp_l77, hp_l78, hp_l79, hp_l80, hp_l81, hp_l82, hp_l83, hp_l84, hp_l85, hp_l86, hp_l87, hp_l88, hp_l89, hp_l90, hp_l91, hp_l92, hp_l93, hp_l94, hp_l95, hp_l96, hp_l97, hp_l98, hp_l99, hp_l100, hp_l101, hp_l102, hp_l103, hp_l104, hp_l105, hp_l106, hp_l107, hp_l108, hp_l109, hp_l110, hp_l111, hp_l112, hp_l113, hp_l114, hp_l115, hp_l116, hp_l117, hp_l118, hp_l119, hp_l120, hp_l121, hp_l122, hp_l123, hp_l124, hp_l125, hp_l126, hp_l127, hp_l141, hp_l142, hp_l150, hp_l151, hp_l152, hp_l153, hp_l251, hp_l255, hp_l256, hp_l300, hp_l432, hp_l864, hp_l1000, hp_l1600, hp_l1700, hp_l2304, hp_l2916, hp_l3000, hp_l9999, hp_l10000, nI_add, pk_mul, nI_clamp, hl_lt, hl_le, hl_eq, hl_nIb, hl_nsub, hp_eqm, hp_meq, hp_ltm, hp_mlt, hp_lem, hp_mle, hp_addm, hp_meqm, hp_mlem, hp_withinE, hp_within0, if_pos, if_neg, Option.bind_some, hp_let, Sum.elim_inl, Sum.elim_inr, hp_s01, hp_s11, hp_s2, true_and, and_true, if_true, if_false, not_true_eq_false, not_false_eq_true, reduceCtorEq] <;> omega)
    have hb : hl_b (nI j) 1700 := (hl_nIb (by omega)).mpr (by omega)
    unfold f_M_qHasSquare_L2
    rw [e74, if_neg n1, if_pos hb, nI_clamp (by omega)]
    by_cases e : τ.1 111 j = 25
    · rw [if_pos e]
      exact .inr ⟨_, rfl, .inr ⟨rfl, j, hj, e⟩⟩
    · rw [if_neg e, nI_1]
      refine .inl ⟨_, rfl, rfl, fun i hi => ?_⟩
      by_cases ei : i = j
      · rw [ei]; exact e
      · exact h2 i (by omega)
  · rintro _ ⟨rfl, h2⟩
    unfold f_M_qHasSquare_L2
    rw [e74, if_pos (nI_le (Nat.le_refl _) (by omega))]
    exact ⟨_, rfl, .inl ⟨rfl, h2⟩⟩
theorem hm_L2e : hl_lp f_M_qTest_L2 (k + 1) (0, τ) = some τ := by
  apply hl_lp_e
  unfold f_M_qTest_L2
  dsimp only
  rw [if_pos rfl]
theorem hm_RT.bad (h : ¬ τ.1 64 5 = 0) : hm_RT n s τ τ := by
  intro k hk
  obtain ⟨k, rfl⟩ : ∃ g, k = g + 1 := ⟨k - 1, by omega⟩
  apply hl_lp_e
  unfold f_M_qTest_L2
  dsimp only
  rw [if_neg (show ¬ (1 : Int32) = 0 by decide), if_neg h]
theorem hm_RT.pos (H : hm_RT n s τ r) (h : a ≤ s) : hm_RT n a τ r := fun k hk => H k (by omega)
theorem hm_RH.pos (H : hm_RH n s τ r) (h : a ≤ s) : hm_RH n a τ r := fun k m hk hm => H k m (by omega) (by omega)
theorem hm_RT.norm (h : τ.1 64 5 = 0) (h1 : τ1.1 64 5 = 0) (hl : f_M_look τ = f_M_look τ1) (H : hm_RT n s τ1 r) : hm_RT n s τ r := by
  intro k hk
  have e : f_M_qTest_L2 (1, τ) = f_M_qTest_L2 (1, τ1) := by
    unfold f_M_qTest_L2
    dsimp only
    rw [if_pos h, if_pos h1, hl, if_neg (show ¬ (1 : Int32) = 0 by decide), if_neg (show ¬ (1 : Int32) = 0 by decide)]
  rw [← H k hk]
  obtain ⟨k, rfl⟩ : ∃ g, k = g + 1 := ⟨k - 1, by omega⟩
  rw [hl_lp_b, hl_lp_b, e]
theorem hm_RH.norm (h : τ.1 64 5 = 0) (h1 : τ1.1 64 5 = 0) (hl : f_M_look τ = f_M_look τ1) (H : hm_RH n s τ1 r) : hm_RH n s τ r := by
  intro k m hk hm
  have e : f_M_qGoesOnTest_L0 τ = f_M_qGoesOnTest_L0 τ1 := by
    unfold f_M_qGoesOnTest_L0
    rw [if_pos h, if_pos h1, hl]
  rw [← H k m hk hm]
  obtain ⟨m, rfl⟩ : ∃ g, m = g + 1 := ⟨m - 1, by omega⟩
  unfold hm_sH
  rw [hl_lp_b, hl_lp_b, e]
theorem hm_RT.step (h : f_M_qTest_L2 (1, τ) = some (.inl (1, τ1))) (hs : s < s1) (hn : s1 ≤ n) (H : hm_RT n s1 τ1 r) : hm_RT n s τ r := by
  intro k hk
  obtain ⟨k, rfl⟩ : ∃ g, k = g + 1 := ⟨k - 1, by omega⟩
  rw [hl_lp_s h]
  exact H k (by omega)
theorem hm_RT.stepBad (h : f_M_qTest_L2 (1, τ) = some (.inl (1, τ1))) (h1 : ¬ τ1.1 64 5 = 0) : hm_RT n s τ τ1 := by
  intro k hk
  obtain ⟨k, rfl⟩ : ∃ g, k = g + 2 := ⟨k - 2, by omega⟩
  rw [hl_lp_s h]
  apply hl_lp_e
  unfold f_M_qTest_L2
  dsimp only
  rw [if_neg (show ¬ (1 : Int32) = 0 by decide), if_neg h1]
/-- the rest of a round behind a fact -/
def hm_fk (x3 : hl_M) : Option ((Int32 × hl_M) ⊕ hl_M) := (f_M_qDropsNots x3).bind fun x4 =>
  if (x4.1 64 5) = 0 then
  (f_M_qGoesOnTest x4).bind fun x5 =>
  if x5.1 = 0 then
  some (.inl ((0, x5.2))) else
  some (.inl ((1, x5.2))) else
  some (.inl ((0, x4)))
theorem hm_lpfk (h : f_M_qTest_L2 (1, τ) = hm_fk τ1) : hl_lp f_M_qTest_L2 (k + 1) (1, τ) = (hl_lp f_M_qDropsNots_L0 hl_big τ1).bind (hm_B1 k) := by
  rw [hl_lp_b, h]
  unfold hm_fk
  rw [Option.bind_assoc]
  unfold f_M_qDropsNots
  rw [Option.bind_assoc]
  congr 1
  funext x
  rw [Option.bind_some]
  unfold hm_B1
  by_cases e : x.1 64 5 = 0
  · rw [if_pos e, if_pos e, Option.bind_assoc]
    show (f_M_qGoesOnTest x).bind _ = (f_M_qGoesOnTest x).bind _
    congr 1
    funext x2
    unfold hm_B
    by_cases e2 : x2.1 = 0
    · rw [if_pos e2, if_pos e2]; rfl
    · rw [if_neg e2, if_neg e2]; rfl
  · rw [if_neg e, if_neg e]
    rfl
theorem hm_RT.fact (h : f_M_qTest_L2 (1, τ) = hm_fk τ1) (hs : s < s1) (hn : s1 ≤ n) (hn2 : n ≤ 1600) (hw : w < 9999) (H : hm_RD n s1 w τ1 r) : hm_RT n s τ r := by
  intro k hk
  obtain ⟨k, rfl⟩ : ∃ g, k = g + 1 := ⟨k - 1, by omega⟩
  rw [hm_lpfk h]
  exact H (hm_B1 k) k hl_big hl_big (by omega) (by unfold hl_big; omega) (by unfold hl_big; omega) (fun x hx => by unfold hm_B1; rw [if_pos hx])
theorem hm_RT.factBad (h : f_M_qTest_L2 (1, τ) = hm_fk τ1) (h1 : ¬ τ1.1 64 5 = 0) : hm_RT n s τ τ1 := by
  intro k hk
  obtain ⟨k, rfl⟩ : ∃ g, k = g + 2 := ⟨k - 2, by omega⟩
  have e : f_M_qDropsNots_L0 τ1 = some (.inr τ1) := by
    unfold f_M_qDropsNots_L0
    rw [if_neg h1]
  rw [hm_lpfk h, hp_lpe _ e, Option.bind_some]
  unfold hm_B1
  rw [if_neg h1, hm_L2e]
/-- NOT waits for a fact -/
theorem hm_RD.pop (H : hm_q C (12 :: W) (o + 1) bs τ) (h5 : τ.1 64 5 = 0) (hC : C.length < 1700) (hW : W.length < 1700) (ho : o < 10) : ∃ τ1, hp_fr (fun q f => hm_QF q f ∨ (q = 64 ∧ f = 75)) τ τ1 ∧ hm_q (C ++ [12]) W o bs τ1 ∧ ∀ n s r, hm_RD n s W.length τ1 r → hm_RD n s (W.length + 1) τ r := by
  have e75 : τ.1 64 75 - 1 = nI o := by rw [H.2.2.1]; exact hl_nsub (a := o + 1) (b := 1) (by omega)
  obtain ⟨τ1, r1, r2, r3⟩ := hm_drop (H.op o) hC hW
  have st : f_M_qDropsNots_L0 τ = some (.inl τ1) := by
    unfold f_M_qDropsNots_L0
    rw [if_pos h5, show (12 : Int32) = nI 12 from rfl, hm_isOn H (by omega) (by omega) hW, if_pos rfl, Option.bind_some, if_neg (by decide), e75, r1, Option.bind_some]
  refine ⟨τ1, (hp_fr.rf.si (.inr ⟨rfl, rfl⟩)).tr (r2.mono (fun q f h => .inl h)), r3, fun n s r HE => ?_⟩
  intro F k m j hk hm hj hF
  obtain ⟨j, rfl⟩ : ∃ g, j = g + 1 := ⟨j - 1, by omega⟩
  rw [hl_lp_s st]
  exact HE F k m j hk hm (by omega) hF
theorem hm_RD.done (H : hm_q C W o bs τ) (hd : hq_hd W (fun x => x ≠ 12)) (h5 : τ.1 64 5 = 0) (hW : W.length < 1700) (HG : hm_RH n s τ r) : hm_RD n s w τ r := by
  intro F k m j hk hm hj hF
  obtain ⟨j, rfl⟩ : ∃ g, j = g + 1 := ⟨j - 1, by omega⟩
  have st : f_M_qDropsNots_L0 τ = some (.inr τ) := by
    unfold f_M_qDropsNots_L0
    rw [if_pos h5]
    cases W with
    | nil => rw [hm_isOn0 H, Option.bind_some, if_pos rfl]
    | cons x W' =>
      rw [List.length_cons] at hW
      obtain ⟨h1, h2⟩ := hd x W' rfl
      rw [show (12 : Int32) = nI 12 from rfl, hm_isOn H h2 (by omega) (by omega), if_neg h1, Option.bind_some, if_pos rfl]
  rw [hl_lp_e st, Option.bind_some, hF τ h5]
  exact HG k m hk hm
theorem hm_RH.next (h : f_M_qGoesOnTest_L0 τ = some (.inr τ)) (h2 : hm_H2 τ = some (1, τ1)) (hs : s < s1) (hn : s1 ≤ n) (H : hm_RT n s1 τ1 r) : hm_RH n s τ r := by
  intro k m hk hm
  obtain ⟨m, rfl⟩ : ∃ g, m = g + 1 := ⟨m - 1, by omega⟩
  unfold hm_sH
  rw [hl_lp_e h, Option.bind_some, h2, Option.bind_some]
  unfold hm_B
  dsimp only
  rw [if_neg (show ¬ (1 : Int32) = 0 by decide)]
  exact H k (by omega)
theorem hm_RH.stop (h : f_M_qGoesOnTest_L0 τ = some (.inr τ)) (h2 : hm_H2 τ = some (0, τ1)) : hm_RH n s τ τ1 := by
  intro k m hk hm
  obtain ⟨m, rfl⟩ : ∃ g, m = g + 1 := ⟨m - 1, by omega⟩
  obtain ⟨k, rfl⟩ : ∃ g, k = g + 1 := ⟨k - 1, by omega⟩
  unfold hm_sH
  rw [hl_lp_e h, Option.bind_some, h2, Option.bind_some]
  unfold hm_B
  dsimp only
  rw [if_pos rfl, hm_L2e]
theorem hm_RH.close (h : f_M_qGoesOnTest_L0 τ = (f_M_qDropsNots τ1).bind fun x4 => some (.inl x4)) (hs : s < s1) (hn : s1 ≤ n) (hn2 : n ≤ 1600) (hw : w < 9999) (H : hm_RD n s1 w τ1 r) : hm_RH n s τ r := by
  intro k m hk hm
  obtain ⟨m, rfl⟩ : ∃ g, m = g + 1 := ⟨m - 1, by omega⟩
  have := H (hm_sH k m) k m hl_big (by omega) (by omega) (by unfold hl_big; omega) (fun x hx => rfl)
  rw [← this]
  unfold hm_sH
  rw [hl_lp_b, h]
  unfold f_M_qDropsNots
  simp only [Option.bind_assoc, Option.bind_some]
/-! loops that drop -/
theorem hm_L87 (hW : hq_hd W (fun x => x ≠ 10)) (hP : ∀ x ∈ pd, x = 10) (h5 : τ.1 64 5 = 0) (H : hm_q C (pd ++ W) o bs τ) (h1 : C.length + pd.length < 1700) (h2 : pd.length + W.length < 1700) : ∃ τ', hl_lp f_M_qGoesOnTest_L87 hl_big τ = some τ' ∧ hp_fr hm_QF τ τ' ∧ hm_q (C ++ pd) W o bs τ' := by
  refine hm_dl (P := fun x => x = 10) (body := f_M_qGoesOnTest_L87) (o := o) (bs := bs) (W := W) ?_ ?_ pd τ C hl_big hP h5 H h1 h2 (by unfold hl_big; omega)
  · rintro τ C x W' h5 H hl hw rfl τ' hd
    unfold f_M_qGoesOnTest_L87
    rw [show (10 : Int32) = nI 10 from rfl, hm_isOn H (by omega) (by omega) hw, if_pos rfl, Option.bind_some, if_neg (by decide), hd, Option.bind_some]
  · intro τ C h5 H hw
    unfold f_M_qGoesOnTest_L87
    cases W with
    | nil => rw [hm_isOn0 H, Option.bind_some, if_pos rfl]
    | cons x W' =>
      rw [List.length_cons] at hw
      obtain ⟨a1, a3⟩ := hW x W' rfl
      rw [show (10 : Int32) = nI 10 from rfl, hm_isOn H (by omega) (by omega) (by omega), if_neg a1, Option.bind_some, if_pos rfl]
theorem hm_L137 (hW : hq_hd W (fun x => x ≠ 10 ∧ x ≠ 11)) (hP : ∀ x ∈ pd, x = 10 ∨ x = 11) (h5 : τ.1 64 5 = 0) (H : hm_q C (pd ++ W) o bs τ) (h1 : C.length + pd.length < 1700) (h2 : pd.length + W.length < 1700) : ∃ τ', hl_lp f_M_qGoesOnTest_L137 hl_big τ = some τ' ∧ hp_fr hm_QF τ τ' ∧ hm_q (C ++ pd) W o bs τ' := by
  refine hm_dl (P := fun x => x = 10 ∨ x = 11) (body := f_M_qGoesOnTest_L137) (o := o) (bs := bs) (W := W) ?_ ?_ pd τ C hl_big hP h5 H h1 h2 (by unfold hl_big; omega)
  · intro τ C x W' h5 H hl hw hx τ' hd
    unfold f_M_qGoesOnTest_L137 f_M_qGoesOnTest_j155
    rw [show (10 : Int32) = nI 10 from rfl, show (11 : Int32) = nI 11 from rfl, hm_isOn H (by omega) (by omega) hw, hm_isOn H (by omega) (by omega) hw, Option.bind_some, Option.bind_some, hd, Option.bind_some]
    rcases hx with rfl | rfl <;> rfl
  · intro τ C h5 H hw
    unfold f_M_qGoesOnTest_L137
    cases W with
    | nil => rw [hm_isOn0 H, Option.bind_some, if_pos rfl, hm_isOn0 H, Option.bind_some, if_pos rfl]
    | cons x W' =>
      rw [List.length_cons] at hw
      obtain ⟨⟨a1, a2⟩, a3⟩ := hW x W' rfl
      rw [show (10 : Int32) = nI 10 from rfl, show (11 : Int32) = nI 11 from rfl, hm_isOn H (by omega) (by omega) (by omega), hm_isOn H (by omega) (by omega) (by omega), if_neg a1, if_neg a2, Option.bind_some, if_pos rfl, Option.bind_some, if_pos rfl]
theorem hm_L33 (hP : ∀ x ∈ pd, x = 10 ∨ x = 11) (h5 : τ.1 64 5 = 0) (H : hm_q C (pd ++ 25 :: W) o bs τ) (h1 : C.length + pd.length < 1700) (h2 : pd.length + W.length < 1699) : ∃ τ', hl_lp f_M_qGoesOnTest_L33 hl_big τ = some τ' ∧ hp_fr hm_QF τ τ' ∧ hm_q (C ++ pd) (25 :: W) o bs τ' := by
  refine hm_dl (P := fun x => x = 10 ∨ x = 11) (body := f_M_qGoesOnTest_L33) (o := o) (bs := bs) (W := 25 :: W) ?_ ?_ pd τ C hl_big hP h5 H h1 (by rw [List.length_cons]; omega) (by unfold hl_big; omega)
  · intro τ C x W' h5 H hl hw hx τ' hd
    unfold f_M_qGoesOnTest_L33
    rw [show (25 : Int32) = nI 25 from rfl, hm_isOn H (by omega) (by omega) hw, if_neg (by omega), Option.bind_some, if_pos rfl, hd, Option.bind_some]
  · intro τ C h5 H hw
    rw [List.length_cons] at hw
    unfold f_M_qGoesOnTest_L33
    rw [show (25 : Int32) = nI 25 from rfl, hm_isOn H (by omega) (by omega) (by omega), if_pos rfl, Option.bind_some, if_neg (by decide)]
theorem hm_L110 (hP : ∀ x ∈ pd, x = 10 ∨ x = 11) (h5 : τ.1 64 5 = 0) (H : hm_q C (pd ++ []) o bs τ) (h1 : C.length + pd.length < 1700) : ∃ τ', hl_lp f_M_qTest_L110 hl_big τ = some τ' ∧ hp_fr hm_QF τ τ' ∧ hm_q (C ++ pd) [] o bs τ' := by
  refine hm_dl (P := fun x => x = 10 ∨ x = 11) (body := f_M_qTest_L110) (o := o) (bs := bs) (W := []) ?_ ?_ pd τ C hl_big hP h5 H h1 (by rw [List.length_nil]; omega) (by unfold hl_big; omega)
  · intro τ C x W' h5 H hl hw hx τ' hd
    have e74 : τ.1 64 74 = nI (W'.length + 1) := H.2.1.1
    have n1 : ¬ nI (W'.length + 1) ≤ 0 := by first | omega | (simp (disch := first | assumption | omega) only [↓hp_neg1, hp_l0, hp_l1, hp_l2, hp_l3, hp_l4, hp_l5, hp_l6, hp_l7, hp_l8, hp_l9, hp_l10, hp_l11, hp_l12, hp_l13, hp_l14, hp_l15, hp_l16, hp_l17, hp_l18, hp_l19, hp_l20, hp_l21, hp_l22, hp_l23, hp_l24, hp_l25, hp_l26, hp_l27, hp_l28, hp_l29, hp_l30, hp_l31, hp_l32, hp_l33, hp_l34, hp_l35, hp_l36, hp_l37, hp_l38, hp_l39, hp_l40, hp_l41, hp_l42, hp_l43, hp_l44, hp_l45, hp_l46, hp_l47, hp_l48, hp_l49, hp_l50, hp_l51, hp_l52, hp_l53, hp_l54, hp_l55, hp_l56, hp_l57, hp_l58, hp_l59, hp_l60, hp_l61, hp_l62, hp_l63, hp_l64, hp_l65, hp_l66, hp_l67, hp_l68, hp_l69, hp_l70, hp_l71, hp_l72, hp_l73, hp_l74, hp_l75, hp_l76, hp_l77, hp_l78, hp_l79, hp_l80, hp_l81, hp_l82, hp_l83, hp_l84, hp_l85, hp_l86, hp_l87, hp_l88, hp_l89, hp_l90, hp_l91, hp_l92, hp_l93, hp_l94, hp_l95, hp_l96, hp_l97, hp_l98, hp_l99, hp_l100, hp_l101, hp_l102, hp_l103, hp_l104, hp_l105, hp_l106, hp_l107, hp_l108, hp_l109, hp_l110, hp_l111, hp_l112, hp_l113, hp_l114, hp_l115, hp_l116, hp_l117, hp_l118, hp_l119, hp_l120, hp_l121, hp_l122, hp_l123, hp_l124, hp_l125, hp_l126, hp_l127, hp_l141, hp_l142, hp_l150, hp_l151, hp_l152, hp_l153, hp_l251, hp_l255, hp_l256, hp_l300, hp_l432, hp_l864, hp_l1000, hp_l1600, hp_l1700, hp_l2304, hp_l2916, hp_l3000, hp_l9999, hp_l10000, nI_add, pk_mul, nI_clamp, hl_lt, hl_le, hl_eq, hl_nIb, hl_nsub, hp_eqm, hp_meq, hp_ltm, hp_mlt, hp_lem, hp_mle, hp_addm, hp_meqm, hp_mlem, hp_withinE, hp_within0, if_pos, if_neg, Option.bind_some, hp_let, Sum.elim_inl, Sum.elim_inr, hp_s01, hp_s11, hp_s2, true_and, and_true, if_true, if_false, not_true_eq_false, not_false_eq_true, reduceCtorEq] <;> omega)
    unfold f_M_qTest_L110
    rw [if_pos h5, e74, if_neg n1, hd, Option.bind_some]
  · intro τ C h5 H hw
    have e74 : τ.1 64 74 = nI 0 := H.2.1.1
    unfold f_M_qTest_L110
    rw [if_pos h5, e74, if_pos (by decide)]
theorem hm_push (Q : hm_q C W o bs τ) (hW : W.length < 1699) {c : Int32} (hc : c = nI v) : ∃ τ', (if hl_b (τ.1 64 74) 1700 then hl_let (hl_si (hl_si τ 111 (τ.1 64 74).toNatClampNeg c) 64 74 (((hl_si τ 111 (τ.1 64 74).toNatClampNeg c).1 64 74) + 1)) (fun σ16 => some ((1 : Int32), σ16)) else none) = some (1, τ') ∧ hp_fr (fun q f => hm_QF q f ∨ q = 111) τ τ' ∧ hm_q C (v :: W) o bs τ' := by
  have e4 : τ.1 64 74 = nI W.length := Q.2.1.1
  have hb : hl_b (nI W.length) 1700 := (hl_nIb (by omega)).mpr (by omega)
  subst hc
  have e7 : (hl_si τ 111 W.length (nI v)).1 64 74 = nI W.length := by rw [hp_sn (by omega)]; exact e4
  rw [e4, if_pos hb, hp_let, nI_clamp (by omega), e7, nI_1]
  exact ⟨_, rfl, (hp_fr.rf.si (.inr rfl)).si (.inl (.inr ⟨rfl, .inr rfl⟩)), Q.push⟩
end TSTAGE
