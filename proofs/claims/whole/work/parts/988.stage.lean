/-! questions: the stages of the model's sum, what follows told by results -/
def hm_P2 (x13 : hl_M) : Option hl_M :=
  if (x13.1 64 5) = 0 then
  (f_M_qWordOf 0 4 x13).bind fun x14 =>
  if x14.1 = ((-1)) then
  f_M_qPartTold_j209 x14.1 x14.2 else
  (f_M_qAsksWord x14.1 x14.2).bind fun x18 =>
  f_M_qPartTold_j209 x14.1 x18 else
  some x13
def hm_G3 (x28 : hl_M) : Option (Int32 × hl_M) :=
  (f_M_qBracket x28).bind fun x29 =>
  if x29 = 21 then
  f_M_qGoesOn_j326 x28 else
  (f_M_qBracket x28).bind fun x32 =>
  if x32 = 22 then
  f_M_qGoesOn_j326 x28 else
  (f_M_qBracket x28).bind fun x33 =>
  if x33 = ((-1)) then
  some ((0, x28)) else
  if (x28.1 64 5) = 0 then
  some ((0, f_M_fail 1 (x28.1 64 2) x28)) else
  some ((0, x28))
def hm_G2 (x8 : hl_M) : Option (Int32 × hl_M) :=
  (f_M_takesSign 42 x8).bind fun x9 =>
  if x9.1 = 0 then
  (f_M_takesSign 47 x9.2).bind fun x17 =>
  if x17.1 = 0 then
  (f_M_takesSign 43 x17.2).bind fun x18 =>
  if x18.1 = 0 then
  (f_M_takesSign 45 x18.2).bind fun x28 =>
  if x28.1 = 0 then
  hm_G3 x28.2 else
  f_M_qGoesOn_j225 x28.2 else
  f_M_qGoesOn_j225 x18.2 else
  f_M_qGoesOn_j140 x17.2 else
  f_M_qGoesOn_j140 x9.2
def hm_A (v1 : Int32) (k : Nat) (x2 : Int32 × hl_M) : Option hl_M := if x2.1 = 0 then hl_lp (f_M_qSums_L15 v1) k (0, x2.2) else hl_lp (f_M_qSums_L15 v1) k (1, x2.2)
def hm_sG (v1 : Int32) (k m : Nat) (τ : hl_M) : Option hl_M := ((hl_lp f_M_qGoesOn_L0 m τ).bind hm_G2).bind (hm_A v1 k)
def hm_A1 (v1 : Int32) (k : Nat) (x1 : hl_M) : Option hl_M := if x1.1 64 5 = 0 then hm_sG v1 k hl_big x1 else hl_lp (f_M_qSums_L15 v1) k (0, x1)
def hm_sP (v1 : Int32) (k m : Nat) (τ : hl_M) : Option hl_M := ((hl_lp f_M_qPartTold_L2 m (1, τ)).bind hm_P2).bind (hm_A1 v1 k)
def hm_RP (n : Nat) (v1 : Int32) (s : Nat) (τ r : hl_M) : Prop := ∀ k m, 2 * (n - s) + 4 ≤ k → 2 * (n - s) + 4 ≤ m → hm_sP v1 k m τ = some r
def hm_RG (n : Nat) (v1 : Int32) (s : Nat) (τ r : hl_M) : Prop := ∀ k m, 2 * (n - s) + 4 ≤ k → 2 * (n - s) + 4 ≤ m → hm_sG v1 k m τ = some r
def hm_RE (n : Nat) (v1 : Int32) (s w : Nat) (τ r : hl_M) : Prop := ∀ (F : hl_M → Option hl_M) k m j, 2 * (n - s) + 4 ≤ k → 2 * (n - s) + 4 ≤ m → w + 1 ≤ j → (∀ x, x.1 64 5 = 0 → F x = hm_sG v1 k m x) → (hl_lp f_M_qEndsPart_L0 j τ).bind F = some r
section STAGE
variable {σ τ τ1 υ r : hl_M} {C W pd : List Nat} {v o bs k m w x br n s s1 j : Nat} {v1 : Int32}
theorem hl_lp_b {S E : Type} {b : S → Option (S ⊕ E)} {n : Nat} {s : S} : hl_lp b (n + 1) s = (b s).bind (fun o => match o with | .inl s' => hl_lp b n s' | .inr x => some x) := rfl
theorem hm_L15e : hl_lp (f_M_qSums_L15 v1) (k + 1) (0, τ) = some τ := by
  apply hl_lp_e
  unfold f_M_qSums_L15
  dsimp only
  rw [if_pos rfl]
theorem hm_L15s (h : τ.1 64 5 = 0) : hl_lp (f_M_qSums_L15 v1) (k + 1) (1, τ) = hm_sP v1 k hl_big τ := by
  rw [hl_lp_b]
  unfold f_M_qSums_L15 hm_sP
  dsimp only
  rw [if_neg (show ¬ (1 : Int32) = 0 by decide), if_pos h, Option.bind_assoc]
  show (f_M_qPartTold τ).bind _ = (f_M_qPartTold τ).bind _
  congr 1
  funext x1
  unfold hm_A1
  by_cases e : x1.1 64 5 = 0
  · rw [if_pos e, if_pos e, Option.bind_assoc]
    show (f_M_qGoesOn x1).bind _ = (f_M_qGoesOn x1).bind _
    congr 1
    funext x2
    unfold hm_A
    by_cases e2 : x2.1 = 0
    · rw [if_pos e2, if_pos e2]; rfl
    · rw [if_neg e2, if_neg e2]; rfl
  · rw [if_neg e, if_neg e]
    rfl
theorem hm_sPbad (h : ¬ τ.1 64 5 = 0) : hm_sP v1 (k + 1) (m + 1) τ = some τ := by
  have e : f_M_qPartTold_L2 (1, τ) = some (.inr τ) := by
    unfold f_M_qPartTold_L2
    dsimp only
    rw [if_neg (show ¬ (1 : Int32) = 0 by decide), if_neg h]
  unfold hm_sP hm_P2 hm_A1
  rw [hl_lp_e e, Option.bind_some, if_neg h, Option.bind_some, if_neg h, hm_L15e]
theorem hm_RP.bad (h : ¬ τ.1 64 5 = 0) : hm_RP n v1 s τ τ := by
  intro k m hk hm
  obtain ⟨k, rfl⟩ : ∃ g, k = g + 1 := ⟨k - 1, by omega⟩
  obtain ⟨m, rfl⟩ : ∃ g, m = g + 1 := ⟨m - 1, by omega⟩
  exact hm_sPbad h
theorem hm_RP.norm (h : τ.1 64 5 = 0) (h1 : τ1.1 64 5 = 0) (hl : f_M_look τ = f_M_look τ1) (H : hm_RP n v1 s τ1 r) : hm_RP n v1 s τ r := by
  intro k m hk hm
  have e : f_M_qPartTold_L2 (1, τ) = f_M_qPartTold_L2 (1, τ1) := by
    unfold f_M_qPartTold_L2
    dsimp only
    rw [if_pos h, if_pos h1, hl, if_neg (show ¬ (1 : Int32) = 0 by decide), if_neg (show ¬ (1 : Int32) = 0 by decide)]
  rw [← H k m hk hm]
  obtain ⟨m, rfl⟩ : ∃ g, m = g + 1 := ⟨m - 1, by omega⟩
  unfold hm_sP
  rw [hl_lp_b, hl_lp_b, e]
theorem hm_RG.norm (h : τ.1 64 5 = 0) (h1 : τ1.1 64 5 = 0) (hl : f_M_look τ = f_M_look τ1) (H : hm_RG n v1 s τ1 r) : hm_RG n v1 s τ r := by
  intro k m hk hm
  have e : f_M_qGoesOn_L0 τ = f_M_qGoesOn_L0 τ1 := by
    unfold f_M_qGoesOn_L0
    rw [if_pos h, if_pos h1, hl]
  rw [← H k m hk hm]
  obtain ⟨m, rfl⟩ : ∃ g, m = g + 1 := ⟨m - 1, by omega⟩
  unfold hm_sG
  rw [hl_lp_b, hl_lp_b, e]
theorem hm_RP.step (h : f_M_qPartTold_L2 (1, τ) = some (.inl (1, τ1))) (hs : s < s1) (hn : s1 ≤ n) (H : hm_RP n v1 s1 τ1 r) : hm_RP n v1 s τ r := by
  intro k m hk hm
  obtain ⟨m, rfl⟩ : ∃ g, m = g + 1 := ⟨m - 1, by omega⟩
  rw [← H k m (by omega) (by omega)]
  unfold hm_sP
  rw [hl_lp_s h]
theorem hm_RP.stepBad (h : f_M_qPartTold_L2 (1, τ) = some (.inl (1, τ1))) (h1 : ¬ τ1.1 64 5 = 0) : hm_RP n v1 s τ τ1 := by
  intro k m hk hm
  obtain ⟨m, rfl⟩ : ∃ g, m = g + 1 := ⟨m - 1, by omega⟩
  obtain ⟨m, rfl⟩ : ∃ g, m = g + 1 := ⟨m - 1, by omega⟩
  obtain ⟨k, rfl⟩ : ∃ g, k = g + 1 := ⟨k - 1, by omega⟩
  have := hm_sPbad (k := k) (m := m) (v1 := v1) h1
  rw [← this]
  unfold hm_sP
  rw [hl_lp_s h]
theorem hm_sP2 (h : f_M_qPartTold_L2 (1, τ) = some (.inl (0, τ))) : hm_sP v1 k (m + 2) τ = (hm_P2 τ).bind (hm_A1 v1 k) := by
  have e : f_M_qPartTold_L2 (0, τ) = some (.inr τ) := by
    unfold f_M_qPartTold_L2
    dsimp only
    rw [if_pos rfl]
  unfold hm_sP
  rw [hl_lp_s h, hl_lp_e e, Option.bind_some]
theorem hm_RP.code (h : f_M_qPartTold_L2 (1, τ) = some (.inl (0, τ))) (h2 : hm_P2 τ = hl_lp f_M_qEndsPart_L0 hl_big τ1) (hs : s < s1) (hn : s1 ≤ n) (hn2 : n ≤ 1600) (hw : w < 9999) (H : hm_RE n v1 s1 w τ1 r) : hm_RP n v1 s τ r := by
  intro k m hk hm
  obtain ⟨m, rfl⟩ : ∃ g, m = g + 2 := ⟨m - 2, by omega⟩
  rw [hm_sP2 h, h2]
  exact H (hm_A1 v1 k) k hl_big hl_big (by omega) (by unfold hl_big; omega) (by unfold hl_big; omega) (fun x hx => by unfold hm_A1; rw [if_pos hx])
theorem hm_RP.codeBad (h : f_M_qPartTold_L2 (1, τ) = some (.inl (0, τ))) (h2 : hm_P2 τ = some τ1) (h1 : ¬ τ1.1 64 5 = 0) : hm_RP n v1 s τ τ1 := by
  intro k m hk hm
  obtain ⟨m, rfl⟩ : ∃ g, m = g + 2 := ⟨m - 2, by omega⟩
  obtain ⟨k, rfl⟩ : ∃ g, k = g + 1 := ⟨k - 1, by omega⟩
  rw [hm_sP2 h, h2, Option.bind_some]
  unfold hm_A1
  rw [if_neg h1, hm_L15e]
/-- what waits for a part is told -/
theorem hm_RE.pop (H : hm_q C (x :: W) (o + 1) bs τ) (hb : bs ≤ W.length) (hx : 60 ≤ x) (hx2 : x < 1000) (h5 : τ.1 64 5 = 0) (hC : C.length < 1700) (hW : W.length < 1700) (ho : o < 10) : ∃ τ1, hp_fr (fun q f => hm_QF q f ∨ (q = 64 ∧ f = 75)) τ τ1 ∧ hm_q (C ++ [x]) W o bs τ1 ∧ ∀ n v1 s r, hm_RE n v1 s W.length τ1 r → hm_RE n v1 s (W.length + 1) τ r := by
  have e75 : τ.1 64 75 - 1 = nI o := by rw [H.2.2.1]; exact hl_nsub (a := o + 1) (b := 1) (by omega)
  obtain ⟨τ1, r1, r2, r3⟩ := hm_drop (H.op o) hC hW
  obtain ⟨g1, g2, g3, g4⟩ := H.pop
  have n1 : ¬ nI (W.length + 1) ≤ nI bs := by first | omega | (simp (disch := first | assumption | omega) only [↓hp_neg1, hp_l0, hp_l1, hp_l2, hp_l3, hp_l4, hp_l5, hp_l6, hp_l7, hp_l8, hp_l9, hp_l10, hp_l11, hp_l12, hp_l13, hp_l14, hp_l15, hp_l16, hp_l17, hp_l18, hp_l19, hp_l20, hp_l21, hp_l22, hp_l23, hp_l24, hp_l25, hp_l26, hp_l27, hp_l28, hp_l29, hp_l30, hp_l31, hp_l32, hp_l33, hp_l34, hp_l35, hp_l36, hp_l37, hp_l38, hp_l39, hp_l40, hp_l41, hp_l42, hp_l43, hp_l44, hp_l45, hp_l46, hp_l47, hp_l48, hp_l49, hp_l50, hp_l51, hp_l52, hp_l53, hp_l54, hp_l55, hp_l56, hp_l57, hp_l58, hp_l59, hp_l60, hp_l61, hp_l62, hp_l63, hp_l64, hp_l65, hp_l66, hp_l67, hp_l68, hp_l69, hp_l70, hp_l71, hp_l72, hp_l73, hp_l74, hp_l75, hp_l76, hp_l77, hp_l78, hp_l79, hp_l80, hp_l81, hp_l82, hp_l83, hp_l84, hp_l85, hp_l86, hp_l87, hp_l88, hp_l89, hp_l90, hp_l91, hp_l92, hp_l93, hp_l94, hp_l95, hp_l96, hp_l97, hp_l98, hp_l99, hp_l100, hp_l101, hp_l102, hp_l103, hp_l104, hp_l105, hp_l106, hp_l107, hp_l108, hp_l109, hp_l110, hp_l111, hp_l112, hp_l113, hp_l114, hp_l115, hp_l116, hp_l117, hp_l118, hp_l119, hp_l120, hp_l121, hp_l122, hp_l123, hp_l124, hp_l125, hp_l126, hp_l127, hp_l141, hp_l142, hp_l150, hp_l151, hp_l152, hp_l153, hp_l251, hp_l255, hp_l256, hp_l300, hp_l432, hp_l864, hp_l1000, hp_l1600, hp_l1700, hp_l2304, hp_l2916, hp_l3000, hp_l9999, hp_l10000, nI_add, pk_mul, nI_clamp, hl_lt, hl_le, hl_eq, hl_nIb, hl_nsub, hp_eqm, hp_meq, hp_ltm, hp_mlt, hp_lem, hp_mle, hp_addm, hp_meqm, hp_mlem, hp_withinE, hp_within0, if_pos, if_neg, Option.bind_some, hp_let, Sum.elim_inl, Sum.elim_inr, hp_s01, hp_s11, hp_s2, true_and, and_true, if_true, if_false, not_true_eq_false, not_false_eq_true, reduceCtorEq] <;> omega)
  have n2 : ¬ nI x < 60 := by
    have : nI x < (60 : Int32) ↔ x < 60 := hl_lt (b := 60) (by omega) (by omega)
    exact fun z => by have := this.mp z; omega
  have hbb : hl_b (nI W.length) 1700 := (hl_nIb (by omega)).mpr hW
  have st : f_M_qEndsPart_L0 τ = some (.inl τ1) := by
    unfold f_M_qEndsPart_L0
    rw [if_pos h5, g3, g4, H.2.2.2, if_neg n1, if_pos hbb, nI_clamp (by omega), g2, if_neg n2, e75, r1, Option.bind_some]
  refine ⟨τ1, (hp_fr.rf.si (.inr ⟨rfl, rfl⟩)).tr (r2.mono (fun q f h => .inl h)), r3, fun n v1 s r HE => ?_⟩
  intro F k m j hk hm hj hF
  obtain ⟨j, rfl⟩ : ∃ g, j = g + 1 := ⟨j - 1, by omega⟩
  rw [hl_lp_s st]
  exact HE F k m j hk hm (by omega) hF
theorem hm_RE.done (H : hm_q C W o bs τ) (hb : W.length = bs ∨ ∃ x W', W = x :: W' ∧ x < 60) (hbW : bs ≤ W.length) (h5 : τ.1 64 5 = 0) (hW : W.length < 1700) (HG : hm_RG n v1 s τ r) : hm_RE n v1 s w τ r := by
  intro F k m j hk hm hj hF
  obtain ⟨j, rfl⟩ : ∃ g, j = g + 1 := ⟨j - 1, by omega⟩
  have st : f_M_qEndsPart_L0 τ = some (.inr τ) := by
    unfold f_M_qEndsPart_L0
    rw [if_pos h5, H.2.1.1, H.2.2.2]
    by_cases e : W.length = bs
    · rw [if_pos (by rw [e]; exact nI_le (Nat.le_refl _) (by omega))]
    · rcases hb with h | ⟨x, W', rfl, hx⟩
      · exact absurd h e
      · rw [List.length_cons] at e hW hbW
        obtain ⟨g1, g2, g3, g4⟩ := H.pop
        have n1 : ¬ nI (W'.length + 1) ≤ nI bs := by first | omega | (simp (disch := first | assumption | omega) only [↓hp_neg1, hp_l0, hp_l1, hp_l2, hp_l3, hp_l4, hp_l5, hp_l6, hp_l7, hp_l8, hp_l9, hp_l10, hp_l11, hp_l12, hp_l13, hp_l14, hp_l15, hp_l16, hp_l17, hp_l18, hp_l19, hp_l20, hp_l21, hp_l22, hp_l23, hp_l24, hp_l25, hp_l26, hp_l27, hp_l28, hp_l29, hp_l30, hp_l31, hp_l32, hp_l33, hp_l34, hp_l35, hp_l36, hp_l37, hp_l38, hp_l39, hp_l40, hp_l41, hp_l42, hp_l43, hp_l44, hp_l45, hp_l46, hp_l47, hp_l48, hp_l49, hp_l50, hp_l51, hp_l52, hp_l53, hp_l54, hp_l55, hp_l56, hp_l57, hp_l58, hp_l59, hp_l60, hp_l61, hp_l62, hp_l63, hp_l64, hp_l65, hp_l66, hp_l67, hp_l68, hp_l69, hp_l70, hp_l71, hp_l72, hp_l73, hp_l74, hp_l75, hp_l76, hp_l77, hp_l78, hp_l79, hp_l80, hp_l81, hp_l82, hp_l83, hp_l84, hp_l85, hp_l86, hp_l87, hp_l88, hp_l89, hp_l90, hp_l91, hp_l92, hp_l93, hp_l94, hp_l95, hp_l96, hp_l97, hp_l98, hp_l99, hp_l100, hp_l101, hp_l102, hp_l103, hp_l104, hp_l105, hp_l106, hp_l107, hp_l108, hp_l109, hp_l110, hp_l111, hp_l112, hp_l113, hp_l114, hp_l115, hp_l116, hp_l117, hp_l118, hp_l119, hp_l120, hp_l121, hp_l122, hp_l123, hp_l124, hp_l125, hp_l126, hp_l127, hp_l141, hp_l142, hp_l150, hp_l151, hp_l152, hp_l153, hp_l251, hp_l255, hp_l256, hp_l300, hp_l432, hp_l864, hp_l1000, hp_l1600, hp_l1700, hp_l2304, hp_l2916, hp_l3000, hp_l9999, hp_l10000, nI_add, pk_mul, nI_clamp, hl_lt, hl_le, hl_eq, hl_nIb, hl_nsub, hp_eqm, hp_meq, hp_ltm, hp_mlt, hp_lem, hp_mle, hp_addm, hp_meqm, hp_mlem, hp_withinE, hp_within0, if_pos, if_neg, Option.bind_some, hp_let, Sum.elim_inl, Sum.elim_inr, hp_s01, hp_s11, hp_s2, true_and, and_true, if_true, if_false, not_true_eq_false, not_false_eq_true, reduceCtorEq] <;> omega)
        have hbb : hl_b (nI W'.length) 1700 := (hl_nIb (by omega)).mpr (by omega)
        have n2 : nI x < 60 := (hl_lt (a := x) (b := 60) (by omega) (by omega)).mpr hx
        rw [List.length_cons, ← g4, g3, g4, if_neg n1, if_pos hbb, nI_clamp (by omega), g2, if_pos n2]
  rw [hl_lp_e st, Option.bind_some, hF τ h5]
  exact HG k m hk hm
theorem hm_RG.next (h : f_M_qGoesOn_L0 τ = some (.inr τ)) (h2 : hm_G2 τ = some (1, τ1)) (h5 : τ1.1 64 5 = 0) (hs : s < s1) (hn : s1 ≤ n) (hn2 : n ≤ 1600) (H : hm_RP n v1 s1 τ1 r) : hm_RG n v1 s τ r := by
  intro k m hk hm
  obtain ⟨m, rfl⟩ : ∃ g, m = g + 1 := ⟨m - 1, by omega⟩
  obtain ⟨k, rfl⟩ : ∃ g, k = g + 1 := ⟨k - 1, by omega⟩
  unfold hm_sG
  rw [hl_lp_e h, Option.bind_some, h2, Option.bind_some]
  unfold hm_A
  dsimp only
  rw [if_neg (show ¬ (1 : Int32) = 0 by decide), hm_L15s h5]
  exact H k hl_big (by omega) (by unfold hl_big; omega)
theorem hm_RG.stop (h : f_M_qGoesOn_L0 τ = some (.inr τ)) (h2 : hm_G2 τ = some (0, τ1)) : hm_RG n v1 s τ τ1 := by
  intro k m hk hm
  obtain ⟨m, rfl⟩ : ∃ g, m = g + 1 := ⟨m - 1, by omega⟩
  obtain ⟨k, rfl⟩ : ∃ g, k = g + 1 := ⟨k - 1, by omega⟩
  unfold hm_sG
  rw [hl_lp_e h, Option.bind_some, h2, Option.bind_some]
  unfold hm_A
  dsimp only
  rw [if_pos rfl, hm_L15e]
theorem hm_RG.close (h : f_M_qGoesOn_L0 τ = (f_M_qEndsPart τ1).bind fun x4 => some (.inl x4)) (hs : s < s1) (hn : s1 ≤ n) (hn2 : n ≤ 1600) (hw : w < 9999) (H : hm_RE n v1 s1 w τ1 r) : hm_RG n v1 s τ r := by
  intro k m hk hm
  obtain ⟨m, rfl⟩ : ∃ g, m = g + 1 := ⟨m - 1, by omega⟩
  have := H (hm_sG v1 k m) k m hl_big (by omega) (by omega) (by unfold hl_big; omega) (fun x hx => rfl)
  rw [← this]
  unfold hm_sG
  rw [hl_lp_b, h]
  unfold f_M_qEndsPart
  simp only [Option.bind_assoc, Option.bind_some]
end STAGE
