/-! the ground G, persons as they are now P. G 0: wide, high, how many persons, words, hymns; G 1 c: a wall; G 2 p: the told cell; G 3 h, G 4 h: word and beat; G 5 p, G 6 w: letters of a name; G (10+p), G (20+w): the letters; G (30+w) c: a word's lamp. P 0 p: lamp; P 1 p: how many steps; P (2+p) k: step k -/
abbrev hp_G : Type := Nat → Nat → Nat
def hp_C (G : hp_G) : Nat := G 0 0 * G 0 1
def hp_wg (G : hp_G) : Prop :=
  ((G 0 0 = 0 ∧ G 0 1 = 0 ∧ G 0 2 = 0 ∧ G 0 3 = 0 ∧ G 0 4 = 0) ∨ (3 ≤ G 0 0 ∧ G 0 0 ≤ 9 ∧ 3 ≤ G 0 1 ∧ G 0 1 ≤ 6)) ∧
  (G 0 2 ≤ 10 ∧ G 0 3 ≤ 8 ∧ G 0 4 ≤ 10) ∧
  (∀ c, G 1 c ≤ 1 ∧ (hp_C G ≤ c → G 1 c = 0)) ∧
  (∀ p, p < G 0 2 → G 2 p < hp_C G ∧ G 1 (G 2 p) = 0) ∧
  (∀ h, h < G 0 4 → G 3 h < G 0 3 ∧ G 4 h < 100) ∧
  (∀ p, p < G 0 2 → 1 ≤ G 5 p ∧ G 5 p ≤ 6 ∧ ∀ k, k < G 5 p → 1 ≤ G (10 + p) k ∧ G (10 + p) k ≤ 26) ∧
  (∀ w, w < G 0 3 → 1 ≤ G 6 w ∧ G 6 w ≤ 6 ∧ ∀ k, k < G 6 w → 1 ≤ G (20 + w) k ∧ G (20 + w) k ≤ 26) ∧
  (∀ w, w < G 0 3 → (∀ c, G (30 + w) c ≤ 2 ∧ (hp_C G ≤ c → G (30 + w) c = 0)) ∧ 1 ≤ fb_ct (fun c => decide (0 < G (30 + w) c)) 54 ∧ fb_ct (fun c => decide (0 < G (30 + w) c)) 54 ≤ 8)
def hp_wp (G P : hp_G) : Prop := ∀ p, p < G 0 2 → P 0 p ≤ 2 ∧ 1 ≤ P 1 p ∧ P 1 p ≤ 12 ∧ ∀ k, k < P 1 p → P (2 + p) k ≤ 4
theorem hp_wg.C {G : hp_G} (h : hp_wg G) : hp_C G ≤ 54 := by
  unfold hp_C
  rcases h.1 with ⟨a, b, _⟩ | ⟨_, a, _, b⟩
  · rw [a]; omega
  · calc G 0 0 * G 0 1 ≤ 9 * 6 := Nat.mul_le_mul a b
      _ = 54 := rfl
theorem hp_wg.np {G : hp_G} (h : hp_wg G) : G 0 2 ≤ 10 := h.2.1.1
theorem hp_wg.nw {G : hp_G} (h : hp_wg G) : G 0 3 ≤ 8 := h.2.1.2.1
theorem hp_wg.nh {G : hp_G} (h : hp_wg G) : G 0 4 ≤ 10 := h.2.1.2.2
theorem hp_wg.W {G : hp_G} (h : hp_wg G) : G 0 0 ≤ 9 := by rcases h.1 with ⟨a, _⟩ | ⟨_, a, _⟩ <;> omega
theorem hp_wg.H {G : hp_G} (h : hp_wg G) : G 0 1 ≤ 6 := by rcases h.1 with ⟨_, a, _⟩ | ⟨_, _, _, a⟩ <;> omega
theorem hp_wg.W0 {G : hp_G} (h : hp_wg G) {c : Nat} (hc : c < hp_C G) : 3 ≤ G 0 0 ∧ 3 ≤ G 0 1 := by
  rcases h.1 with ⟨a, _⟩ | ⟨a, _, b, _⟩
  · unfold hp_C at hc
    rw [a] at hc
    omega
  · exact ⟨a, b⟩
theorem hp_wg.wall {G : hp_G} (h : hp_wg G) (c : Nat) : G 1 c ≤ 1 := (h.2.2.1 c).1
theorem hp_wg.told {G : hp_G} (h : hp_wg G) {p : Nat} (hp : p < G 0 2) : G 2 p < hp_C G := (h.2.2.2.1 p hp).1
theorem hp_wg.toldO {G : hp_G} (h : hp_wg G) {p : Nat} (hp : p < G 0 2) : G 1 (G 2 p) = 0 := (h.2.2.2.1 p hp).2
/-- the cell behind a step -/
def hp_to (G : hp_G) (c s : Nat) : Nat :=
  if s = 0 then (if G 0 0 ≤ c then c - G 0 0 else c)
  else if s = 1 then (if c % G 0 0 + 1 < G 0 0 then c + 1 else c)
  else if s = 2 then (if c + G 0 0 < hp_C G then c + G 0 0 else c)
  else if s = 3 then (if 0 < c % G 0 0 then c - 1 else c)
  else c
def hp_nx (G : hp_G) (c s : Nat) : Nat := if G 1 (hp_to G c s) = 0 then hp_to G c s else c
theorem hp_to_lt {G : hp_G} {c s : Nat} (hc : c < hp_C G) : hp_to G c s < hp_C G := by
  unfold hp_to
  have hx : c % G 0 0 + 1 < G 0 0 → c + 1 < hp_C G := by
    intro h
    unfold hp_C at hc ⊢
    have e := Nat.div_add_mod c (G 0 0)
    have hq : c / G 0 0 < G 0 1 := Nat.div_lt_of_lt_mul hc
    have h2 : G 0 0 * (c / G 0 0 + 1) ≤ G 0 0 * G 0 1 := Nat.mul_le_mul_left _ hq
    rw [Nat.mul_add, Nat.mul_one] at h2
    omega
  split
  · split <;> omega
  · split
    · split
      · rename_i h; exact hx h
      · exact hc
    · split
      · split <;> omega
      · split
        · split <;> omega
        · exact hc
theorem hp_nx_lt {G : hp_G} {c s : Nat} (hc : c < hp_C G) : hp_nx G c s < hp_C G := by
  unfold hp_nx
  split
  · exact hp_to_lt hc
  · exact hc
theorem hp_nx_open {G : hp_G} {c s : Nat} (hc : G 1 c = 0) : G 1 (hp_nx G c s) = 0 := by
  unfold hp_nx
  split
  · assumption
  · exact hc
/-- where a person is in a beat -/
def hp_wh (G P : hp_G) (p : Nat) : Nat → Nat
  | 0 => G 2 p
  | b + 1 => hp_nx G (hp_wh G P p b) (P (2 + p) (b % P 1 p))
theorem hp_wh_lt {G P : hp_G} (hG : hp_wg G) {p : Nat} (hp : p < G 0 2) : ∀ b, hp_wh G P p b < hp_C G
  | 0 => hG.told hp
  | b + 1 => hp_nx_lt (hp_wh_lt hG hp b)
theorem hp_wh_open {G P : hp_G} (hG : hp_wg G) {p : Nat} (hp : p < G 0 2) : ∀ b, G 1 (hp_wh G P p b) = 0
  | 0 => hG.toldO hp
  | b + 1 => hp_nx_open (hp_wh_open hG hp b)
/-! the class' memory: ground at o (4, or 14 the draft) -/
def hx_g (o : Nat) (G : hp_G) (σ : hl_M) : Prop :=
  (σ.1 o 0 = nI (G 0 0) ∧ σ.1 o 1 = nI (G 0 1) ∧ σ.1 o 3 = nI (G 0 2) ∧ σ.1 o 8 = nI (G 0 3) ∧ σ.1 o 12 = nI (G 0 4)) ∧
  hp_bs (σ.2 o 2) (fun c => decide (G 1 c = 1)) ∧
  (∀ p, p < G 0 2 → σ.1 (o + 1) p = nI (hp_nw (G (10 + p)) (G 5 p)) ∧ σ.1 (o + 2) p = nI (G 2 p)) ∧
  (∀ w, w < G 0 3 → σ.1 (o + 5) w = nI (hp_nw (G (20 + w)) (G 6 w)) ∧ hp_bs (σ.2 (o + 6) w) (fun c => decide (G (30 + w) c = 1)) ∧ hp_bs (σ.2 (o + 7) w) (fun c => decide (G (30 + w) c = 2))) ∧
  (∀ h, h < G 0 4 → σ.1 (o + 8) h = nI (G 3 h) ∧ σ.1 (o + 9) h = nI (G 4 h))
def hx_p (o : Nat) (G P : hp_G) (σ : hl_M) : Prop := ∀ p, p < G 0 2 → σ.1 (o + 3) p = nI (P 0 p) ∧ σ.2 (o + 4) p = lN (hp_pw (P 1 p) (P (2 + p)) (P 1 p))
def hx_w (G P : hp_G) (σ : hl_M) : Prop := ∀ p, p < G 0 2 → ∀ b, b < 100 → σ.1 (27 + p) b = nI (hp_wh G P p b)
def hx (G P : hp_G) (σ : hl_M) : Prop := hp_wg G ∧ hp_wp G P ∧ hx_g 4 G σ ∧ hx_p 4 G P σ ∧ hx_w G P σ
def hx0 (G P : hp_G) (σ : hl_M) : Prop := hp_wg G ∧ hp_wp G P ∧ hx_g 4 G σ ∧ hx_p 4 G P σ
section HX
variable {G P : hp_G} {σ : hl_M} {p w c b s h : Nat}
theorem hx.z (H : hx G P σ) : hx0 G P σ := ⟨H.1, H.2.1, H.2.2.1, H.2.2.2.1⟩
theorem hx0.wg (H : hx0 G P σ) : hp_wg G := H.1
theorem hx0.wp (H : hx0 G P σ) : hp_wp G P := H.2.1
theorem hx0.W (H : hx0 G P σ) : σ.1 4 0 = nI (G 0 0) := H.2.2.1.1.1
theorem hx0.H (H : hx0 G P σ) : σ.1 4 1 = nI (G 0 1) := H.2.2.1.1.2.1
theorem hx0.np (H : hx0 G P σ) : σ.1 4 3 = nI (G 0 2) := H.2.2.1.1.2.2.1
theorem hx0.walls (H : hx0 G P σ) : hp_bs (σ.2 4 2) (fun c => decide (G 1 c = 1)) := H.2.2.1.2.1
theorem hx0.told (H : hx0 G P σ) (hp : p < G 0 2) : σ.1 6 p = nI (G 2 p) := (H.2.2.1.2.2.1 p hp).2
theorem hx0.steps (H : hx0 G P σ) (hp : p < G 0 2) : σ.2 8 p = lN (hp_pw (P 1 p) (P (2 + p)) (P 1 p)) := (H.2.2.2 p hp).2
theorem hx.wg (H : hx G P σ) : hp_wg G := H.1
theorem hx.wp (H : hx G P σ) : hp_wp G P := H.2.1
theorem hx.W (H : hx G P σ) : σ.1 4 0 = nI (G 0 0) := H.2.2.1.1.1
theorem hx.H (H : hx G P σ) : σ.1 4 1 = nI (G 0 1) := H.2.2.1.1.2.1
theorem hx.np (H : hx G P σ) : σ.1 4 3 = nI (G 0 2) := H.2.2.1.1.2.2.1
theorem hx.nw (H : hx G P σ) : σ.1 4 8 = nI (G 0 3) := H.2.2.1.1.2.2.2.1
theorem hx.nh (H : hx G P σ) : σ.1 4 12 = nI (G 0 4) := H.2.2.1.1.2.2.2.2
theorem hx.walls (H : hx G P σ) : hp_bs (σ.2 4 2) (fun c => decide (G 1 c = 1)) := H.2.2.1.2.1
theorem hx.pname (H : hx G P σ) (hp : p < G 0 2) : σ.1 5 p = nI (hp_nw (G (10 + p)) (G 5 p)) := (H.2.2.1.2.2.1 p hp).1
theorem hx.told (H : hx G P σ) (hp : p < G 0 2) : σ.1 6 p = nI (G 2 p) := (H.2.2.1.2.2.1 p hp).2
theorem hx.lamp (H : hx G P σ) (hp : p < G 0 2) : σ.1 7 p = nI (P 0 p) := (H.2.2.2.1 p hp).1
theorem hx.steps (H : hx G P σ) (hp : p < G 0 2) : σ.2 8 p = lN (hp_pw (P 1 p) (P (2 + p)) (P 1 p)) := (H.2.2.2.1 p hp).2
theorem hx.wname (H : hx G P σ) (hw : w < G 0 3) : σ.1 9 w = nI (hp_nw (G (20 + w)) (G 6 w)) := (H.2.2.1.2.2.2.1 w hw).1
theorem hx.one (H : hx G P σ) (hw : w < G 0 3) : hp_bs (σ.2 10 w) (fun c => decide (G (30 + w) c = 1)) := (H.2.2.1.2.2.2.1 w hw).2.1
theorem hx.two (H : hx G P σ) (hw : w < G 0 3) : hp_bs (σ.2 11 w) (fun c => decide (G (30 + w) c = 2)) := (H.2.2.1.2.2.2.1 w hw).2.2
theorem hx.hw (H : hx G P σ) (hh : h < G 0 4) : σ.1 12 h = nI (G 3 h) := (H.2.2.1.2.2.2.2 h hh).1
theorem hx.hb (H : hx G P σ) (hh : h < G 0 4) : σ.1 13 h = nI (G 4 h) := (H.2.2.1.2.2.2.2 h hh).2
theorem hx.wh (H : hx G P σ) (hp : p < G 0 2) (hb : b < 100) : σ.1 (27 + p) b = nI (hp_wh G P p b) := H.2.2.2.2 p hp b hb
theorem hp_sh27 (hp : p < 10) : hl_shp (27 + p) = (100, 100) := by
  have : ∀ p, p < 10 → hl_shp (27 + p) = (100, 100) := by decide
  exact this p hp
theorem hx_cell (H : hx G P σ) (hp : p < G 0 2) (hb : b < 100) : f_Wk_cellOf (nI p) (nI b) σ = some (nI (hp_wh G P p b)) := by
  have := H.wg.np
  unfold f_Wk_cellOf
  simp (disch := first | assumption | omega) only [↓hp_neg1, hp_l0, hp_l1, hp_l2, hp_l3, hp_l4, hp_l5, hp_l6, hp_l7, hp_l8, hp_l9, hp_l10, hp_l11, hp_l12, hp_l13, hp_l14, hp_l15, hp_l16, hp_l17, hp_l18, hp_l19, hp_l20, hp_l21, hp_l22, hp_l23, hp_l24, hp_l25, hp_l26, hp_l27, hp_l28, hp_l29, hp_l30, hp_l31, hp_l32, hp_l33, hp_l34, hp_l35, hp_l36, hp_l37, hp_l38, hp_l39, hp_l40, hp_l41, hp_l42, hp_l43, hp_l44, hp_l45, hp_l46, hp_l47, hp_l48, hp_l49, hp_l50, hp_l51, hp_l52, hp_l53, hp_l54, hp_l55, hp_l56, hp_l57, hp_l58, hp_l59, hp_l60, hp_l61, hp_l62, hp_l63, hp_l64, hp_l65, hp_l66, hp_l67, hp_l68, hp_l69, hp_l70, hp_l71, hp_l72, hp_l73, hp_l74, hp_l75, hp_l76, hp_l77, hp_l78, hp_l79, hp_l80, hp_l81, hp_l82, hp_l83, hp_l84, hp_l85, hp_l86, hp_l87, hp_l88, hp_l89, hp_l90, hp_l91, hp_l92, hp_l93, hp_l94, hp_l95, hp_l96, hp_l97, hp_l98, hp_l99, hp_l100, hp_l101, hp_l102, hp_l103, hp_l104, hp_l105, hp_l106, hp_l107, hp_l108, hp_l109, hp_l110, hp_l111, hp_l112, hp_l113, hp_l114, hp_l115, hp_l116, hp_l117, hp_l118, hp_l119, hp_l120, hp_l121, hp_l122, hp_l123, hp_l124, hp_l125, hp_l126, hp_l127, hp_l141, hp_l142, hp_l150, hp_l151, hp_l152, hp_l153, hp_l251, hp_l255, hp_l256, hp_l300, hp_l432, hp_l864, hp_l1000, hp_l1600, hp_l1700, hp_l2304, hp_l2916, hp_l3000, hp_l9999, hp_l10000, nI_add, pk_mul, nI_clamp, hl_lt, hl_le, hl_eq, hl_nIb, hl_nsub, hp_eqm, hp_meq, hp_ltm, hp_mlt, hp_lem, hp_mle, hp_addm, hp_meqm, hp_mlem, hp_withinE, hp_within0, if_pos, if_neg, Option.bind_some, hp_let, Sum.elim_inl, Sum.elim_inr, hp_s01, hp_s11, hp_s2, true_and, and_true, if_true, if_false, not_true_eq_false, not_false_eq_true, reduceCtorEq, H.np, hp_sh27, H.wh, Nat.reduceAdd]
theorem hx_cells0 (H : hx0 G P σ) : f_Gr_cells σ = nI (hp_C G) := by
  unfold f_Gr_cells hp_C
  rw [H.W, H.H, pk_mul]
theorem hx_cells (H : hx G P σ) : f_Gr_cells σ = nI (hp_C G) := hx_cells0 H.z 
theorem hx_open0 (H : hx0 G P σ) (hc : c < hp_C G) : f_Gr_isOpen (nI c) σ = if G 1 c = 0 then 1 else 0 := by
  have h1 := H.wg.C
  have h2 := H.walls.test (show c < 54 by omega)
  have h3 := H.wg.wall c
  unfold f_Gr_isOpen
  rw [hx_cells0 H, hp_withinT hc (by omega), if_neg (by decide)]
  by_cases e : G 1 c = 0
  · rw [if_pos e, if_pos (h2.mpr (by simp [e]))]
  · rw [if_neg e, if_neg (fun z => by have := h2.mp z; simp at this; omega)]
theorem hx_open (H : hx G P σ) (hc : c < hp_C G) : f_Gr_isOpen (nI c) σ = if G 1 c = 0 then 1 else 0 := hx_open0 H.z hc
def hx_nb (c W H : Nat) (dx dy : Int32) (σ : hl_M) : Option Int32 :=
  if f_X_within (nI (c % W) + dx) (nI W) = 0 then some (nI c) else if f_X_within (nI (c / W) + dy) (nI H) = 0 then some (nI c) else if f_Gr_isOpen ((nI (c / W) + dy) * nI W + (nI (c % W) + dx)) σ = 0 then some (nI c) else some ((nI (c / W) + dy) * nI W + (nI (c % W) + dx))
theorem hx_next0 (H : hx0 G P σ) (hc : c < hp_C G) (hs : s < 5) : f_Gr_nextCell (nI c) (nI s) σ = some (nI (hp_nx G c s)) := by
  obtain ⟨w3, h3⟩ := H.wg.W0 hc
  have w9 := H.wg.W
  have h6 := H.wg.H
  have hC := H.wg.C
  have hto := hp_to_lt (s := s) hc
  have eC : hp_C G = G 0 0 * G 0 1 := rfl
  have ed := Nat.div_add_mod c (G 0 0)
  have hm : c % G 0 0 < G 0 0 := Nat.mod_lt _ (by omega)
  have hd : c / G 0 0 < G 0 1 := Nat.div_lt_of_lt_mul hc
  have nb : f_Gr_nextCell (nI c) (nI s) σ = hx_nb c (G 0 0) (G 0 1) (([0, 1, 0, -1, 0] : List Int32).getD s 0) (([-1, 0, 1, 0, 0] : List Int32).getD s 0) σ := by
    unfold f_Gr_nextCell
    rw [H.W, if_neg (by first | omega | (simp (disch := first | assumption | omega) only [↓hp_neg1, hp_l0, hp_l1, hp_l2, hp_l3, hp_l4, hp_l5, hp_l6, hp_l7, hp_l8, hp_l9, hp_l10, hp_l11, hp_l12, hp_l13, hp_l14, hp_l15, hp_l16, hp_l17, hp_l18, hp_l19, hp_l20, hp_l21, hp_l22, hp_l23, hp_l24, hp_l25, hp_l26, hp_l27, hp_l28, hp_l29, hp_l30, hp_l31, hp_l32, hp_l33, hp_l34, hp_l35, hp_l36, hp_l37, hp_l38, hp_l39, hp_l40, hp_l41, hp_l42, hp_l43, hp_l44, hp_l45, hp_l46, hp_l47, hp_l48, hp_l49, hp_l50, hp_l51, hp_l52, hp_l53, hp_l54, hp_l55, hp_l56, hp_l57, hp_l58, hp_l59, hp_l60, hp_l61, hp_l62, hp_l63, hp_l64, hp_l65, hp_l66, hp_l67, hp_l68, hp_l69, hp_l70, hp_l71, hp_l72, hp_l73, hp_l74, hp_l75, hp_l76, hp_l77, hp_l78, hp_l79, hp_l80, hp_l81, hp_l82, hp_l83, hp_l84, hp_l85, hp_l86, hp_l87, hp_l88, hp_l89, hp_l90, hp_l91, hp_l92, hp_l93, hp_l94, hp_l95, hp_l96, hp_l97, hp_l98, hp_l99, hp_l100, hp_l101, hp_l102, hp_l103, hp_l104, hp_l105, hp_l106, hp_l107, hp_l108, hp_l109, hp_l110, hp_l111, hp_l112, hp_l113, hp_l114, hp_l115, hp_l116, hp_l117, hp_l118, hp_l119, hp_l120, hp_l121, hp_l122, hp_l123, hp_l124, hp_l125, hp_l126, hp_l127, hp_l141, hp_l142, hp_l150, hp_l151, hp_l152, hp_l153, hp_l251, hp_l255, hp_l256, hp_l300, hp_l432, hp_l864, hp_l1000, hp_l1600, hp_l1700, hp_l2304, hp_l2916, hp_l3000, hp_l9999, hp_l10000, nI_add, pk_mul, nI_clamp, hl_lt, hl_le, hl_eq, hl_nIb, hl_nsub, hp_eqm, hp_meq, hp_ltm, hp_mlt, hp_lem, hp_mle, hp_addm, hp_meqm, hp_mlem, hp_withinE, hp_within0, if_pos, if_neg, Option.bind_some, hp_let, Sum.elim_inl, Sum.elim_inr, hp_s01, hp_s11, hp_s2, true_and, and_true, if_true, if_false, not_true_eq_false, not_false_eq_true, reduceCtorEq] <;> omega)), show (5 : Int32) = nI 5 from rfl, hp_withinT hs (by decide), if_neg (by decide), if_neg (by first | omega | (simp (disch := first | assumption | omega) only [↓hp_neg1, hp_l0, hp_l1, hp_l2, hp_l3, hp_l4, hp_l5, hp_l6, hp_l7, hp_l8, hp_l9, hp_l10, hp_l11, hp_l12, hp_l13, hp_l14, hp_l15, hp_l16, hp_l17, hp_l18, hp_l19, hp_l20, hp_l21, hp_l22, hp_l23, hp_l24, hp_l25, hp_l26, hp_l27, hp_l28, hp_l29, hp_l30, hp_l31, hp_l32, hp_l33, hp_l34, hp_l35, hp_l36, hp_l37, hp_l38, hp_l39, hp_l40, hp_l41, hp_l42, hp_l43, hp_l44, hp_l45, hp_l46, hp_l47, hp_l48, hp_l49, hp_l50, hp_l51, hp_l52, hp_l53, hp_l54, hp_l55, hp_l56, hp_l57, hp_l58, hp_l59, hp_l60, hp_l61, hp_l62, hp_l63, hp_l64, hp_l65, hp_l66, hp_l67, hp_l68, hp_l69, hp_l70, hp_l71, hp_l72, hp_l73, hp_l74, hp_l75, hp_l76, hp_l77, hp_l78, hp_l79, hp_l80, hp_l81, hp_l82, hp_l83, hp_l84, hp_l85, hp_l86, hp_l87, hp_l88, hp_l89, hp_l90, hp_l91, hp_l92, hp_l93, hp_l94, hp_l95, hp_l96, hp_l97, hp_l98, hp_l99, hp_l100, hp_l101, hp_l102, hp_l103, hp_l104, hp_l105, hp_l106, hp_l107, hp_l108, hp_l109, hp_l110, hp_l111, hp_l112, hp_l113, hp_l114, hp_l115, hp_l116, hp_l117, hp_l118, hp_l119, hp_l120, hp_l121, hp_l122, hp_l123, hp_l124, hp_l125, hp_l126, hp_l127, hp_l141, hp_l142, hp_l150, hp_l151, hp_l152, hp_l153, hp_l251, hp_l255, hp_l256, hp_l300, hp_l432, hp_l864, hp_l1000, hp_l1600, hp_l1700, hp_l2304, hp_l2916, hp_l3000, hp_l9999, hp_l10000, nI_add, pk_mul, nI_clamp, hl_lt, hl_le, hl_eq, hl_nIb, hl_nsub, hp_eqm, hp_meq, hp_ltm, hp_mlt, hp_lem, hp_mle, hp_addm, hp_meqm, hp_mlem, hp_withinE, hp_within0, if_pos, if_neg, Option.bind_some, hp_let, Sum.elim_inl, Sum.elim_inr, hp_s01, hp_s11, hp_s2, true_and, and_true, if_true, if_false, not_true_eq_false, not_false_eq_true, reduceCtorEq] <;> omega)), if_pos (by first | omega | (simp (disch := first | assumption | omega) only [↓hp_neg1, hp_l0, hp_l1, hp_l2, hp_l3, hp_l4, hp_l5, hp_l6, hp_l7, hp_l8, hp_l9, hp_l10, hp_l11, hp_l12, hp_l13, hp_l14, hp_l15, hp_l16, hp_l17, hp_l18, hp_l19, hp_l20, hp_l21, hp_l22, hp_l23, hp_l24, hp_l25, hp_l26, hp_l27, hp_l28, hp_l29, hp_l30, hp_l31, hp_l32, hp_l33, hp_l34, hp_l35, hp_l36, hp_l37, hp_l38, hp_l39, hp_l40, hp_l41, hp_l42, hp_l43, hp_l44, hp_l45, hp_l46, hp_l47, hp_l48, hp_l49, hp_l50, hp_l51, hp_l52, hp_l53, hp_l54, hp_l55, hp_l56, hp_l57, hp_l58, hp_l59, hp_l60, hp_l61, hp_l62, hp_l63, hp_l64, hp_l65, hp_l66, hp_l67, hp_l68, hp_l69, hp_l70, hp_l71, hp_l72, hp_l73, hp_l74, hp_l75, hp_l76, hp_l77, hp_l78, hp_l79, hp_l80, hp_l81, hp_l82, hp_l83, hp_l84, hp_l85, hp_l86, hp_l87, hp_l88, hp_l89, hp_l90, hp_l91, hp_l92, hp_l93, hp_l94, hp_l95, hp_l96, hp_l97, hp_l98, hp_l99, hp_l100, hp_l101, hp_l102, hp_l103, hp_l104, hp_l105, hp_l106, hp_l107, hp_l108, hp_l109, hp_l110, hp_l111, hp_l112, hp_l113, hp_l114, hp_l115, hp_l116, hp_l117, hp_l118, hp_l119, hp_l120, hp_l121, hp_l122, hp_l123, hp_l124, hp_l125, hp_l126, hp_l127, hp_l141, hp_l142, hp_l150, hp_l151, hp_l152, hp_l153, hp_l251, hp_l255, hp_l256, hp_l300, hp_l432, hp_l864, hp_l1000, hp_l1600, hp_l1700, hp_l2304, hp_l2916, hp_l3000, hp_l9999, hp_l10000, nI_add, pk_mul, nI_clamp, hl_lt, hl_le, hl_eq, hl_nIb, hl_nsub, hp_eqm, hp_meq, hp_ltm, hp_mlt, hp_lem, hp_mle, hp_addm, hp_meqm, hp_mlem, hp_withinE, hp_within0, if_pos, if_neg, Option.bind_some, hp_let, Sum.elim_inl, Sum.elim_inr, hp_s01, hp_s11, hp_s2, true_and, and_true, if_true, if_false, not_true_eq_false, not_false_eq_true, reduceCtorEq] <;> omega)), hp_let, if_neg (by first | omega | (simp (disch := first | assumption | omega) only [↓hp_neg1, hp_l0, hp_l1, hp_l2, hp_l3, hp_l4, hp_l5, hp_l6, hp_l7, hp_l8, hp_l9, hp_l10, hp_l11, hp_l12, hp_l13, hp_l14, hp_l15, hp_l16, hp_l17, hp_l18, hp_l19, hp_l20, hp_l21, hp_l22, hp_l23, hp_l24, hp_l25, hp_l26, hp_l27, hp_l28, hp_l29, hp_l30, hp_l31, hp_l32, hp_l33, hp_l34, hp_l35, hp_l36, hp_l37, hp_l38, hp_l39, hp_l40, hp_l41, hp_l42, hp_l43, hp_l44, hp_l45, hp_l46, hp_l47, hp_l48, hp_l49, hp_l50, hp_l51, hp_l52, hp_l53, hp_l54, hp_l55, hp_l56, hp_l57, hp_l58, hp_l59, hp_l60, hp_l61, hp_l62, hp_l63, hp_l64, hp_l65, hp_l66, hp_l67, hp_l68, hp_l69, hp_l70, hp_l71, hp_l72, hp_l73, hp_l74, hp_l75, hp_l76, hp_l77, hp_l78, hp_l79, hp_l80, hp_l81, hp_l82, hp_l83, hp_l84, hp_l85, hp_l86, hp_l87, hp_l88, hp_l89, hp_l90, hp_l91, hp_l92, hp_l93, hp_l94, hp_l95, hp_l96, hp_l97, hp_l98, hp_l99, hp_l100, hp_l101, hp_l102, hp_l103, hp_l104, hp_l105, hp_l106, hp_l107, hp_l108, hp_l109, hp_l110, hp_l111, hp_l112, hp_l113, hp_l114, hp_l115, hp_l116, hp_l117, hp_l118, hp_l119, hp_l120, hp_l121, hp_l122, hp_l123, hp_l124, hp_l125, hp_l126, hp_l127, hp_l141, hp_l142, hp_l150, hp_l151, hp_l152, hp_l153, hp_l251, hp_l255, hp_l256, hp_l300, hp_l432, hp_l864, hp_l1000, hp_l1600, hp_l1700, hp_l2304, hp_l2916, hp_l3000, hp_l9999, hp_l10000, nI_add, pk_mul, nI_clamp, hl_lt, hl_le, hl_eq, hl_nIb, hl_nsub, hp_eqm, hp_meq, hp_ltm, hp_mlt, hp_lem, hp_mle, hp_addm, hp_meqm, hp_mlem, hp_withinE, hp_within0, if_pos, if_neg, Option.bind_some, hp_let, Sum.elim_inl, Sum.elim_inr, hp_s01, hp_s11, hp_s2, true_and, and_true, if_true, if_false, not_true_eq_false, not_false_eq_true, reduceCtorEq] <;> omega)), if_pos (by first | omega | (simp (disch := first | assumption | omega) only [↓hp_neg1, hp_l0, hp_l1, hp_l2, hp_l3, hp_l4, hp_l5, hp_l6, hp_l7, hp_l8, hp_l9, hp_l10, hp_l11, hp_l12, hp_l13, hp_l14, hp_l15, hp_l16, hp_l17, hp_l18, hp_l19, hp_l20, hp_l21, hp_l22, hp_l23, hp_l24, hp_l25, hp_l26, hp_l27, hp_l28, hp_l29, hp_l30, hp_l31, hp_l32, hp_l33, hp_l34, hp_l35, hp_l36, hp_l37, hp_l38, hp_l39, hp_l40, hp_l41, hp_l42, hp_l43, hp_l44, hp_l45, hp_l46, hp_l47, hp_l48, hp_l49, hp_l50, hp_l51, hp_l52, hp_l53, hp_l54, hp_l55, hp_l56, hp_l57, hp_l58, hp_l59, hp_l60, hp_l61, hp_l62, hp_l63, hp_l64, hp_l65, hp_l66, hp_l67, hp_l68, hp_l69, hp_l70, hp_l71, hp_l72, hp_l73, hp_l74, hp_l75, hp_l76, hp_l77, hp_l78, hp_l79, hp_l80, hp_l81, hp_l82, hp_l83, hp_l84, hp_l85, hp_l86, hp_l87, hp_l88, hp_l89, hp_l90, hp_l91, hp_l92, hp_l93, hp_l94, hp_l95, hp_l96, hp_l97, hp_l98, hp_l99, hp_l100, hp_l101, hp_l102, hp_l103, hp_l104, hp_l105, hp_l106, hp_l107, hp_l108, hp_l109, hp_l110, hp_l111, hp_l112, hp_l113, hp_l114, hp_l115, hp_l116, hp_l117, hp_l118, hp_l119, hp_l120, hp_l121, hp_l122, hp_l123, hp_l124, hp_l125, hp_l126, hp_l127, hp_l141, hp_l142, hp_l150, hp_l151, hp_l152, hp_l153, hp_l251, hp_l255, hp_l256, hp_l300, hp_l432, hp_l864, hp_l1000, hp_l1600, hp_l1700, hp_l2304, hp_l2916, hp_l3000, hp_l9999, hp_l10000, nI_add, pk_mul, nI_clamp, hl_lt, hl_le, hl_eq, hl_nIb, hl_nsub, hp_eqm, hp_meq, hp_ltm, hp_mlt, hp_lem, hp_mle, hp_addm, hp_meqm, hp_mlem, hp_withinE, hp_within0, if_pos, if_neg, Option.bind_some, hp_let, Sum.elim_inl, Sum.elim_inr, hp_s01, hp_s11, hp_s2, true_and, and_true, if_true, if_false, not_true_eq_false, not_false_eq_true, reduceCtorEq] <;> omega)), H.H, pk_rem (by omega) (by omega) (by omega), pk_div (by omega) (by omega) (by omega), nI_clamp (by omega)]
    rfl
  have out1 : ∀ (dx dy : Int32), (nI (c % G 0 0) + dx < 0 ∨ nI (G 0 0) ≤ nI (c % G 0 0) + dx) → hp_to G c s = c → hx_nb c (G 0 0) (G 0 1) dx dy σ = some (nI (hp_nx G c s)) := by
    intro dx dy h e
    unfold hx_nb hp_nx
    rw [hp_within1 (by omega) h, if_pos rfl, e]
    split <;> rfl
  have out2 : ∀ (x : Nat) (dx dy : Int32), nI (c % G 0 0) + dx = nI x → x < G 0 0 → (nI (c / G 0 0) + dy < 0 ∨ nI (G 0 1) ≤ nI (c / G 0 0) + dy) → hp_to G c s = c → hx_nb c (G 0 0) (G 0 1) dx dy σ = some (nI (hp_nx G c s)) := by
    intro x dx dy e1 hx h e
    unfold hx_nb hp_nx
    rw [e1, hp_withinT hx (by omega), if_neg (by decide), hp_within1 (by omega) h, if_pos rfl, e]
    split <;> rfl
  have go : ∀ (x y : Nat) (dx dy : Int32), nI (c % G 0 0) + dx = nI x → x < G 0 0 → nI (c / G 0 0) + dy = nI y → y < G 0 1 → G 0 0 * y + x = hp_to G c s → hx_nb c (G 0 0) (G 0 1) dx dy σ = some (nI (hp_nx G c s)) := by
    intro x y dx dy e1 hx e2 hy e3
    unfold hx_nb
    rw [e1, hp_withinT hx (by omega), if_neg (by decide), e2, hp_withinT hy (by omega), if_neg (by decide), pk_mul, nI_add, Nat.mul_comm, e3, hx_open0 H hto]
    unfold hp_nx
    by_cases e : G 1 (hp_to G c s) = 0
    · rw [if_pos e, if_pos e, if_neg (by decide)]
    · rw [if_neg e, if_neg e, if_pos rfl]
  have hup : G 0 0 ≤ c ↔ 0 < c / G 0 0 := by rw [Nat.div_pos_iff]; omega
  have hdn : c + G 0 0 < hp_C G ↔ c / G 0 0 + 1 < G 0 1 := by
    rw [eC]
    constructor
    · intro h
      have h2 : G 0 0 * (c / G 0 0 + 1) < G 0 0 * G 0 1 := by rw [Nat.mul_add]; omega
      exact Nat.lt_of_mul_lt_mul_left h2
    · intro h
      have h2 : G 0 0 * (c / G 0 0 + 1 + 1) ≤ G 0 0 * G 0 1 := Nat.mul_le_mul_left _ h
      rw [Nat.mul_add, Nat.mul_add] at h2
      omega
  have z0 : ∀ a : Nat, nI a + 0 = nI a := fun a => by rw [show (0 : Int32) = nI 0 from rfl, nI_add, Nat.add_zero]
  rw [nb]
  match s, hs with
  | 0, _ =>
    show hx_nb c (G 0 0) (G 0 1) 0 (-1) σ = _
    by_cases e : 0 < c / G 0 0
    · apply go _ (c / G 0 0 - 1) _ _ (z0 _) hm (hp_addm e) (by omega)
      unfold hp_to
      rw [if_pos rfl, if_pos (hup.mpr e), Nat.mul_sub, Nat.mul_one]
      have := hup.mpr e
      have h2 : G 0 0 * 1 ≤ G 0 0 * (c / G 0 0) := Nat.mul_le_mul_left _ e
      omega
    · apply out2 _ _ _ (z0 _) hm
      · rw [Nat.eq_zero_of_not_pos e]; exact .inl (by decide)
      · unfold hp_to
        rw [if_pos rfl, if_neg (fun z => e (hup.mp z))]
  | 1, _ =>
    show hx_nb c (G 0 0) (G 0 1) 1 0 σ = _
    by_cases e : c % G 0 0 + 1 < G 0 0
    · apply go _ _ _ _ (nI_1 _) e (z0 _) hd
      unfold hp_to
      rw [if_neg (by decide), if_pos rfl, if_pos e]
      omega
    · apply out1
      · rw [nI_1]; exact .inr (nI_le (by omega) (by omega))
      · unfold hp_to
        rw [if_neg (by decide), if_pos rfl, if_neg e]
  | 2, _ =>
    show hx_nb c (G 0 0) (G 0 1) 0 1 σ = _
    by_cases e : c / G 0 0 + 1 < G 0 1
    · apply go _ _ _ _ (z0 _) hm (nI_1 _) e
      unfold hp_to
      rw [if_neg (by decide), if_neg (by decide), if_pos rfl, if_pos (hdn.mpr e), Nat.mul_add, Nat.mul_one]
      omega
    · apply out2 _ _ _ (z0 _) hm
      · rw [nI_1]; exact .inr (nI_le (by omega) (by omega))
      · unfold hp_to
        rw [if_neg (by decide), if_neg (by decide), if_pos rfl, if_neg (fun z => e (hdn.mp z))]
  | 3, _ =>
    show hx_nb c (G 0 0) (G 0 1) (-1) 0 σ = _
    by_cases e : 0 < c % G 0 0
    · apply go _ _ _ _ (hp_addm e) (by omega) (z0 _) hd
      unfold hp_to
      rw [if_neg (by decide), if_neg (by decide), if_neg (by decide), if_pos rfl, if_pos e]
      omega
    · apply out1
      · rw [Nat.eq_zero_of_not_pos e]; exact .inl (by decide)
      · unfold hp_to
        rw [if_neg (by decide), if_neg (by decide), if_neg (by decide), if_pos rfl, if_neg e]
  | 4, _ =>
    show hx_nb c (G 0 0) (G 0 1) 0 0 σ = _
    apply go _ _ _ _ (z0 _) hm (z0 _) hd
    unfold hp_to
    rw [if_neg (by decide), if_neg (by decide), if_neg (by decide), if_neg (by decide)]
    omega
theorem hx_next (H : hx G P σ) (hc : c < hp_C G) (hs : s < 5) : f_Gr_nextCell (nI c) (nI s) σ = some (nI (hp_nx G c s)) := hx_next0 H.z hc hs
theorem hx_nextN0 (H : hx0 G P σ) : f_Gr_nextCell (nI c) (-1) σ = some (nI c) := by
  unfold f_Gr_nextCell
  by_cases e : σ.1 4 0 ≤ 0
  · rw [if_pos e]
  · rw [if_neg e, show (-1 : Int32) = hp_m1 from rfl, hp_within0, if_pos rfl]
theorem hx_nextN (H : hx G P σ) : f_Gr_nextCell (nI c) (-1) σ = some (nI c) := hx_nextN0 H.z 
theorem hx_stepFor0 (H : hx0 G P σ) (hp : p < G 0 2) (hb : b < 1000) : f_Gr_stepFor (nI p) (nI (b + 1)) σ = some (nI (P (2 + p) (b % P 1 p))) := by
  have := H.wg.np
  obtain ⟨_, h1, h2, h3⟩ := H.wp p hp
  have hm : b % P 1 p < P 1 p := Nat.mod_lt _ (by omega)
  unfold f_Gr_stepFor
  rw [H.np, hp_withinT hp (by omega), if_neg (by decide), if_pos (by first | omega | (simp (disch := first | assumption | omega) only [↓hp_neg1, hp_l0, hp_l1, hp_l2, hp_l3, hp_l4, hp_l5, hp_l6, hp_l7, hp_l8, hp_l9, hp_l10, hp_l11, hp_l12, hp_l13, hp_l14, hp_l15, hp_l16, hp_l17, hp_l18, hp_l19, hp_l20, hp_l21, hp_l22, hp_l23, hp_l24, hp_l25, hp_l26, hp_l27, hp_l28, hp_l29, hp_l30, hp_l31, hp_l32, hp_l33, hp_l34, hp_l35, hp_l36, hp_l37, hp_l38, hp_l39, hp_l40, hp_l41, hp_l42, hp_l43, hp_l44, hp_l45, hp_l46, hp_l47, hp_l48, hp_l49, hp_l50, hp_l51, hp_l52, hp_l53, hp_l54, hp_l55, hp_l56, hp_l57, hp_l58, hp_l59, hp_l60, hp_l61, hp_l62, hp_l63, hp_l64, hp_l65, hp_l66, hp_l67, hp_l68, hp_l69, hp_l70, hp_l71, hp_l72, hp_l73, hp_l74, hp_l75, hp_l76, hp_l77, hp_l78, hp_l79, hp_l80, hp_l81, hp_l82, hp_l83, hp_l84, hp_l85, hp_l86, hp_l87, hp_l88, hp_l89, hp_l90, hp_l91, hp_l92, hp_l93, hp_l94, hp_l95, hp_l96, hp_l97, hp_l98, hp_l99, hp_l100, hp_l101, hp_l102, hp_l103, hp_l104, hp_l105, hp_l106, hp_l107, hp_l108, hp_l109, hp_l110, hp_l111, hp_l112, hp_l113, hp_l114, hp_l115, hp_l116, hp_l117, hp_l118, hp_l119, hp_l120, hp_l121, hp_l122, hp_l123, hp_l124, hp_l125, hp_l126, hp_l127, hp_l141, hp_l142, hp_l150, hp_l151, hp_l152, hp_l153, hp_l251, hp_l255, hp_l256, hp_l300, hp_l432, hp_l864, hp_l1000, hp_l1600, hp_l1700, hp_l2304, hp_l2916, hp_l3000, hp_l9999, hp_l10000, nI_add, pk_mul, nI_clamp, hl_lt, hl_le, hl_eq, hl_nIb, hl_nsub, hp_eqm, hp_meq, hp_ltm, hp_mlt, hp_lem, hp_mle, hp_addm, hp_meqm, hp_mlem, hp_withinE, hp_within0, if_pos, if_neg, Option.bind_some, hp_let, Sum.elim_inl, Sum.elim_inr, hp_s01, hp_s11, hp_s2, true_and, and_true, if_true, if_false, not_true_eq_false, not_false_eq_true, reduceCtorEq] <;> omega)), if_pos (by first | omega | (simp (disch := first | assumption | omega) only [↓hp_neg1, hp_l0, hp_l1, hp_l2, hp_l3, hp_l4, hp_l5, hp_l6, hp_l7, hp_l8, hp_l9, hp_l10, hp_l11, hp_l12, hp_l13, hp_l14, hp_l15, hp_l16, hp_l17, hp_l18, hp_l19, hp_l20, hp_l21, hp_l22, hp_l23, hp_l24, hp_l25, hp_l26, hp_l27, hp_l28, hp_l29, hp_l30, hp_l31, hp_l32, hp_l33, hp_l34, hp_l35, hp_l36, hp_l37, hp_l38, hp_l39, hp_l40, hp_l41, hp_l42, hp_l43, hp_l44, hp_l45, hp_l46, hp_l47, hp_l48, hp_l49, hp_l50, hp_l51, hp_l52, hp_l53, hp_l54, hp_l55, hp_l56, hp_l57, hp_l58, hp_l59, hp_l60, hp_l61, hp_l62, hp_l63, hp_l64, hp_l65, hp_l66, hp_l67, hp_l68, hp_l69, hp_l70, hp_l71, hp_l72, hp_l73, hp_l74, hp_l75, hp_l76, hp_l77, hp_l78, hp_l79, hp_l80, hp_l81, hp_l82, hp_l83, hp_l84, hp_l85, hp_l86, hp_l87, hp_l88, hp_l89, hp_l90, hp_l91, hp_l92, hp_l93, hp_l94, hp_l95, hp_l96, hp_l97, hp_l98, hp_l99, hp_l100, hp_l101, hp_l102, hp_l103, hp_l104, hp_l105, hp_l106, hp_l107, hp_l108, hp_l109, hp_l110, hp_l111, hp_l112, hp_l113, hp_l114, hp_l115, hp_l116, hp_l117, hp_l118, hp_l119, hp_l120, hp_l121, hp_l122, hp_l123, hp_l124, hp_l125, hp_l126, hp_l127, hp_l141, hp_l142, hp_l150, hp_l151, hp_l152, hp_l153, hp_l251, hp_l255, hp_l256, hp_l300, hp_l432, hp_l864, hp_l1000, hp_l1600, hp_l1700, hp_l2304, hp_l2916, hp_l3000, hp_l9999, hp_l10000, nI_add, pk_mul, nI_clamp, hl_lt, hl_le, hl_eq, hl_nIb, hl_nsub, hp_eqm, hp_meq, hp_ltm, hp_mlt, hp_lem, hp_mle, hp_addm, hp_meqm, hp_mlem, hp_withinE, hp_within0, if_pos, if_neg, Option.bind_some, hp_let, Sum.elim_inl, Sum.elim_inr, hp_s01, hp_s11, hp_s2, true_and, and_true, if_true, if_false, not_true_eq_false, not_false_eq_true, reduceCtorEq] <;> omega)), nI_clamp (by omega), H.steps hp, hp_pw_cnt (by omega), if_neg (by first | omega | (simp (disch := first | assumption | omega) only [↓hp_neg1, hp_l0, hp_l1, hp_l2, hp_l3, hp_l4, hp_l5, hp_l6, hp_l7, hp_l8, hp_l9, hp_l10, hp_l11, hp_l12, hp_l13, hp_l14, hp_l15, hp_l16, hp_l17, hp_l18, hp_l19, hp_l20, hp_l21, hp_l22, hp_l23, hp_l24, hp_l25, hp_l26, hp_l27, hp_l28, hp_l29, hp_l30, hp_l31, hp_l32, hp_l33, hp_l34, hp_l35, hp_l36, hp_l37, hp_l38, hp_l39, hp_l40, hp_l41, hp_l42, hp_l43, hp_l44, hp_l45, hp_l46, hp_l47, hp_l48, hp_l49, hp_l50, hp_l51, hp_l52, hp_l53, hp_l54, hp_l55, hp_l56, hp_l57, hp_l58, hp_l59, hp_l60, hp_l61, hp_l62, hp_l63, hp_l64, hp_l65, hp_l66, hp_l67, hp_l68, hp_l69, hp_l70, hp_l71, hp_l72, hp_l73, hp_l74, hp_l75, hp_l76, hp_l77, hp_l78, hp_l79, hp_l80, hp_l81, hp_l82, hp_l83, hp_l84, hp_l85, hp_l86, hp_l87, hp_l88, hp_l89, hp_l90, hp_l91, hp_l92, hp_l93, hp_l94, hp_l95, hp_l96, hp_l97, hp_l98, hp_l99, hp_l100, hp_l101, hp_l102, hp_l103, hp_l104, hp_l105, hp_l106, hp_l107, hp_l108, hp_l109, hp_l110, hp_l111, hp_l112, hp_l113, hp_l114, hp_l115, hp_l116, hp_l117, hp_l118, hp_l119, hp_l120, hp_l121, hp_l122, hp_l123, hp_l124, hp_l125, hp_l126, hp_l127, hp_l141, hp_l142, hp_l150, hp_l151, hp_l152, hp_l153, hp_l251, hp_l255, hp_l256, hp_l300, hp_l432, hp_l864, hp_l1000, hp_l1600, hp_l1700, hp_l2304, hp_l2916, hp_l3000, hp_l9999, hp_l10000, nI_add, pk_mul, nI_clamp, hl_lt, hl_le, hl_eq, hl_nIb, hl_nsub, hp_eqm, hp_meq, hp_ltm, hp_mlt, hp_lem, hp_mle, hp_addm, hp_meqm, hp_mlem, hp_withinE, hp_within0, if_pos, if_neg, Option.bind_some, hp_let, Sum.elim_inl, Sum.elim_inr, hp_s01, hp_s11, hp_s2, true_and, and_true, if_true, if_false, not_true_eq_false, not_false_eq_true, reduceCtorEq] <;> omega)), if_pos (by first | omega | (simp (disch := first | assumption | omega) only [↓hp_neg1, hp_l0, hp_l1, hp_l2, hp_l3, hp_l4, hp_l5, hp_l6, hp_l7, hp_l8, hp_l9, hp_l10, hp_l11, hp_l12, hp_l13, hp_l14, hp_l15, hp_l16, hp_l17, hp_l18, hp_l19, hp_l20, hp_l21, hp_l22, hp_l23, hp_l24, hp_l25, hp_l26, hp_l27, hp_l28, hp_l29, hp_l30, hp_l31, hp_l32, hp_l33, hp_l34, hp_l35, hp_l36, hp_l37, hp_l38, hp_l39, hp_l40, hp_l41, hp_l42, hp_l43, hp_l44, hp_l45, hp_l46, hp_l47, hp_l48, hp_l49, hp_l50, hp_l51, hp_l52, hp_l53, hp_l54, hp_l55, hp_l56, hp_l57, hp_l58, hp_l59, hp_l60, hp_l61, hp_l62, hp_l63, hp_l64, hp_l65, hp_l66, hp_l67, hp_l68, hp_l69, hp_l70, hp_l71, hp_l72, hp_l73, hp_l74, hp_l75, hp_l76, hp_l77, hp_l78, hp_l79, hp_l80, hp_l81, hp_l82, hp_l83, hp_l84, hp_l85, hp_l86, hp_l87, hp_l88, hp_l89, hp_l90, hp_l91, hp_l92, hp_l93, hp_l94, hp_l95, hp_l96, hp_l97, hp_l98, hp_l99, hp_l100, hp_l101, hp_l102, hp_l103, hp_l104, hp_l105, hp_l106, hp_l107, hp_l108, hp_l109, hp_l110, hp_l111, hp_l112, hp_l113, hp_l114, hp_l115, hp_l116, hp_l117, hp_l118, hp_l119, hp_l120, hp_l121, hp_l122, hp_l123, hp_l124, hp_l125, hp_l126, hp_l127, hp_l141, hp_l142, hp_l150, hp_l151, hp_l152, hp_l153, hp_l251, hp_l255, hp_l256, hp_l300, hp_l432, hp_l864, hp_l1000, hp_l1600, hp_l1700, hp_l2304, hp_l2916, hp_l3000, hp_l9999, hp_l10000, nI_add, pk_mul, nI_clamp, hl_lt, hl_le, hl_eq, hl_nIb, hl_nsub, hp_eqm, hp_meq, hp_ltm, hp_mlt, hp_lem, hp_mle, hp_addm, hp_meqm, hp_mlem, hp_withinE, hp_within0, if_pos, if_neg, Option.bind_some, hp_let, Sum.elim_inl, Sum.elim_inr, hp_s01, hp_s11, hp_s2, true_and, and_true, if_true, if_false, not_true_eq_false, not_false_eq_true, reduceCtorEq] <;> omega)), if_neg (by first | omega | (simp (disch := first | assumption | omega) only [↓hp_neg1, hp_l0, hp_l1, hp_l2, hp_l3, hp_l4, hp_l5, hp_l6, hp_l7, hp_l8, hp_l9, hp_l10, hp_l11, hp_l12, hp_l13, hp_l14, hp_l15, hp_l16, hp_l17, hp_l18, hp_l19, hp_l20, hp_l21, hp_l22, hp_l23, hp_l24, hp_l25, hp_l26, hp_l27, hp_l28, hp_l29, hp_l30, hp_l31, hp_l32, hp_l33, hp_l34, hp_l35, hp_l36, hp_l37, hp_l38, hp_l39, hp_l40, hp_l41, hp_l42, hp_l43, hp_l44, hp_l45, hp_l46, hp_l47, hp_l48, hp_l49, hp_l50, hp_l51, hp_l52, hp_l53, hp_l54, hp_l55, hp_l56, hp_l57, hp_l58, hp_l59, hp_l60, hp_l61, hp_l62, hp_l63, hp_l64, hp_l65, hp_l66, hp_l67, hp_l68, hp_l69, hp_l70, hp_l71, hp_l72, hp_l73, hp_l74, hp_l75, hp_l76, hp_l77, hp_l78, hp_l79, hp_l80, hp_l81, hp_l82, hp_l83, hp_l84, hp_l85, hp_l86, hp_l87, hp_l88, hp_l89, hp_l90, hp_l91, hp_l92, hp_l93, hp_l94, hp_l95, hp_l96, hp_l97, hp_l98, hp_l99, hp_l100, hp_l101, hp_l102, hp_l103, hp_l104, hp_l105, hp_l106, hp_l107, hp_l108, hp_l109, hp_l110, hp_l111, hp_l112, hp_l113, hp_l114, hp_l115, hp_l116, hp_l117, hp_l118, hp_l119, hp_l120, hp_l121, hp_l122, hp_l123, hp_l124, hp_l125, hp_l126, hp_l127, hp_l141, hp_l142, hp_l150, hp_l151, hp_l152, hp_l153, hp_l251, hp_l255, hp_l256, hp_l300, hp_l432, hp_l864, hp_l1000, hp_l1600, hp_l1700, hp_l2304, hp_l2916, hp_l3000, hp_l9999, hp_l10000, nI_add, pk_mul, nI_clamp, hl_lt, hl_le, hl_eq, hl_nIb, hl_nsub, hp_eqm, hp_meq, hp_ltm, hp_mlt, hp_lem, hp_mle, hp_addm, hp_meqm, hp_mlem, hp_withinE, hp_within0, if_pos, if_neg, Option.bind_some, hp_let, Sum.elim_inl, Sum.elim_inr, hp_s01, hp_s11, hp_s2, true_and, and_true, if_true, if_false, not_true_eq_false, not_false_eq_true, reduceCtorEq] <;> omega)), nI_pred, pk_rem (by omega) (by omega) (by omega), hp_pw_step h2 (fun j hj => by have := h3 j hj; omega) hm]
theorem hx_stepFor (H : hx G P σ) (hp : p < G 0 2) (hb : b < 1000) : f_Gr_stepFor (nI p) (nI (b + 1)) σ = some (nI (P (2 + p) (b % P 1 p))) := hx_stepFor0 H.z hp hb
end HX
