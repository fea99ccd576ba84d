/-! statements, both in step: a lit cell of a word -/
def q_L (G : hp_G) (w : Nat) (L : Nat → Nat) (x y : Int64) (τ : hl_M) : Prop := hp_bs x (fun c => decide (L c = 1)) ∧ hp_bs y (fun c => decide (L c = 2)) ∧ (∀ c, L c ≤ 2 ∧ (hp_C G ≤ c → L c = 0)) ∧ ∀ c, c < 54 → τ.1 79 (54 * w + c) = nI (L c)
def hm_FW (w q f : Nat) : Prop := hm_FD q f ∨ (q = 79 ∧ 54 * w ≤ f ∧ f < 54 * w + 54)
section LIT
variable {G P : hp_G} {σ τ σ' τ' σ1 τ1 υ : hl_M} {n a s t k c j v z m m' w d u N p i : Nat} {b l l' st L : Nat → Nat} {x y : Int64} {nm : Int32}
theorem q_L.fr {D : Nat → Nat → Prop} (H : q_L G w L x y τ) (F : hp_fr D τ τ') (h : ∀ q f, D q f → q ≠ 79) : q_L G w L x y τ' := ⟨H.1, H.2.1, H.2.2.1, fun c hc => by rw [F.i (fun z => h _ _ z rfl)]; exact H.2.2.2 c hc⟩
theorem hp_Lu {f : Nat → Nat} (hu : u = 1 ∨ u = 2) (h0 : f c = 0) : fb_ct (fun k => decide (0 < (if k = c then u else f k))) 54 = fb_ct (fun k => decide (0 < f k)) 54 + (if c < 54 then 1 else 0) := by
  have e : (fun k => decide (0 < (if k = c then u else f k))) = (fun k => if k = c then true else decide (0 < f k)) := by
    funext k
    by_cases ek : k = c
    · rw [if_pos ek, if_pos ek]
      exact decide_eq_true (by omega)
    · rw [if_neg ek, if_neg ek]
  rw [e]
  by_cases hc : c < 54
  · have h := fb_ct_upd (fun k => decide (0 < f k)) true (i := c) (n := 54) hc
    rw [decide_eq_false (show ¬ 0 < f c by omega)] at h
    rw [if_pos hc]
    simpa using h
  · rw [if_neg hc, fb_ct_out _ _ (by omega)]
    rfl
theorem q_litT (KK : hm_k τ) (T : hx_t n b σ) (R : hm_r n b τ) (H : q_ok n b σ τ) (D : q_D G P σ τ) (hw : w < 8) (hi : i < 8) (Q : q_L G w L x y τ) : ∃ x' y' σ' τ', f_Tl_tellWord_j54 nm x y (nI i) σ = some (.inl (x', y', nI (i + 1), σ')) ∧ f_M_litTold (nI w) τ = some τ' ∧ hp_fr hx_FD σ σ' ∧ hp_fr (hm_FW w) τ τ' ∧ ((q_ok n b σ' τ' ∧ ∃ c u, c < hp_C G ∧ L c = 0 ∧ (u = 1 ∨ u = 2) ∧ q_L G w (fun k => if k = c then u else L k) x' y' τ') ∨ q_no σ' τ') := by
  obtain ⟨q1, q2, q3, q4⟩ := Q
  have hC := D.1.C
  obtain ⟨σ2, τ2, b1, b2, b3, b4, b5⟩ := q_want (j := 12) (v := 69) (W := hp_W 3) (by decide +kernel) (KK 3 (by omega)) (hp_WL (by omega)) (by omega) T R (.inl H)
  have T2 : hx_t n b σ2 := T.fr b3 (by unfold hx_FD; omega) (fun k => by unfold hx_FD; omega)
  have R2 : hm_r n b τ2 := R.fr b4 (by unfold hm_FD; omega) (fun k => by unfold hm_FD; omega)
  have D2 := D.fr0 b3 b4
  obtain ⟨xc, yc, σ3, τ3, c1, c2, c3, c4, c5, c6⟩ := q_cell D2 T2 R2 b5
  have T3 : hx_t n b σ3 := T2.fr c3 (by unfold hx_FD; omega) (fun k => by unfold hx_FD; omega)
  have R3 : hm_r n b τ3 := R2.fr c4 (by unfold hm_FD; omega) (fun k => by unfold hm_FD; omega)
  have GX : hp_fr hx_FD σ σ3 := b3.tr c3
  have GM : hp_fr hm_FD τ τ3 := b4.tr c4
  have K3 : hm_k τ3 := KK.fr GM (fun q f h => by have := h.1; omega)
  have mono : ∀ q f, hm_FD q f → hm_FW w q f := fun q f h => .inl h
  have dead : ∀ σa τa e v0 v1, q_no σa τa → hp_fr hx_FD σ σa → hp_fr hm_FD τ τa → ∃ x' y' σ' τ', f_Tl_tellWord_j105 nm x y (nI i) e σa = some (.inl (x', y', nI (i + 1), σ')) ∧ f_M_litTold_j43 v0 v1 τa = some τ' ∧ hp_fr hx_FD σ σ' ∧ hp_fr (hm_FW w) τ τ' ∧ ((q_ok n b σ' τ' ∧ ∃ c u, c < hp_C G ∧ L c = 0 ∧ (u = 1 ∨ u = 2) ∧ q_L G w (fun k => if k = c then u else L k) x' y' τ') ∨ q_no σ' τ') := by
    intro σa τa e v0 v1 g1 g2 g3
    obtain ⟨r1, r2⟩ := q_failN (f := 1) (p := σa.1 3 2) g1
    unfold f_Tl_tellWord_j105 f_M_litTold_j43
    rw [hx_word_no g1, Option.bind_some, hx_num_no r1, Option.bind_some, hm_asks_no g1.x.2, Option.bind_some, hm_num_no g1.x.2, Option.bind_some, if_neg g1.x.2]
    generalize f_Rd_fail 1 (σa.1 3 2) σa = σb at r1 r2 ⊢
    obtain ⟨s1, s2⟩ := q_failN (f := 1) (p := σb.1 3 2) r1
    dsimp only
    rw [if_neg (show ¬ (-1 : Int32) = 1 by decide), if_neg (show ¬ (-1 : Int32) = 2 by decide), nI_1]
    exact ⟨_, _, _, _, rfl, rfl, (g2.tr r2).tr s2, g3.mono mono, .inr s1⟩
  unfold f_Tl_tellWord_j54 f_M_litTold
  rw [b1, b2, Option.bind_some, Option.bind_some, c1, c2, Option.bind_some, Option.bind_some]
  dsimp only
  rcases c5 with c5 | c5
  · obtain ⟨z1, z2⟩ := c5.x
    obtain ⟨c, hc, rfl, rfl, e9⟩ := c6 z1
    have e54 : (54 * nI w + nI c : Int32) = nI (54 * w + c) := by rw [show (54 : Int32) = nI 54 from rfl, pk_mul, nI_add]
    have nb : hl_b (nI (54 * w + c)) 864 := by first | omega | (simp (disch := first | assumption | omega) only [↓hp_neg1, hp_l0, hp_l1, hp_l2, hp_l3, hp_l4, hp_l5, hp_l6, hp_l7, hp_l8, hp_l9, hp_l10, hp_l11, hp_l12, hp_l13, hp_l14, hp_l15, hp_l16, hp_l17, hp_l18, hp_l19, hp_l20, hp_l21, hp_l22, hp_l23, hp_l24, hp_l25, hp_l26, hp_l27, hp_l28, hp_l29, hp_l30, hp_l31, hp_l32, hp_l33, hp_l34, hp_l35, hp_l36, hp_l37, hp_l38, hp_l39, hp_l40, hp_l41, hp_l42, hp_l43, hp_l44, hp_l45, hp_l46, hp_l47, hp_l48, hp_l49, hp_l50, hp_l51, hp_l52, hp_l53, hp_l54, hp_l55, hp_l56, hp_l57, hp_l58, hp_l59, hp_l60, hp_l61, hp_l62, hp_l63, hp_l64, hp_l65, hp_l66, hp_l67, hp_l68, hp_l69, hp_l70, hp_l71, hp_l72, hp_l73, hp_l74, hp_l75, hp_l76, hp_l77, hp_l78, hp_l79, hp_l80, hp_l81, hp_l82, hp_l83, hp_l84, hp_l85, hp_l86, hp_l87, hp_l88, hp_l89, hp_l90, hp_l91, hp_l92, hp_l93, hp_l94, hp_l95, hp_l96, hp_l97, hp_l98, hp_l99, hp_l100, hp_l101, hp_l102, hp_l103, hp_l104, hp_l105, hp_l106, hp_l107, hp_l108, hp_l109, hp_l110, hp_l111, hp_l112, hp_l113, hp_l114, hp_l115, hp_l116, hp_l117, hp_l118, hp_l119, hp_l120, hp_l121, hp_l122, hp_l123, hp_l124, hp_l125, hp_l126, hp_l127, hp_l141, hp_l142, hp_l150, hp_l151, hp_l152, hp_l153, hp_l251, hp_l255, hp_l256, hp_l300, hp_l432, hp_l864, hp_l1000, hp_l1600, hp_l1700, hp_l2304, hp_l2916, hp_l3000, hp_l9999, hp_l10000, nI_add, pk_mul, nI_clamp, hl_lt, hl_le, hl_eq, hl_nIb, hl_nsub, hp_eqm, hp_meq, hp_ltm, hp_mlt, hp_lem, hp_mle, hp_addm, hp_meqm, hp_mlem, hp_withinE, hp_within0, if_pos, if_neg, Option.bind_some, hp_let, Sum.elim_inl, Sum.elim_inr, hp_s01, hp_s11, hp_s2, true_and, and_true, if_true, if_false, not_true_eq_false, not_false_eq_true, reduceCtorEq] <;> omega)
    have v79 : τ3.1 79 (54 * w + c) = nI (L c) := by
      rw [GM.i (by unfold hm_FD; omega)]
      exact q4 c (by omega)
    have hL := (q3 c).1
    have lam := q1.lamp q2 (show c < 54 by omega)
    rw [hx_failed0 z1, if_pos rfl, if_pos z2, e54, if_pos nb, nI_clamp (by omega), v79, lam]
    by_cases h0 : L c = 0
    · have l1 : ¬ decide (L c = 2) = true := by rw [h0]; decide
      have l2 : ¬ decide (L c = 1) = true := by rw [h0]; decide
      rw [if_neg l1, if_neg l2, if_pos rfl, if_pos (show nI (L c) ≤ 0 by rw [h0]; decide)]
      obtain ⟨σ4, τ4, d1, d2, d3, d4, d5⟩ := q_want (j := 13) (v := 70) (W := hp_W 4) (by decide +kernel) (K3 4 (by omega)) (hp_WL (by omega)) (by omega) T3 R3 (.inl c5)
      have T4 : hx_t n b σ4 := T3.fr d3 (by unfold hx_FD; omega) (fun k => by unfold hx_FD; omega)
      have R4 : hm_r n b τ4 := R3.fr d4 (by unfold hm_FD; omega) (fun k => by unfold hm_FD; omega)
      obtain ⟨xu, yu, σ5, τ5, f1, f2, f3, f4, f5, f6⟩ := q_number T4 R4 d5 1 2
      have GX5 : hp_fr hx_FD σ σ5 := (GX.tr d3).tr f3
      have GM5 : hp_fr hm_FD τ τ5 := (GM.tr d4).tr f4
      unfold f_Tl_tellWord_j105 f_M_litTold_j43
      rw [d1, d2, Option.bind_some, Option.bind_some, f1, f2, Option.bind_some, Option.bind_some]
      dsimp only
      rcases f5 with f5 | f5
      · obtain ⟨z3, z4⟩ := f5.x
        obtain ⟨rfl, g1, g2, ⟨u, g3, rfl⟩, -⟩ := f6 z3
        have hu : u = 1 ∨ u = 2 := by
          have a1 : ¬ u < 1 := fun e => g1 (nI_lt e (by decide))
          have a2 : ¬ 2 < u := fun e => g2 (nI_lt e (by omega))
          omega
        have H6 : q_ok n b σ5 (hl_si τ5 79 (54 * w + c) (nI u)) := f5.fr (fun f hf => rfl) (fun f hf => hp_sn (by omega))
        have FM6 : hp_fr (hm_FW w) τ (hl_si τ5 79 (54 * w + c) (nI u)) := (GM5.mono mono).si (.inr ⟨rfl, by omega, by omega⟩)
        have L1 : ∀ k, (if k = c then u else L k) ≤ 2 ∧ (hp_C G ≤ k → (if k = c then u else L k) = 0) := fun k => by
          by_cases e : k = c
          · rw [if_pos e]; exact ⟨by omega, fun z => by omega⟩
          · rw [if_neg e]; exact q3 k
        have L2 : ∀ k, k < 54 → (hl_si τ5 79 (54 * w + c) (nI u)).1 79 (54 * w + k) = nI (if k = c then u else L k) := fun k hk => by
          by_cases e : k = c
          · rw [if_pos e, e, hp_s01]
          · rw [if_neg e, hp_sn (by omega), GM5.i (by unfold hm_FD; omega)]
            exact q4 k hk
        rw [if_pos z4, e54, if_pos nb, nI_clamp (by omega), nI_1]
        rcases hu with rfl | rfl
        · rw [if_pos (show nI 1 = 1 from rfl)]
          refine ⟨_, _, _, _, rfl, rfl, GX5, FM6, .inl ⟨H6, c, 1, hc, h0, .inl rfl, (q1.or (hp_bs.bit (by omega))).cong (fun k hk => ?_), q2.cong (fun k hk => ?_), L1, L2⟩⟩
          · by_cases e : k = c
            · simp [e]
            · simp [e]
          · by_cases e : k = c
            · simp [e, h0]
            · simp [e]
        · rw [if_neg (show ¬ nI 2 = 1 by decide), if_pos (show nI 2 = 2 from rfl)]
          refine ⟨_, _, _, _, rfl, rfl, GX5, FM6, .inl ⟨H6, c, 2, hc, h0, .inr rfl, q1.cong (fun k hk => ?_), (q2.or (hp_bs.bit (by omega))).cong (fun k hk => ?_), L1, L2⟩⟩
          · by_cases e : k = c
            · simp [e, h0]
            · simp [e]
          · by_cases e : k = c
            · simp [e]
            · simp [e]
      · obtain ⟨z3, z4⟩ := f5.x
        rw [if_neg z4, nI_1]
        by_cases e1 : xu = 1
        · rw [if_pos e1]
          exact ⟨_, _, _, _, rfl, rfl, GX5, GM5.mono mono, .inr f5⟩
        · by_cases e2 : xu = 2
          · rw [if_neg e1, if_pos e2]
            exact ⟨_, _, _, _, rfl, rfl, GX5, GM5.mono mono, .inr f5⟩
          · rw [if_neg e1, if_neg e2]
            exact ⟨_, _, _, _, rfl, rfl, GX5, GM5.mono mono, .inr f5⟩
    · obtain ⟨r1, r2, r3⟩ := q_fail0 (σ := σ3) (τ := τ3) (f := 2) (p := σ3.1 3 6) z1 z2 (by decide)
      have n3 : ¬ nI (L c) ≤ 0 := by
        intro hh
        have := nI_lt (show 0 < L c by omega) (by omega)
        exact absurd hh (Int32.not_le.mpr this)
      have n4 : ¬ (if decide (L c = 2) = true then (2 : Int32) else if decide (L c = 1) = true then 1 else 0) = 0 := by
        have : L c = 1 ∨ L c = 2 := by omega
        rcases this with h | h <;> rw [h] <;> decide
      rw [if_neg n4, if_neg n3, ← e9]
      exact dead _ _ _ _ _ r1 (GX.tr r2) (GM.tr r3)
  · obtain ⟨z1, z2⟩ := c5.x
    rw [hx_failed1 z1, if_neg (show ¬ (1 : Int32) = 0 by decide), if_neg z2]
    exact dead _ _ _ _ _ c5 GX GM
end LIT
