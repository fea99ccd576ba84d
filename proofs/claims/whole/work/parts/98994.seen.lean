/-! questions: what is seen in a beat, both sides -/
section SEEN
variable {G P : hp_G} {σ τ σ' τ' υ : hl_M} {k j v N bb : Nat} {x y z : Int64}
theorem hp_g64 (x : Int64) {N : Nat} (hN : N ≤ 100) : (∃ j, j < N ∧ x = lN j ∧ x.toInt.toNat = j ∧ (0 ≤ x.toInt ∧ x.toInt < (N : Int)) ∧ f_M_isIn x 0 ((nI N - 1).toInt64) = 1 ∧ x.toInt32 = nI j ∧ (f_Math_max_JJJ (-1) (f_Math_min_JJJ x 1000000)).toInt32 = nI j) ∨ (¬ (0 ≤ x.toInt ∧ x.toInt < (N : Int)) ∧ f_M_isIn x 0 ((nI N - 1).toInt64) = 0 ∧ f_X_within (f_Math_max_JJJ (-1) (f_Math_min_JJJ x 1000000)).toInt32 (nI N) = 0) := by
  have m1 : (-1 : Int64).toInt = -1 := by decide
  have c0 : (0 : Int64).toInt = 0 := by decide
  have cm : (1000000 : Int64).toInt = 1000000 := by decide
  by_cases h : x < 0
  · right
    have hx : x.toInt < 0 := by rw [fa_lt64, c0] at h; exact h
    have n1 : ¬ (1000000 : Int64) < x := by rw [fa_lt64, cm]; omega
    have n2 : ¬ (-1 : Int64) < x := by rw [fa_lt64, m1]; omega
    refine ⟨by omega, ?_, ?_⟩
    · unfold f_M_isIn
      rw [if_pos h]
    · unfold f_Math_max_JJJ f_Math_min_JJJ
      rw [if_neg n1, if_neg n2]
      exact hp_withinN (by decide)
  · obtain ⟨k, hk, rfl⟩ := pk_lOf h
    have hx : (lN k).toInt = (k : Int) := pk_lT hk
    have n2 : (-1 : Int64) < lN k := by rw [fa_lt64, m1, hx]; omega
    have hin : f_M_isIn (lN k) 0 ((nI N - 1).toInt64) = if k < N then 1 else 0 := by
      unfold f_M_isIn
      rw [if_neg h]
      rcases Nat.eq_zero_or_pos N with rfl | hp
      · have : ((nI 0 - 1 : Int32)).toInt64 < lN k := by
          have e : ((nI 0 - 1 : Int32)).toInt64 = -1 := by decide
          rw [e]; exact n2
        rw [if_pos this, if_neg (by omega)]
      · have e : (nI N - 1 : Int32) = nI (N - 1) := hl_nsub (a := N) (b := 1) hp
        rw [e, nI_l (by omega)]
        have q : lN (N - 1) < lN k ↔ N - 1 < k := pk_lLT (by omega) hk
        by_cases c : k < N
        · rw [if_neg (fun z => by have := q.mp z; omega), if_pos c]
        · rw [if_pos (q.mpr (by omega)), if_neg c]
    by_cases c : k < N
    · left
      have n1 : ¬ (1000000 : Int64) < lN k := by rw [fa_lt64, cm, hx]; omega
      refine ⟨k, c, rfl, by rw [hx]; rfl, by rw [hx]; omega, by rw [hin, if_pos c], lN_i k, ?_⟩
      unfold f_Math_max_JJJ f_Math_min_JJJ
      rw [if_neg n1, if_pos n2]
      exact lN_i k
    · right
      refine ⟨by rw [hx]; omega, by rw [hin, if_neg c], ?_⟩
      unfold f_Math_max_JJJ f_Math_min_JJJ
      by_cases c2 : (1000000 : Int64) < lN k
      · rw [if_pos c2, if_pos (by decide), show (1000000 : Int64).toInt32 = nI 1000000 from by decide]
        exact hp_withinF (by omega) (by omega)
      · have hk2 : k ≤ 1000000 := by rw [fa_lt64, cm, hx] at c2; omega
        rw [if_neg c2, if_pos n2, lN_i]
        exact hp_withinF (by omega) (by omega)
/-- one beat: what parts tell -/
theorem q_beatV (H : hx G P σ) (K : hm G P τ) (O : hm_o 1000 1000 0 τ) (hb : bb < 100) (V : hx_v (hp_li G P bb 1000 1000 0) σ) : ∃ (pv : Nat → Nat) (ov : Nat → Int64 → Nat), (∀ k, pv k < 1000) ∧ (∀ k x, ov k x < 1000) ∧ (∀ σ', hx G P σ' → hx_v (hp_li G P bb 1000 1000 0) σ' → (∀ k, k < 4 → f_Qu_seen (hq_xc (40 + k)) (nI bb) σ' = some (lN (pv k))) ∧ ∀ k x, k < 3 → f_Qu_found (hq_xc (60 + k)) x (nI bb) σ' = some (lN (ov k x))) ∧ (∀ τ', hm G P τ' → hm_o 1000 1000 0 τ' → (∀ k, k < 4 → f_M_qPartOf (nI k) (nI bb) τ' = some (lN (pv k))) ∧ ∀ k x, k < 3 → f_M_qOf (nI k) x (nI bb) τ' = some (lN (ov k x))) := by
  have hnp := H.wg.np
  have hnw := H.wg.nw
  have hC := H.wg.C
  have lit : ∀ τ', hm G P τ' → hm_o 1000 1000 0 τ' → hm_lit G (hp_li G P bb 1000 1000 0) bb τ' := fun τ' K' O' => hm_lit_of K' O' hb (.inl rfl)
  have L := lit τ K O
  have hf : ∀ c, hp_li G P bb 1000 1000 0 c ≤ 2 := L.2.1
  have see : hp_see G 0 (hp_li G P bb 1000 1000 0) = hp_li G P bb 1000 1000 0 := by
    funext c
    unfold hp_see
    rw [if_pos rfl]
  obtain ⟨rc, c1, c2, c3⟩ := q_clashIn H K hb
  obtain ⟨rk, k0, k1, k2⟩ := q_litMany H K L V
  obtain ⟨rr, r1, r2, r3⟩ := q_wordRead (u := 0) H K (by omega) L (by rw [see]; exact V)
  have cX : ∀ σ', hx G P σ' → f_Wk_clashIn (nI bb) σ' = some rc := fun σ' H' => by
    obtain ⟨r', a1, a2, _⟩ := q_clashIn H' K hb
    rw [a1]; rw [c2] at a2; exact a2.symm
  have cM : ∀ τ', hm G P τ' → f_M_clashIn (nI bb) τ' = some rc := fun τ' K' => by
    obtain ⟨r', a1, a2, _⟩ := q_clashIn H K' hb
    rw [a2]; rw [c1] at a1; exact a1.symm
  have kX : ∀ σ', hx G P σ' → hx_v (hp_li G P bb 1000 1000 0) σ' → f_Vw_litCells σ' = nI rk := fun σ' H' V' => by
    obtain ⟨r', a0, a1, a2⟩ := q_litMany H' K L V'
    rw [a1]; rw [k2] at a2; exact (Option.some.inj a2).symm
  have kM : ∀ τ', hm G P τ' → hm_o 1000 1000 0 τ' → f_M_litMany (nI bb) τ' = some (nI rk) := fun τ' K' O' => by
    obtain ⟨r', a0, a1, a2⟩ := q_litMany H K' (lit τ' K' O') V
    rw [a2]; rw [k1] at a1; rw [a1]
  have rX : ∀ σ', hx G P σ' → hx_v (hp_li G P bb 1000 1000 0) σ' → f_Vw_wordRead σ' = some rr := fun σ' H' V' => by
    obtain ⟨r', a1, a2, _⟩ := q_wordRead (u := 0) H' K (by omega) L (by rw [see]; exact V')
    rw [a1]; rw [r2] at a2; exact a2.symm
  have rM : ∀ τ', hm G P τ' → hm_o 1000 1000 0 τ' → f_M_readIn (nI bb) 0 τ' = some rr := fun τ' K' O' => by
    obtain ⟨r', a1, a2, _⟩ := q_wordRead (u := 0) H K' (by omega) (lit τ' K' O') (by rw [see]; exact V)
    have a2' : f_M_readIn (nI bb) 0 τ' = some r' := a2
    rw [a2']; rw [r1] at a1; exact a1.symm
  have hrd : ∃ q, q < 1000 ∧ (rr + 1).toInt64 = lN q ∧ rr.toInt64 + 1 = lN q := by
    rcases r3 with rfl | ⟨w, hw, rfl⟩
    · exact ⟨0, by omega, by decide, by decide⟩
    · exact ⟨w + 1, by omega, by rw [nI_1, nI_l (by omega)], by rw [nI_l (by omega), lN_1]⟩
  obtain ⟨q, hq, q1, q2⟩ := hrd
  have farb : ∀ w, hp_far G (hp_li G P bb 1000 1000 0) w ≤ 54 := fun w => fb_ct_le _ _
  refine ⟨fun k => if k = 0 then bb else if k = 1 then (if rc = -1 then 0 else 1) else if k = 2 then rk else q, fun k x => if k = 0 then (if 0 ≤ x.toInt ∧ x.toInt < (G 0 2 : Int) then hp_wh G P x.toInt.toNat bb else 99) else if k = 1 then (if 0 ≤ x.toInt ∧ x.toInt < (G 0 3 : Int) then hp_far G (hp_li G P bb 1000 1000 0) x.toInt.toNat else 99) else (if 0 ≤ x.toInt ∧ x.toInt < (hp_C G : Int) then hp_li G P bb 1000 1000 0 x.toInt.toNat else 0), ?_, ?_, fun σ' H' V' => ⟨fun k hk => ?_, fun k x hk => ?_⟩, fun τ' K' O' => ⟨fun k hk => ?_, fun k x hk => ?_⟩⟩
  · intro k
    dsimp only
    split
    · omega
    · split
      · split <;> omega
      · split <;> omega
  · intro k x
    dsimp only
    split
    · split
      · rename_i h
        have := hp_wh_lt H.wg (p := x.toInt.toNat) (by omega) bb (P := P)
        omega
      · omega
    · split
      · split
        · have := farb x.toInt.toNat; omega
        · omega
      · split
        · have := hf x.toInt.toNat; omega
        · omega
  · have : k = 0 ∨ k = 1 ∨ k = 2 ∨ k = 3 := by omega
    unfold f_Qu_seen
    rcases this with rfl | rfl | rfl | rfl
    · rw [show hq_xc (40 + 0) = -1 from by decide, if_neg (by decide), if_neg (by decide), if_pos rfl, nI_l (by omega)]; rfl
    · rw [show hq_xc (40 + 1) = -2 from by decide, if_neg (by decide), if_pos rfl, cX σ' H', Option.bind_some]
      by_cases e : rc = -1
      · rw [if_pos e]
        show _ = some (lN (if rc = -1 then 0 else 1))
        rw [if_pos e]; rfl
      · rw [if_neg e]
        show _ = some (lN (if rc = -1 then 0 else 1))
        rw [if_neg e]; rfl
    · rw [show hq_xc (40 + 2) = -3 from by decide, if_pos rfl, kX σ' H' V', nI_l (by omega)]; rfl
    · rw [show hq_xc (40 + 3) = -4 from by decide, if_neg (by decide), if_neg (by decide), if_neg (by decide), rX σ' H' V', Option.bind_some, q1]; rfl
  · have : k = 0 ∨ k = 1 ∨ k = 2 := by omega
    unfold f_Qu_found
    rcases this with rfl | rfl | rfl
    · show _ = some (lN (if 0 ≤ x.toInt ∧ x.toInt < (G 0 2 : Int) then hp_wh G P x.toInt.toNat bb else 99))
      rw [show hq_xc (60 + 0) = -5 from by decide, if_neg (by decide), if_neg (by decide), if_pos rfl, H'.np]
      rcases hp_g64 x (N := G 0 2) (by omega) with ⟨j, hj, rfl, g1, g2, g3, g4, g5⟩ | ⟨g2, g3, g4⟩
      · have hl := hp_wh_lt H.wg (p := j) hj bb (P := P)
        rw [g5, hp_withinT hj (by omega), if_neg (by decide), hx_cell H' hj hb, Option.bind_some, if_pos g2, g1, nI_l (by omega)]
      · rw [g4, if_pos rfl, if_neg g2]; rfl
    · show _ = some (lN (if 0 ≤ x.toInt ∧ x.toInt < (G 0 3 : Int) then hp_far G (hp_li G P bb 1000 1000 0) x.toInt.toNat else 99))
      rw [show hq_xc (60 + 1) = -6 from by decide, if_neg (by decide), if_pos rfl, H'.nw]
      rcases hp_g64 x (N := G 0 3) (by omega) with ⟨j, hj, rfl, g1, g2, g3, g4, g5⟩ | ⟨g2, g3, g4⟩
      · have hl := farb j
        rw [g5, hp_withinT hj (by omega), if_neg (by decide), hx_far H' V' hf hj, Option.bind_some, if_pos g2, g1, nI_l (by omega)]
      · rw [g4, if_pos rfl, if_neg g2]; rfl
    · show _ = some (lN (if 0 ≤ x.toInt ∧ x.toInt < (hp_C G : Int) then hp_li G P bb 1000 1000 0 x.toInt.toNat else 0))
      rw [show hq_xc (60 + 2) = -7 from by decide, if_pos rfl]
      rcases hp_g64 x (N := hp_C G) (by omega) with ⟨j, hj, rfl, g1, g2, g3, g4, g5⟩ | ⟨g2, g3, g4⟩
      · have hl := hf j
        rw [g5, hx_lampOn H' V' hf hj, if_pos g2, g1, nI_l (by omega)]
      · unfold f_Vw_lampOn
        rw [hx_cells H', g4, if_pos rfl, if_neg g2]; rfl
  · have : k = 0 ∨ k = 1 ∨ k = 2 ∨ k = 3 := by omega
    unfold f_M_qPartOf
    rcases this with rfl | rfl | rfl | rfl
    · rw [if_pos (show nI 0 = (0 : Int32) from rfl), nI_l (by omega)]; rfl
    · rw [if_neg (by decide), if_pos (show nI 1 = (1 : Int32) from rfl), cM τ' K', Option.bind_some]
      by_cases e : rc = -1
      · rw [if_pos e]
        show _ = some (lN (if rc = -1 then 0 else 1))
        rw [if_pos e]; rfl
      · rw [if_neg e]
        show _ = some (lN (if rc = -1 then 0 else 1))
        rw [if_neg e]; rfl
    · rw [if_neg (by decide), if_neg (by decide), if_pos (show nI 2 = (2 : Int32) from rfl), kM τ' K' O', Option.bind_some, nI_l (by omega)]; rfl
    · rw [if_neg (by decide), if_neg (by decide), if_neg (by decide), rM τ' K' O', Option.bind_some, q2]; rfl
  · have : k = 0 ∨ k = 1 ∨ k = 2 := by omega
    unfold f_M_qOf
    rcases this with rfl | rfl | rfl
    · show _ = some (lN (if 0 ≤ x.toInt ∧ x.toInt < (G 0 2 : Int) then hp_wh G P x.toInt.toNat bb else 99))
      rw [if_pos (show nI 0 = (0 : Int32) from rfl), hm_personMany K', Option.bind_some]
      rcases hp_g64 x (N := G 0 2) (by omega) with ⟨j, hj, rfl, g1, g2, g3, g4, g5⟩ | ⟨g2, g3, g4⟩
      · have hl := hp_wh_lt H.wg (p := j) hj bb (P := P)
        rw [g3, if_neg (by decide), g4, hm_whereIn K' hj hb, Option.bind_some, if_pos g2, g1, nI_l (by omega)]
      · rw [g3, if_pos rfl, if_neg g2]; rfl
    · show _ = some (lN (if 0 ≤ x.toInt ∧ x.toInt < (G 0 3 : Int) then hp_far G (hp_li G P bb 1000 1000 0) x.toInt.toNat else 99))
      rw [if_neg (by decide), if_pos (show nI 1 = (1 : Int32) from rfl), hm_wordMany K', Option.bind_some]
      rcases hp_g64 x (N := G 0 3) (by omega) with ⟨j, hj, rfl, g1, g2, g3, g4, g5⟩ | ⟨g2, g3, g4⟩
      · have hl := farb j
        have hfar : f_M_farFrom (nI bb) (nI j) 0 τ' = some (nI (hp_far G (hp_li G P bb 1000 1000 0) j)) := by
          have := hm_far2 K' (u := 0) (by omega) (lit τ' K' O') hj
          rw [see] at this
          exact this
        rw [g3, if_neg (by decide), g4, hfar, Option.bind_some, if_pos g2, g1, nI_l (by omega)]
      · rw [g3, if_pos rfl, if_neg g2]; rfl
    · show _ = some (lN (if 0 ≤ x.toInt ∧ x.toInt < (hp_C G : Int) then hp_li G P bb 1000 1000 0 x.toInt.toNat else 0))
      rw [if_neg (by decide), if_neg (by decide), hm_cells K']
      rcases hp_g64 x (N := hp_C G) (by omega) with ⟨j, hj, rfl, g1, g2, g3, g4, g5⟩ | ⟨g2, g3, g4⟩
      · have hl := hf j
        rw [g3, if_neg (by decide), g4, (lit τ' K' O').1 j hj, Option.bind_some, if_pos g2, g1, nI_l (by omega)]
      · rw [g3, if_pos rfl, if_neg g2]; rfl
end SEEN
