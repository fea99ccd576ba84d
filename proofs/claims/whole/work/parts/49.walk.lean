/-! the law from its entry, given that its function answers 1 -/
def hl_adr (h0 b : Nat) (sa sv : Nat → Nat) (ta td : Nat) (q : Nat) : Nat := if q < 200 then h0 + q else if q < 300 then sa (q - 200) else if q < 400 then sv (q - 300) else if q = 400 then ta else if q = 401 then td else b
theorem hl_adr_a {h0 b : Nat} {sa sv : Nat → Nat} {ta td j : Nat} (h : j < hl_nS) : hl_adr h0 b sa sv ta td (200 + j) = sa j := by
  have hn : hl_nS = 38 := rfl
  unfold hl_adr
  rw [if_neg (by omega), if_pos (by omega), Nat.add_sub_cancel_left]
theorem hl_adr_v {h0 b : Nat} {sa sv : Nat → Nat} {ta td j : Nat} (h : j < hl_nS) : hl_adr h0 b sa sv ta td (300 + j) = sv j := by
  have hn : hl_nS = 38 := rfl
  unfold hl_adr
  rw [if_neg (by omega), if_neg (by omega), if_pos (by omega), Nat.add_sub_cancel_left]
theorem hl_ROof {X : hl_X} {b : Nat} {s : State} {g : hl_G} (hts : ∀ w ∈ lw_tbl, w.before #[Value.ref b] s = true) (hgv : (Cond.and given_1 narrow_1).before #[Value.ref b] s = true) (hX : va_X b X.1 X.2 s s.heap) (hX3 : X.1 < 2 ^ 31) (hbl : b < s.heap.size) (hA : ∀ a : Nat, a < s.heap.size → ¬ hl_A g a)
    {sa sv : Nat → Nat} {ta td : Nat} {fv : Value}
    (h1 : ∀ j, j < hl_nS → vk_R (hl_str.getD j ("", 0, "", [])).1 (hl_str.getD j ("", 0, "", [])).2.1 (hl_str.getD j ("", 0, "", [])).2.2.1 (sa j) s ∧ va_O "java/lang/String" (sa j) (hl_A g) s s.heap ∧ va_OF "java/lang/String" "coder" "B" (.int 0) (sa j) (hl_A g) s s.heap ∧ va_OF "java/lang/String" "value" "[B" (.ref (sv j)) (sa j) (hl_A g) s s.heap ∧ va_T .byte (sv j) (hl_sB j).length (fun i => .int ((hl_sB j).getD i 0)) (hl_A g) s s.heap)
    (h2 : va_T .int ta 5 (fun j => .int ([0, 1, 0, -1, 0].getD j 0)) (hl_A g) s s.heap) (h3 : va_Z "HymnLamps$Ground" "ACROSS" "[I" (.ref ta) (hl_A g) s s.heap) (h4 : va_T .int td 5 (fun j => .int ([-1, 0, 1, 0, 0].getD j 0)) (hl_A g) s s.heap) (h5 : va_Z "HymnLamps$Ground" "DOWN" "[I" (.ref td) (hl_A g) s s.heap)
    (h6 : va_Z "java/lang/String" "COMPACT_STRINGS" "Z" (.int 1) (hl_A g) s s.heap) (h7 : va_Z "jdk/internal/util/Preconditions" "SIOOBE_FORMATTER" "Ljava/util/function/BiFunction;" g.2.2.2 (hl_A g) s s.heap) (h8 : g.2.2.2.category = 1)
    (g1 : ∀ j, j < hl_nS → g.1 (200 + j) = sa j) (g2 : ∀ j, j < hl_nS → g.1 (300 + j) = sv j) (g3 : g.1 400 = ta) (g4 : g.1 401 = td) (g5 : g.1 500 = b) : hl_RO X g s s.heap := by
  refine ⟨h8, fun j hj => ?_, fun q ty N f hq => ?_, by rw [g3]; exact h3, by rw [g4]; exact h5, h6, h7, fun o i x h hw => va_Nw.of rfl (hts _ (hl_tb hw))⟩
  · obtain ⟨a, b, c, d, e⟩ := h1 j hj
    rw [g1 j hj, g2 j hj]
    exact ⟨a, b, c, d⟩
  · unfold hl_ra at hq
    split at hq
    · next e => cases hq; rw [e, g3]; exact h2
    · split at hq
      · next e => cases hq; rw [e, g4]; exact h4
      · split at hq
        · next e =>
          cases hq
          rw [e, g5]
          obtain ⟨scr, k1, k2, k3, k4, k5⟩ := hX
          exact ⟨scr, k1, k2, k3, Nat.le_of_eq k4.symm, by rw [k4], k5, hA _ hbl⟩
        · split at hq
          · next e =>
            simp only [Option.some.injEq, Prod.mk.injEq] at hq
            obtain ⟨rfl, rfl, rfl⟩ := hq
            obtain ⟨j, rfl⟩ : ∃ j, q = 300 + j := ⟨q - 300, by omega⟩
            rw [Nat.add_sub_cancel_left]
            have hj : j < hl_nS := by omega
            rw [g2 j hj]
            exact (h1 j hj).2.2.2.2
          · cases hq
set_option maxHeartbeats 2000000 in
theorem hl_start {p : Program} {e : Env} {s : State} {m : MethodId} {below : List Frame} {meth : Method} {c : Code} (l : Launch) {b L : Nat} {xs : Nat → Int32} (hL : L ≤ 3072) (C0 : lw_At p s m meth c b L xs) {τ : hl_M} (hf : f_Law_law (L, xs) hl_s0 = some (1, τ)) :
    W p l e room_1 s m #[Value.ref b] below meth c s.heap [] 0 0 (lw_Z below #[Value.ref b] s) (entryFrame m ([Value.ref b] : List Value).toArray 4) := by
  obtain ⟨hx, hb, hr, hml, hown, hts, hX, hbl, hlk, hgv⟩ := C0
  have htT : ∀ w ∈ hl_T, w.before #[Value.ref b] s = true := fun w hw => hts w (hl_good hw)
  have haw : hl_aow s := hl_ao (hts _ (hl_tb hl_awt))
  obtain ⟨DD, hDD⟩ := hl_known htT
  obtain ⟨ca, hca⟩ := hl_tys htT haw
  have hK : va_K DD hl_cl (hl_tyc ca) s := ⟨hDD, hca⟩
  have hnw : hl_nw s := ⟨fun o i x h hw => va_Nw.of rfl (hts _ (hl_tb hw)), haw⟩
  have hC : hl_C 1000 y295 p room_1 s m #[Value.ref b] c := ⟨hx, hb, hml, hown, htT, by decide, by decide⟩
  have hC6 : hl_C 6 y295 p room_1 s m #[Value.ref b] c := ⟨hx, hb, hml, hown, htT, by decide, by decide⟩
  have hI0 : hl_bI DD ca s.heap.size 0 0 [] s s.heap [] 0 0 := ⟨rfl, fun k q hk => by simp [hl_bw] at hk, hK, va_S.rf, hnw, Nat.le_refl _, Nat.le_refl _, rfl, rfl, rfl⟩
  have hsz := hl_siz
  rw [lg_entry_eq]
  have hl0 : lv_has ((lg_sl [Value.ref b] ++ List.replicate (4 - (lg_sl [Value.ref b]).length) Slot.unset).toArray) 4 [(0, Value.ref b)] := lv_entry [Value.ref b] (n := 4) (by show 1 ≤ 4; decide)
  generalize ((lg_sl [Value.ref b] ++ List.replicate (4 - (lg_sl [Value.ref b]).length) Slot.unset).toArray) = la0 at hl0
  have hm1 := hl_bev_mono _ _ _ _ _ _ _ _ hl_ev1
  have hm2 := hl_bev_mono _ _ _ _ _ _ _ _ hl_ev2
  have hlen2 := hl_len2
  have hlen1 := hl_len1
  refine hl_b1_obj (n0 := 0) (z0 := 0) (cs := []) (z := y295) (op := 0) (st := []) hC hI0 (hl_dg 0 hl_lda rfl).1 hl_new0 (by decide) (by decide) fun H1 locs1 cells1 slots1 hI1 => ?_
  refine lv_dup hx hb (hl_dg 1 hl_lda rfl).1 rfl ?_
  refine hl_bcall (Y := hl_bY) (na := hl_bna) (D := 5) (zz := 1) (yz := y295) (st := [.ref 0, .ref 0]) (cs1 := hl_c1) (csF := hl_c1) hC6 hI1 hl0.1 (hl_dg 2 hl_lda rfl).1 (Or.inl hl_ml1) rfl hl_bi1 hl_bz1 rfl (by decide) (by decide) (by decide) rfl rfl hm1 ⟨Nat.le_refl _, Nat.le_refl _⟩ (by rw [hlen1]; decide) (by decide +kernel)
    (fun p e s m args below meth c la Q hC' hin' hI' hL' hret' => hl_bev_ok hl_bcs_ok 200 5 1 0 _ [] _ _ hl_ev1 _ _ p e _ s m args below meth c s.heap [] 0 0 Q la hC' hin' hI' hL' (Nat.le_refl _) (Nat.le_refl _) hret') fun H2 locs2 cells2 slots2 hI2 => ?_
  refine lv_astore_n (i := 1) (nL := 4) (lv' := [(1, .ref (s.heap.size + 0)), (0, .ref b)]) hx hb (hl_dg 3 hl_lda rfl).1 rfl hl0 (by decide) rfl fun la1 hl1 => ?_
  refine hl_b1_obj (n0 := 0) (z0 := 0) (cs := hl_c1) (z := y295) (op := 11) (st := []) hC hI2 (hl_dg 4 hl_lda rfl).1 hl_new11 (Nat.le_trans (Nat.sub_le _ _) (Nat.le_trans hm2.1 (by rw [hlen2]; decide))) (Nat.le_trans (Nat.sub_le _ _) (Nat.le_trans hm2.2 (Nat.le_trans hsz (by decide)))) fun H3 locs3 cells3 slots3 hI3 => ?_
  refine lv_dup hx hb (hl_dg 5 hl_lda rfl).1 rfl ?_
  rw [hlen1]
  refine hl_bcall (Y := hl_bY) (na := hl_bna) (D := 5) (zz := 12) (yz := y295) (st := [.ref 64, .ref 64]) (cs1 := hl_c1 ++ hl_c2) (csF := hl_c1 ++ hl_c2) hC6 hI3 hl1.1 (hl_dg 6 hl_lda rfl).1 (Or.inl hl_ml2) rfl hl_bi12 hl_bz12 rfl (by decide) (by decide) (by decide) rfl rfl hm2 ⟨Nat.le_refl _, Nat.le_refl _⟩ (by rw [hlen2]; decide) (Nat.le_trans (Nat.sub_le _ _) (Nat.le_trans hsz (by decide)))
    (fun p e s m args below meth c la Q hC' hin' hI' hL' hret' => hl_bev_ok hl_bcs_ok 700 5 12 0 _ [] _ _ hl_ev2 _ _ p e _ s m args below meth c s.heap [] 0 0 Q la hC' hin' hI' hL' (Nat.le_refl _) (Nat.le_refl _) hret') fun H4 locs4 cells4 slots4 hI4 => ?_
  refine lv_astore_n (i := 2) (nL := 4) (lv' := [(2, .ref (s.heap.size + 64)), (1, .ref (s.heap.size + 0)), (0, .ref b)]) hx hb (hl_dg 7 hl_lda rfl).1 rfl hl1 (by decide) rfl fun la2 hl2 => ?_
  obtain ⟨i1, i2, i3, i4, i5, i6, i7, i8, i9, i10⟩ := hI4
  have hA0 : ∀ a : Nat, a < s.heap.size → ¬ (∃ q, q < hl_n ∧ a = s.heap.size + q) := fun a ha h => by
    obtain ⟨q, -, rfl⟩ := h
    omega
  have hgw := hl_gof hgv
  have hstr : ∀ j : Nat, ∃ q : Nat × Nat, j < hl_nS → vk_R (hl_str.getD j ("", 0, "", [])).1 (hl_str.getD j ("", 0, "", [])).2.1 (hl_str.getD j ("", 0, "", [])).2.2.1 q.1 s ∧ va_O "java/lang/String" q.1 (fun a => ∃ q, q < hl_n ∧ a = s.heap.size + q) s s.heap ∧ va_OF "java/lang/String" "coder" "B" (.int 0) q.1 (fun a => ∃ q, q < hl_n ∧ a = s.heap.size + q) s s.heap ∧ va_OF "java/lang/String" "value" "[B" (.ref q.2) q.1 (fun a => ∃ q, q < hl_n ∧ a = s.heap.size + q) s s.heap ∧ va_T .byte q.2 (hl_sB j).length (fun i => .int ((hl_sB j).getD i 0)) (fun a => ∃ q, q < hl_n ∧ a = s.heap.size + q) s s.heap := by
    intro j
    by_cases hj : j < hl_nS
    · have hlen : hl_str.length = hl_nS := by decide +kernel
      have hall : hl_str.all (fun q => Nat.blt q.2.2.2.length 1000) = true := by decide +kernel
      have hin : hl_str.getD j ("", 0, "", []) ∈ hl_str := by
        rw [List.getD_eq_getElem?_getD, List.getElem?_eq_getElem (by omega)]
        exact List.getElem_mem _
      obtain ⟨a, t, h⟩ := hl_gstr hts hgw hA0 hin (Nat.blt_eq.mp (List.all_eq_true.mp hall _ hin))
      exact ⟨(a, t), fun _ => h⟩
    · exact ⟨(0, 0), fun h => absurd h hj⟩
  obtain ⟨ad, had⟩ := Classical.axiomOfChoice hstr
  obtain ⟨ta, hta1, hta2⟩ := hl_gtab (n := "ACROSS") (l := [0, 1, 0, -1, 0]) hts (fun w hw => hgw w (List.mem_cons_of_mem _ (List.mem_cons_of_mem _ (List.mem_append_left _ hw)))) hl_gzA hA0
  obtain ⟨td, htd1, htd2⟩ := hl_gtab (n := "DOWN") (l := [-1, 0, 1, 0, 0]) hts (fun w hw => hgw w (List.mem_cons_of_mem _ (List.mem_cons_of_mem _ (List.mem_append_right _ (List.mem_append_left _ hw))))) hl_gzD hA0
  have hcs := va_Zof (hts _ (hl_tb hl_gzC)) (hts _ (hl_tb hl_giS)) (va_eqt (hgw _ List.mem_cons_self)) hA0
  obtain ⟨fv, hfv, hfr⟩ := Cond.isRef_spec (hgw _ (List.mem_cons_of_mem _ List.mem_cons_self))
  have hfo := va_Zof (hts _ (hl_tb hl_gzF)) (hts _ (hl_tb hl_giP)) hfv hA0
  have hfc : fv.category = 1 := by cases fv <;> first | rfl | cases hfr
  generalize hg : ((hl_adr s.heap.size b (fun j => (ad j).1) (fun j => (ad j).2) ta td, DD, ca, fv) : hl_G) = g
  have g0 : ∀ q, q < 200 → g.1 q = s.heap.size + q := fun q hq => by rw [← hg]; exact if_pos hq
  have hnS : hl_nS = 38 := rfl
  have hn : hl_n = 114 := rfl
  have eg : g.1 = hl_adr s.heap.size b (fun j => (ad j).1) (fun j => (ad j).2) ta td := by rw [← hg]
  have g1 : ∀ j, j < hl_nS → g.1 (200 + j) = (ad j).1 := fun j hj => by
    have h := hl_adr_a (h0 := s.heap.size) (b := b) (sa := fun j => (ad j).1) (sv := fun j => (ad j).2) (ta := ta) (td := td) hj
    rw [eg, h]
  have g2 : ∀ j, j < hl_nS → g.1 (300 + j) = (ad j).2 := fun j hj => by
    have h := hl_adr_v (h0 := s.heap.size) (b := b) (sa := fun j => (ad j).1) (sv := fun j => (ad j).2) (ta := ta) (td := td) hj
    rw [eg, h]
  have g3 : g.1 400 = ta := by rw [← hg]; rfl
  have g4 : g.1 401 = td := by rw [← hg]; rfl
  have g5 : g.1 500 = b := by rw [← hg]; rfl
  have e1 : g.2.1 = DD := by rw [← hg]
  have e2 : g.2.2.1 = ca := by rw [← hg]
  have e3 : g.2.2.2 = fv := by rw [← hg]
  have hAe : hl_A g = fun a => ∃ q, q < hl_n ∧ a = s.heap.size + q := by
    funext a
    apply propext
    constructor
    · rintro ⟨q, hq, rfl⟩
      exact ⟨q, hq, g0 q (by omega)⟩
    · rintro ⟨q, hq, rfl⟩
      exact ⟨q, hq, (g0 q (by omega)).symm⟩
  have hAge : ∀ a, hl_A g a → s.heap.size ≤ a := fun a h => by
    rw [hAe] at h
    obtain ⟨q, -, rfl⟩ := h
    omega
  have hRO : hl_RO (L, xs) g s s.heap := hl_ROof (sa := fun j => (ad j).1) (sv := fun j => (ad j).2) (ta := ta) (td := td) (fv := fv) hts hgv hX (by show L < 2 ^ 31; omega) hbl (by rw [hAe]; exact hA0) (fun j hj => by rw [hAe]; exact had j hj) (by rw [hAe]; exact hta1) (by rw [hAe]; exact hta2) (by rw [hAe]; exact htd1) (by rw [hAe]; exact htd2) (by rw [hAe]; exact hcs) (by rw [hAe, e3]; exact hfo) (by rw [e3]; exact hfc) g1 g2 g3 g4 g5
  refine va_forget (fun q hq => i4.2.2 q hq) ?_
  have hP : va_P g.2.1 hl_cl (hl_ws g hl_s0) H4 := by
    rw [e1]
    exact hl_tie_all g0 e2 i2
  have hK2 : va_K g.2.1 hl_cl (hl_ty g) s := by
    show va_K g.2.1 hl_cl (hl_tyc g.2.2.1) s
    rw [e1, e2]
    exact hK
  have hD : va_D (hl_A g) (hl_ws g hl_s0) := hl_ws_ref.mpr (fun i j hi hj h => by
    rw [g0 i (by omega), g0 j (by omega)] at h
    omega)
  have hS : va_S (hl_A g) s.heap H4 [] := ⟨i4.1, fun q h1 h2 => i4.2.1 q h1 (by omega), fun q hq => by cases hq⟩
  refine p_Law_law (X := (L, xs)) 951 hl_s0 hf g p l e room_1 s m _ below meth c H4 [] cells4 slots4 _ la2 hC ⟨hP, hK2, hD, hS, hRO, ?_, ?_⟩ ?_ ?_
  · rw [i8, hlen2]; decide
  · rw [i9]; exact Nat.le_trans (Nat.sub_le _ _) (Nat.le_trans hsz (by decide))
  · show lv_has la2 4 [(2, .ref (g.1 64)), (1, .ref (g.1 0)), (0, .ref (g.1 500))]
    rw [g0 64 (by decide), g0 0 (by decide), g5]
    exact hl2
  · intro pc' st' H' locs' la' hrt hI'
    rcases hrt with ⟨h1, -⟩ | ⟨z, h1, -⟩ | ⟨z, ty, h1, h0, h2, h3, h4⟩
    · cases h1
    · cases h1
    · cases h1
      subst h3
      refine va_forget (fun q hq => hAge _ (hI'.2.2.2.1.2.2 q hq)) ?_
      refine W.widen hI'.2.2.2.2.2.1 hI'.2.2.2.2.2.2 ?_
      refine hl_lawret hx hb hr hlk ?_ h2
      have h5 : (1 : Int32) = vp_nar .boolean z := by
        have := Option.some.inj h4
        exact Value.int.inj this
      show Value.int (vp_nar .boolean z) = _
      rw [← h5]
