/-! the evaluator of constructors is sound -/
theorem hl_bz_rep {n k : Nat} : hl_bz (List.replicate n (.inr (100, k, []))) = n * k := by
  induction n with
  | zero => simp [hl_bz]
  | succ n ih => simp [List.replicate_succ, hl_bz, ih, hl_sz, Nat.succ_mul, Nat.add_comm]
theorem hl_b1_mono {i : Instr} {op pc : Nat} {ls : List (Nat × Value)} {st : List Value} {cs : List hl_bc} {r : hl_bS} (h : hl_b1 i op pc ls st cs = some r) : r.2.1 = ls ∧ cs.length ≤ r.2.2.2.length ∧ hl_bz cs ≤ hl_bz r.2.2.2 := by
  unfold hl_b1 at h
  split at h
  · split at h
    · cases h; exact ⟨rfl, Nat.le_refl _, Nat.le_refl _⟩
    · cases h
  · split at h
    · cases h; exact ⟨rfl, Nat.le_refl _, Nat.le_refl _⟩
    · cases h
  · cases h; exact ⟨rfl, Nat.le_refl _, Nat.le_refl _⟩
  · cases h; exact ⟨rfl, Nat.le_refl _, Nat.le_refl _⟩
  · cases h; exact ⟨rfl, Nat.le_refl _, Nat.le_refl _⟩
  · split at h
    · cases h; exact ⟨rfl, Nat.le_refl _, Nat.le_refl _⟩
    · cases h
  · split at h
    · split at h
      · next hq =>
        split at h
        · cases h
          refine ⟨rfl, ?_, ?_⟩
          · show cs.length ≤ (cs.set _ _).length
            rw [List.length_set]; exact Nat.le_refl _
          · show hl_bz cs ≤ hl_bz (cs.set _ _)
            rw [hl_bz_set hq (by rfl)]; exact Nat.le_refl _
        · cases h
      · cases h
    · cases h
  · split at h
    · split at h
      · cases h
        refine ⟨rfl, ?_, ?_⟩
        · show cs.length ≤ (cs ++ [_]).length
          rw [List.length_append]; exact Nat.le_add_right _ _
        · show hl_bz cs ≤ hl_bz (cs ++ [_])
          rw [hl_bz_app]; exact Nat.le_add_right _ _
      · cases h
    · cases h
  · cases h
    refine ⟨rfl, ?_, ?_⟩
    · show cs.length ≤ (cs ++ [_]).length
      rw [List.length_append]; exact Nat.le_add_right _ _
    · show hl_bz cs ≤ hl_bz (cs ++ [_])
      rw [hl_bz_app]; exact Nat.le_add_right _ _
  · split at h
    · split at h
      · cases h
        refine ⟨rfl, ?_, ?_⟩
        · show cs.length ≤ (cs ++ _).length
          rw [List.length_append]; exact Nat.le_add_right _ _
        · show hl_bz cs ≤ hl_bz (cs ++ _)
          rw [hl_bz_app]; exact Nat.le_add_right _ _
      · cases h
    · cases h
  · split at h
    · split at h
      · split at h
        · split at h
          · cases h; exact ⟨rfl, Nat.le_refl _, Nat.le_refl _⟩
          · cases h
        · cases h
      · cases h
    · cases h
  · split at h
    · split at h
      · next hq =>
        split at h
        · cases h
          refine ⟨rfl, ?_, ?_⟩
          · show cs.length ≤ (cs.set _ _).length
            rw [List.length_set]; exact Nat.le_refl _
          · show hl_bz cs ≤ hl_bz (cs.set _ _)
            rw [hl_bz_set hq (by simp [hl_sz])]; exact Nat.le_refl _
        · cases h
      · cases h
    · split at h
      · next hq =>
        split at h
        · cases h
          refine ⟨rfl, ?_, ?_⟩
          · show cs.length ≤ (cs.set _ _).length
            rw [List.length_set]; exact Nat.le_refl _
          · show hl_bz cs ≤ hl_bz (cs.set _ _)
            rw [hl_bz_set hq (by simp [hl_sz])]; exact Nat.le_refl _
        · cases h
      · cases h
    · cases h
  · cases h
theorem hl_bev_mono {cd : Nat → hl_bcode} {na : Nat → Nat} : ∀ (n D y pc : Nat) (ls : List (Nat × Value)) (st : List Value) (cs csF : List hl_bc), hl_bev cd na D n y pc ls st cs = some csF → cs.length ≤ csF.length ∧ hl_bz cs ≤ hl_bz csF := by
  intro n
  induction n with
  | zero => intro D y pc ls st cs csF h; simp [hl_bev] at h
  | succ n ih =>
    intro D y pc ls st cs csF h
    unfold hl_bev at h
    split at h
    · cases h
    · split at h
      · cases h; exact ⟨Nat.le_refl _, Nat.le_refl _⟩
      · cases h
    · split at h
      · split at h
        · exact ih _ _ _ _ _ _ _ h
        · cases h
      · cases h
    · split at h
      · cases h
      · split at h
        · split at h
          · cases h
          · next h1 =>
            have a := ih _ _ _ _ _ _ _ h1
            have b := ih _ _ _ _ _ _ _ h
            exact ⟨Nat.le_trans a.1 b.1, Nat.le_trans a.2 b.2⟩
        · cases h
    · split at h
      · cases h
      · next h1 =>
        have a := hl_b1_mono h1
        have b := ih _ _ _ _ _ _ _ h
        exact ⟨Nat.le_trans a.2.1 b.1, Nat.le_trans a.2.2 b.2⟩
/-- an instruction's length -/
def hl_len : Instr → Nat
  | .aload _ => 2
  | .bipush _ => 2
  | .newarray _ => 2
  | .sipush _ => 3
  | .new _ => 3
  | .getfield _ => 3
  | .putfield _ => 3
  | .invokespecial _ => 3
  | .multianewarray _ _ => 4
  | _ => 1
/-- what an instruction's links say -/
def hl_ok (own : String) (i : Instr) (op : Nat) : Prop := match i with
  | .new idx => ∃ (C : String) (T : u_T) (N : Nat) (ty0 : Nat → FieldType), hl_cl[op]? = some (C, T, N) ∧ (∀ w ∈ u_ws C T N, w ∈ hl_T) ∧ (∀ k, k < N → parseFieldDescriptor (T k).2.2.1 = some (ty0 k)) ∧ (∀ j, j < N → defaultValue (ty0 j) = vp_V (hl_df op) j) ∧ (hl_ftl op).length = N ∧ Cond.classLink own idx C ∈ hl_T ∧ Cond.instantiable C N ∈ hl_T ∧ Cond.initialized C ∈ hl_T
  | .getfield idx => hl_FL own idx (op / 256) (op % 256)
  | .putfield idx => ∃ (C : String) (T : u_T) (N : Nat) (ty : FieldType), hl_CL (op / 256) C T N ∧ op % 256 < N ∧ (T (op % 256)).1 = C ∧ Cond.fieldLink own idx C (T (op % 256)).2.1 (T (op % 256)).2.2.1 ∈ hl_T ∧ ((T (op % 256)).2.2.2 = true → C = own) ∧ parseFieldDescriptor (T (op % 256)).2.2.1 = some ty ∧ ((hl_ftl (op / 256))[op % 256]? = some 2 → ty.isReference = true) ∧ ((hl_ftl (op / 256))[op % 256]? = some 0 → ty = .int)
  | .multianewarray idx d => d = 2 ∧ Cond.classLink own idx "[[I" ∈ hl_T
  | _ => True
theorem hl_iref {ty : FieldType} (h : ty.isReference = true) (q : Nat) : narrow ty (.ref q) = .ref q ∧ fits ty (.ref q) = true := by
  cases ty <;> simp [FieldType.isReference] at h <;> exact ⟨rfl, rfl⟩
/-- the frame of a constructor -/
def hl_bC (D : Nat) (y : hl_Y) (p : Program) (R : Room) (s : State) (m : MethodId) (args : Array Value) (c : Code) : Prop :=
  hl_C D y p R s m args c
def hl_nw (s : State) : Prop := (∀ (o : String) (i : Nat) (x : MethodName) (h : String), Cond.methodLinkNest o i x h ∈ tables_1 → va_Nw (.methodLinkNest o i x h) s) ∧ hl_aow s
def hl_bI (DD : va_G) (ca : Nat → ClassId) (h0 n0 z0 : Nat) (cs : List hl_bc) (s : State) (H : Heap) (locs : List Loc) (cells slots : Nat) : Prop :=
  H.size = h0 + cs.length ∧ va_P DD hl_cl (hl_bw ca h0 cs) H ∧ va_K DD hl_cl (hl_tyc ca) s ∧ va_S (fun q => h0 ≤ q) s.heap H locs ∧ hl_nw s ∧ n0 ≤ cs.length ∧ z0 ≤ hl_bz cs ∧ cells = cs.length - n0 ∧ slots = hl_bz cs - z0 ∧ s.heap.size = h0 + n0
abbrev hl_bl (h0 : Nat) (ls : List (Nat × Value)) : List (Nat × Value) := ls.map (fun q => (q.1, hl_bv h0 q.2))
theorem hl_blv {la : Array Slot} {n h0 : Nat} {ls : List (Nat × Value)} {i : Nat} {w : Value} (h : lv_has la n (hl_bl h0 ls)) (hl : hl_lk ls i = some w) : la[i]? = some (.val (hl_bv h0 w)) :=
  h.2.2 (i, hl_bv h0 w) (List.mem_map.mpr ⟨(i, w), hl_lk_mem hl, rfl⟩)
theorem hl_bP_app {DD : va_G} {ca : Nat → ClassId} {h0 : Nat} {cs ds : List hl_bc} {H H1 : Heap} (hP : va_P DD hl_cl (hl_bw ca h0 cs) H) (hk : ∀ a, a < H.size → H1[a]? = H[a]?) (hz : H.size = h0 + cs.length)
    (hn : ∀ j c, ds[j]? = some c → va_at DD hl_cl (h0 + (cs.length + j), hl_be ca h0 (cs.length + j) c) H1) : va_P DD hl_cl (hl_bw ca h0 (cs ++ ds)) H1 := by
  intro k q hq
  obtain ⟨c, hc, rfl⟩ := hl_bw_inv hq
  by_cases hl : k < cs.length
  · rw [List.getElem?_append_left hl] at hc
    exact (hP k _ (hl_bw_get hc)).kept (hk _ (by show h0 + k < H.size; omega))
  · rw [List.getElem?_append_right (by omega)] at hc
    have h := hn (k - cs.length) c hc
    rw [show cs.length + (k - cs.length) = k by omega] at h
    exact h
section HLS
variable {DD : va_G} {ca : Nat → ClassId} {h0 n0 z0 : Nat} {p : Program} {l : Launch} {e : Env} {R : Room} {s : State} {m : MethodId} {args : Array Value} {below : List Frame} {meth : Method} {c : Code} {H : Heap} {locs : List Loc} {cells slots : Nat} {Q : State → Prop}
theorem hl_b1_new {D pc : Nat} {z : hl_Y} {la : Array Slot} {t : ArrayType} {ty : FieldType} {tk : Nat} {n : Int32} {cs : List hl_bc} {st : List Value} {cl : hl_bc} (hC : hl_C D z p R s m args c) (hI : hl_bI DD ca h0 n0 z0 cs s H locs cells slots)
    (hd : decode z.2.1 pc = .ok (.newarray t, 2)) (hn : hl_b n 5000) (hty : newarray.typeOf t = ty) (hw : Cond.arrayClass ty ∈ hl_T) (hcb : componentBytes ty ≤ 8) (htk : (hl_tyc ca)[tk]? = some (ca tk, ty)) (hra : va_RA s (ca tk) ty → s.vm.findClass ("[" ++ ty.toString) = some (ca tk))
    (hsz : hl_sz cl = n.toNatClampNeg) (hcell : ∀ p, ∃ x : vp_A, hl_be ca h0 p cl = .inl (ca tk, x) ∧ vp_cell (ca tk) x = arrV (ca tk) n.toNatClampNeg (fun _ => defaultValue ty))
    (hr1 : (cs ++ [cl]).length - n0 ≤ R.cells) (hr2 : hl_bz (cs ++ [cl]) - z0 ≤ R.slots)
    (kk : ∀ (H2 : Heap) (locs2 : List Loc) (cells2 slots2 : Nat), hl_bI DD ca h0 n0 z0 (cs ++ [cl]) s H2 locs2 cells2 slots2 → W p l e R s m args below meth c H2 locs2 cells2 slots2 Q (F0 m (pc + 2) la (.ref (h0 + cs.length) :: st))) :
    W p l e R s m args below meth c H locs cells slots Q (F0 m pc la (.int n :: st)) := by
  subst hty
  obtain ⟨i1, i2, i3, i4, i5, i6, i7, i8, i9, i10⟩ := hI
  have hl1 : (cs ++ [cl]).length = cs.length + 1 := by simp
  have hb1 : hl_bz (cs ++ [cl]) = hl_bz cs + n.toNatClampNeg := by rw [hl_bz_app]; simp [hl_bz, hsz]
  obtain ⟨hn1, hn2⟩ := hn
  have hnn : ¬ n < 0 := by rw [Int32.lt_iff_toInt_lt]; show ¬ n.toInt < 0; omega
  have hnN : n.toNatClampNeg < 5000 := by
    have : n.toNatClampNeg = n.toInt.toNat := rfl
    omega
  refine va_newaK hC.1 hC.2.1 (hC.2.2.2.2.1 _ hw) rfl hd rfl hnn rfl (Nat.le_trans (Nat.mul_le_mul (Nat.le_of_lt hnN) hcb) (by decide)) (by omega) (by omega) i1 fun H1 cA e1 z1 o1 hAr hNm => ?_
  have hca : cA = ca tk := by
    have := hra (i3.2 tk _ htk).2
    exact Option.some.inj (hNm.symm.trans this)
  subst hca
  refine kk H1 locs _ _ ⟨by rw [z1, hl1]; omega, hl_bP_app i2 (fun a ha => o1 a (by omega)) i1 (fun j c hj => ?_), i3, ⟨Nat.le_trans i4.1 (by omega), fun q h1 h2 => (o1 q (by have := i4.1; omega)).trans (i4.2.1 q h1 h2), i4.2.2⟩, i5, by omega, by omega, by omega, by omega, i10⟩
  have hj0 : j = 0 := by
    have := (List.getElem?_eq_some_iff.mp hj).1
    simpa using this
  subst hj0
  cases hj
  obtain ⟨x, hx1, hx2⟩ := hcell (cs.length + 0)
  rw [hx1]
  show H1[h0 + (cs.length + 0)]? = some (vp_cell (ca tk) x)
  rw [hx2]
  exact e1

theorem hl_b1_arr {D pc : Nat} {z : hl_Y} {la : Array Slot} {t : ArrayType} {n : Int32} {cs : List hl_bc} {st : List Value} (hC : hl_C D z p R s m args c) (hw : ∀ ty : FieldType, ty = .int ∨ ty = .byte ∨ ty = .boolean ∨ ty = .char ∨ ty = .long → Cond.arrayClass ty ∈ hl_T) (hI : hl_bI DD ca h0 n0 z0 cs s H locs cells slots)
    (hd : decode z.2.1 pc = .ok (.newarray t, 2)) (hn : hl_b n 5000) (ht : hl_ak t ≤ 104)
    (hr1 : (cs ++ [Sum.inr (hl_ak t, n.toNatClampNeg, [])]).length - n0 ≤ R.cells) (hr2 : hl_bz (cs ++ [Sum.inr (hl_ak t, n.toNatClampNeg, [])]) - z0 ≤ R.slots)
    (kk : ∀ (H2 : Heap) (locs2 : List Loc) (cells2 slots2 : Nat), hl_bI DD ca h0 n0 z0 (cs ++ [Sum.inr (hl_ak t, n.toNatClampNeg, [])]) s H2 locs2 cells2 slots2 → W p l e R s m args below meth c H2 locs2 cells2 slots2 Q (F0 m (pc + 2) la (.ref (h0 + cs.length) :: st))) :
    W p l e R s m args below meth c H locs cells slots Q (F0 m pc la (.int n :: st)) := by
  cases t with
  | int => exact hl_b1_new (ty := .int) (tk := 0) hC hI hd hn rfl (hw _ (Or.inl rfl)) (by decide) rfl (fun h => h) rfl (fun p => ⟨_, rfl, rfl⟩) hr1 hr2 kk
  | byte => exact hl_b1_new (ty := .byte) (tk := 1) hC hI hd hn rfl (hw _ (Or.inr (Or.inl rfl))) (by decide) rfl (fun h => h) rfl (fun p => ⟨_, rfl, rfl⟩) hr1 hr2 kk
  | boolean => exact hl_b1_new (ty := .boolean) (tk := 2) hC hI hd hn rfl (hw _ (Or.inr (Or.inr (Or.inl rfl)))) (by decide) rfl (fun h => h) rfl (fun p => ⟨_, rfl, rfl⟩) hr1 hr2 kk
  | char => exact hl_b1_new (ty := .char) (tk := 3) hC hI hd hn rfl (hw _ (Or.inr (Or.inr (Or.inr (Or.inl rfl))))) (by decide) rfl (fun h => h) rfl (fun p => ⟨_, rfl, rfl⟩) hr1 hr2 kk
  | long => exact hl_b1_new (ty := .long) (tk := 4) hC hI hd hn rfl (hw _ (Or.inr (Or.inr (Or.inr (Or.inr rfl))))) (by decide) rfl (fun h => h) rfl (fun p => ⟨_, rfl, rfl⟩) hr1 hr2 kk
  | _ => exact absurd ht (by decide)
theorem hl_b1_obj {D pc op idx : Nat} {z : hl_Y} {la : Array Slot} {cs : List hl_bc} {st : List Value} (hC : hl_C D z p R s m args c) (hI : hl_bI DD ca h0 n0 z0 cs s H locs cells slots)
    (hd : decode z.2.1 pc = .ok (.new idx, 3)) (hok : hl_ok z.1.cls (.new idx) op)
    (hr1 : (cs ++ [Sum.inl (op, hl_df op)]).length - n0 ≤ R.cells) (hr2 : hl_bz (cs ++ [Sum.inl (op, hl_df op)]) - z0 ≤ R.slots)
    (kk : ∀ (H2 : Heap) (locs2 : List Loc) (cells2 slots2 : Nat), hl_bI DD ca h0 n0 z0 (cs ++ [Sum.inl (op, hl_df op)]) s H2 locs2 cells2 slots2 → W p l e R s m args below meth c H2 locs2 cells2 slots2 Q (F0 m (pc + 3) la (.ref (h0 + cs.length) :: st))) :
    W p l e R s m args below meth c H locs cells slots Q (F0 m pc la st) := by
  obtain ⟨C, T, N, ty0, g1, g2, g3, g4, g5, g6, g7, g8⟩ := hok
  obtain ⟨i1, i2, i3, i4, i5, i6, i7, i8, i9, i10⟩ := hI
  have hts := hC.2.2.2.2.1
  have hdl : (hl_df op).length = N := by unfold hl_df; rw [List.length_map]; exact g5
  have hl1 : (cs ++ [Sum.inl (op, hl_df op)]).length = cs.length + 1 := by simp
  have hb1 : hl_bz (cs ++ [Sum.inl (op, hl_df op)]) = hl_bz cs + N := by rw [hl_bz_app]; simp [hl_bz, hl_sz, hdl]
  have hKn := i3.1 op _ g1
  refine W.newcK hC.1 hC.2.1 hC.2.2.2.1 (hts _ g6) (hts _ g7) (hts _ g8) rfl hd (by omega) (by omega) hKn.2.1 i1 fun H1 kC hkC e1 z1 o1 => ?_
  refine kk H1 locs _ _ ⟨by rw [z1, hl1]; omega, hl_bP_app i2 (fun a ha => o1 a (by omega)) i1 (fun j c hj => ?_), i3, ⟨Nat.le_trans i4.1 (by omega), fun q h1 h2 => (o1 q (by have := i4.1; omega)).trans (i4.2.1 q h1 h2), i4.2.2⟩, i5, by omega, by omega, by omega, by omega, i10⟩
  have hj0 : j = 0 := by
    have := (List.getElem?_eq_some_iff.mp hj).1
    simpa using this
  subst hj0
  cases hj
  have hmap : (hl_df op).map (hl_bv h0) = hl_df op := by
    unfold hl_df
    rw [List.map_map]
    apply List.map_congr_left
    intro t _
    simp only [Function.comp_def]
    split
    · rfl
    · split <;> rfl
  show ∃ r : vw_C, hl_cl[op]? = some r ∧ t_OB (h0 + (cs.length + 0)) (DD.1 op) r.2.2 (DD.2 op) H1 (vp_V ((hl_df op).map (hl_bv h0)))
  rw [hmap]
  exact ⟨_, g1, (u_born ty0 hts g2 hKn hkC e1 g3).to g4⟩
theorem hl_b1_mul {D pc idx : Nat} {z : hl_Y} {la : Array Slot} {n k : Int32} {cs : List hl_bc} {st : List Value} (hC : hl_C D z p R s m args c) (hw : Cond.arrayClass .int ∈ hl_T) (hI : hl_bI DD ca h0 n0 z0 cs s H locs cells slots)
    (hd : decode z.2.1 pc = .ok (.multianewarray idx 2, 4)) (hcl : Cond.classLink z.1.cls idx "[[I" ∈ hl_T) (hn : hl_b n 5000) (hk : hl_b k 5000)
    (hr1 : (cs ++ (Sum.inr (105, n.toNatClampNeg, []) :: List.replicate n.toNatClampNeg (Sum.inr (100, k.toNatClampNeg, [])))).length - n0 ≤ R.cells) (hr2 : hl_bz (cs ++ (Sum.inr (105, n.toNatClampNeg, []) :: List.replicate n.toNatClampNeg (Sum.inr (100, k.toNatClampNeg, [])))) - z0 ≤ R.slots)
    (kk : ∀ (H2 : Heap) (locs2 : List Loc) (cells2 slots2 : Nat), hl_bI DD ca h0 n0 z0 (cs ++ (Sum.inr (105, n.toNatClampNeg, []) :: List.replicate n.toNatClampNeg (Sum.inr (100, k.toNatClampNeg, [])))) s H2 locs2 cells2 slots2 → W p l e R s m args below meth c H2 locs2 cells2 slots2 Q (F0 m (pc + 4) la (.ref (h0 + cs.length) :: st))) :
    W p l e R s m args below meth c H locs cells slots Q (F0 m pc la (.int k :: .int n :: st)) := by
  obtain ⟨i1, i2, i3, i4, i5, i6, i7, i8, i9, i10⟩ := hI
  have hts := hC.2.2.2.2.1
  obtain ⟨hn1, hn2⟩ := hn
  obtain ⟨hk1, hk2⟩ := hk
  have hnn : ¬ n < 0 := by rw [Int32.lt_iff_toInt_lt]; show ¬ n.toInt < 0; omega
  have hkn : ¬ k < 0 := by rw [Int32.lt_iff_toInt_lt]; show ¬ k.toInt < 0; omega
  have hnN : n.toNatClampNeg < 5000 := by
    have : n.toNatClampNeg = n.toInt.toNat := rfl
    omega
  have hkN : k.toNatClampNeg < 5000 := by
    have : k.toNatClampNeg = k.toInt.toNat := rfl
    omega
  have hl1 : (cs ++ (Sum.inr (105, n.toNatClampNeg, []) :: List.replicate n.toNatClampNeg (Sum.inr (100, k.toNatClampNeg, [])))).length = cs.length + (1 + n.toNatClampNeg) := by simp; omega
  have hb1 : hl_bz (cs ++ (Sum.inr (105, n.toNatClampNeg, []) :: List.replicate n.toNatClampNeg (Sum.inr (100, k.toNatClampNeg, [])))) = hl_bz cs + (n.toNatClampNeg + n.toNatClampNeg * k.toNatClampNeg) := by
    rw [hl_bz_app]
    show hl_bz cs + (hl_sz _ + hl_bz _) = _
    rw [hl_bz_rep]
    rfl
  refine hl_multi hC.1 hC.2.1 hC.2.2.2.1 (hts _ hcl) i5.2 (hts _ hw) rfl hd rfl hnn hkn (by omega) (by omega) (by omega) (by omega) fun cA cB H1 hA hB z1 e1 e2 o1 => ?_
  have hcA : cA = ca 5 := Option.some.inj (hA.symm.trans (i3.2 5 _ rfl).2)
  have hcB : cB = ca 0 := Option.some.inj (hB.symm.trans (va_nm_int (i3.2 0 _ rfl).2))
  subst hcA
  subst hcB
  rw [i1] at e1 e2 z1 ⊢
  refine kk H1 _ _ _ ⟨by rw [z1, hl1]; omega, hl_bP_app i2 o1 i1 (fun j c hj => ?_), i3, ⟨Nat.le_trans i4.1 (by omega), fun q h1 h2 => (o1 q (by have := i4.1; omega)).trans (i4.2.1 q h1 h2), fun q hq => ?_⟩, i5, by omega, by omega, by omega, by omega, i10⟩
  · cases j with
    | zero =>
      cases hj
      show H1[h0 + (cs.length + 0)]? = some (arrV (ca 5) n.toNatClampNeg (fun j => va_rf (some (h0 + (cs.length + 0 + 1 + j)))))
      have hf : (fun j => va_rf (some (h0 + (cs.length + 0 + 1 + j)))) = (fun j => Value.ref (h0 + cs.length + 1 + j)) := by
        funext j
        rw [show h0 + (cs.length + 0 + 1 + j) = h0 + cs.length + 1 + j by omega]
        rfl
      rw [hf]
      exact e1
    | succ j =>
      rw [List.getElem?_cons_succ, List.getElem?_replicate] at hj
      split at hj
      · next hlt =>
        cases hj
        have := e2 j hlt
        rw [show h0 + cs.length + 1 + j = h0 + (cs.length + (j + 1)) by omega] at this
        exact this
      · cases hj
  · rcases List.mem_append.mp hq with h | h
    · exact i4.2.2 q h
    · obtain ⟨j, -, rfl⟩ := List.mem_map.mp h
      exact Nat.le_add_right _ _

theorem hl_bsz {cs : List hl_bc} {g : JFrame} (hP : va_P DD hl_cl (hl_bw ca h0 cs) H) (hne : 0 < cs.length) (hz : s.heap.size + cells = h0 + cs.length) (kk : H.size = h0 + cs.length → W p l e R s m args below meth c H locs cells slots Q g) : W p l e R s m args below meth c H locs cells slots Q g := by
  intro T hT X
  refine kk ?_ T hT X
  have h1 : T.heap.size ≤ s.heap.size + cells := X.heapSize
  obtain ⟨x, hx⟩ : ∃ x, cs[cs.length - 1]? = some x := ⟨_, List.getElem?_eq_getElem (by omega)⟩
  have h2 : h0 + (cs.length - 1) < H.size := (hP _ _ (hl_bw_get hx)).lt
  subst hT
  omega
theorem hl_bI_set {cs : List hl_bc} {q : Nat} {x x2 : hl_bc} {H1 : Heap} {locs1 : List Loc} {g : JFrame} (hq : cs[q]? = some x) (hs : hl_sz x2 = hl_sz x) (hI : hl_bI DD ca h0 n0 z0 cs s H locs cells slots) (hP : va_P DD hl_cl ((hl_bw ca h0 cs).set q (h0 + q, hl_be ca h0 q x2)) H1) (hS : va_S (fun q => h0 ≤ q) s.heap H1 locs1)
    (kk : ∀ (H2 : Heap) (locs2 : List Loc) (cells2 slots2 : Nat), hl_bI DD ca h0 n0 z0 (cs.set q x2) s H2 locs2 cells2 slots2 → W p l e R s m args below meth c H2 locs2 cells2 slots2 Q g) : W p l e R s m args below meth c H1 locs1 cells slots Q g := by
  obtain ⟨i1, i2, i3, i4, i5, i6, i7, i8, i9, i10⟩ := hI
  rw [hl_bw_set] at hP
  have hlt : q < cs.length := (List.getElem?_eq_some_iff.mp hq).1
  have hl : (cs.set q x2).length = cs.length := List.length_set
  have hz : hl_bz (cs.set q x2) = hl_bz cs := hl_bz_set hq hs
  refine hl_bsz hP (by omega) (by omega) fun hsz => ?_
  exact kk H1 locs1 _ _ ⟨hsz, hP, i3, hS, i5, by omega, by omega, by omega, by omega, i10⟩
theorem hl_bput {D pc op idx q : Nat} {z : hl_Y} {la : Array Slot} {cs : List hl_bc} {rest : List Value} {fs : List Value} {w : Value} (hC : hl_C D z p R s m args c) (hini : meth.name = "<init>")
    (hd : decode z.2.1 pc = .ok (.putfield idx, 3)) (hok : hl_ok z.1.cls (.putfield idx) op) (hI : hl_bI DD ca h0 n0 z0 cs s H locs cells slots) (hq : cs[q]? = some (.inl (op / 256, fs))) (hk : op % 256 < fs.length)
    (hw : ((∃ x, w = .ref x) ∧ (hl_ftl (op / 256))[op % 256]? = some 2) ∨ ((∃ x, w = .int x) ∧ (hl_ftl (op / 256))[op % 256]? = some 0))
    (kk : ∀ (H2 : Heap) (locs2 : List Loc) (cells2 slots2 : Nat), hl_bI DD ca h0 n0 z0 (cs.set q (.inl (op / 256, fs.set (op % 256) w))) s H2 locs2 cells2 slots2 → W p l e R s m args below meth c H2 locs2 cells2 slots2 Q (F0 m (pc + 3) la rest)) :
    W p l e R s m args below meth c H locs cells slots Q (F0 m pc la (hl_bv h0 w :: .ref (h0 + q) :: rest)) := by
  obtain ⟨C, T, N, ty, ⟨g1, g2, ⟨ty0, g3⟩, g4, g5⟩, hkN, ho, hl, hfin, hpf, hr2, hr0⟩ := hok
  have hI2 := hI
  obtain ⟨i1, i2, i3, i4, i5, i6, i7, i8, i9, i10⟩ := hI
  have hnf : narrow ty (hl_bv h0 w) = hl_bv h0 w ∧ fits ty (hl_bv h0 w) = true := by
    rcases hw with ⟨⟨x, rfl⟩, h⟩ | ⟨⟨x, rfl⟩, h⟩
    · exact hl_iref (hr2 h) _
    · rw [hr0 h]; exact ⟨rfl, rfl⟩
  have hset : (fs.set (op % 256) w).map (hl_bv h0) = (fs.map (hl_bv h0)).set (op % 256) (hl_bv h0 w) := List.map_set
  have go : ∀ (H1 : Heap) (locs1 : List Loc), va_P DD hl_cl ((hl_bw ca h0 cs).set q (h0 + q, .inr (op / 256, (fs.map (hl_bv h0)).set (op % 256) (hl_bv h0 w)))) H1 → va_D (fun q => h0 ≤ q) ((hl_bw ca h0 cs).set q (h0 + q, .inr (op / 256, (fs.map (hl_bv h0)).set (op % 256) (hl_bv h0 w)))) → va_S (fun q => h0 ≤ q) s.heap H1 locs1 → W p l e R s m args below meth c H1 locs1 cells slots Q (F0 m (pc + 3) la rest) := by
    intro H1 locs1 hP hD hS
    rw [← hset] at hP
    exact hl_bI_set (x2 := .inl (op / 256, fs.set (op % 256) w)) hq (by simp [hl_sz]) hI2 hP hS kk
  cases hf : (T (op % 256)).2.2.2 with
  | false => exact va_put (C := C) (T := T) (N := N) (ref := C) (tys := hl_tyc ca) hC.1 hC.2.1 hC.2.2.2.2.1 g2 ty0 g3 g4 hC.2.2.2.1 i3 i2 hl_bd i4 q (hl_bw_get hq) g1 _ hkN (hC.2.2.2.2.1 _ hl) (fun _ h => by rw [ho] at h; exact h) hf hpf hnf.1 hnf.2 (by rw [List.length_map]; exact hk) hd go
  | true => exact va_putF (C := C) (T := T) (N := N) (ref := C) (tys := hl_tyc ca) hC.1 hC.2.1 hC.2.2.2.2.1 g2 ty0 g3 g4 hC.2.2.2.1 i3 i2 hl_bd i4 q (hl_bw_get hq) g1 _ hkN (hC.2.2.2.2.1 _ hl) (fun _ h => by rw [ho] at h; exact h) hf hini (ho.trans (hfin hf)) hpf hnf.1 hnf.2 (by rw [List.length_map]; exact hk) hd go
theorem hl_b1_ok {D pc op : Nat} {z : hl_Y} {la : Array Slot} {i : Instr} {ls : List (Nat × Value)} {st : List Value} {cs : List hl_bc} {r : hl_bS} (hC : hl_C D z p R s m args c) (hini : (∃ k, i = .putfield k) → meth.name = "<init>")
    (hw : ∀ ty : FieldType, ty = .int ∨ ty = .byte ∨ ty = .boolean ∨ ty = .char ∨ ty = .long → Cond.arrayClass ty ∈ hl_T)
    (hd : decode z.2.1 pc = .ok (i, hl_len i)) (hok : hl_ok z.1.cls i op) (he : hl_b1 i op pc ls st cs = some r) (hI : hl_bI DD ca h0 n0 z0 cs s H locs cells slots) (hL : lv_has la z.2.2.1 (hl_bl h0 ls))
    (hr1 : r.2.2.2.length - n0 ≤ R.cells) (hr2 : hl_bz r.2.2.2 - z0 ≤ R.slots)
    (kk : ∀ (H2 : Heap) (locs2 : List Loc) (cells2 slots2 : Nat), hl_bI DD ca h0 n0 z0 r.2.2.2 s H2 locs2 cells2 slots2 → W p l e R s m args below meth c H2 locs2 cells2 slots2 Q (F0 m r.1 la (r.2.2.1.map (hl_bv h0)))) :
    W p l e R s m args below meth c H locs cells slots Q (F0 m pc la (st.map (hl_bv h0))) := by
  unfold hl_b1 at he
  split at he
  · split at he
    · next hl =>
      cases he
      exact lv_aload_n hC.1 hC.2.1 hd rfl (hl_blv hL hl) (kk _ _ _ _ hI)
    · cases he
  · split at he
    · next hl =>
      cases he
      exact lv_aload hC.1 hC.2.1 hd (hl_blv hL hl) (kk _ _ _ _ hI)
    · cases he
  · cases he
    exact lv_iconst hC.1 hC.2.1 hd rfl (kk _ _ _ _ hI)
  · cases he
    exact lv_bipush hC.1 hC.2.1 hd rfl (kk _ _ _ _ hI)
  · cases he
    exact lv_sipush hC.1 hC.2.1 hd rfl (kk _ _ _ _ hI)
  · split at he
    · cases he
      exact lv_dup hC.1 hC.2.1 hd rfl (kk _ _ _ _ hI)
    · cases he
  · split at he
    · split at he
      · next x a q rr _ n l0 hq =>
        split at he
        · next hb =>
          cases he
          have hI2 := hI
          obtain ⟨i1, i2, i3, i4, i5, i6, i7, i8, i9, i10⟩ := hI
          refine va_cast (cl := hl_cl) (D := DD) hC.1 hC.2.1 i3 i2 hl_bd i4 q 3 (hl_bw_get hq) rfl (hl_b_in hb) hd fun H1 locs1 hP hD hS => ?_
          rw [← hl_ls_get] at hP
          exact hl_bI_set (x2 := .inr (103, n, hl_ls l0 a.toNatClampNeg (vp_nar .char x))) hq rfl hI2 hP hS kk
        · cases he
      · cases he
    · cases he
  · split at he
    · split at he
      · next hb =>
        cases he
        exact hl_b1_arr hC hw hI hd hb.1 hb.2 hr1 hr2 kk
      · cases he
    · cases he
  · cases he
    exact hl_b1_obj hC hI hd hok hr1 hr2 kk
  · split at he
    · split at he
      · next hb =>
        cases he
        obtain ⟨rfl, hcl⟩ := hok
        exact hl_b1_mul hC (hw _ (Or.inl rfl)) hI hd hcl hb.1 hb.2 hr1 hr2 kk
      · cases he
    · cases he
  · split at he
    · split at he
      · next q rr _ k fs hq =>
        split at he
        · next hk =>
          split at he
          · next q2 hf =>
            cases he
            subst hk
            obtain ⟨C, T, N, ⟨g1, g2, -, -, g5⟩, hk, ho, hl⟩ := hok
            have hI2 := hI
            obtain ⟨i1, i2, i3, i4, i5, i6, i7, i8, i9, i10⟩ := hI
            exact va_get (C := C) (T := T) (N := N) (ref := C) (tys := hl_tyc ca) hC.1 hC.2.1 hC.2.2.2.2.1 g2 hC.2.2.2.1 i3 i2 q (hl_bw_get hq) g1 _ hk (hC.2.2.2.2.1 _ hl) (fun _ h => by rw [ho] at h; exact h) (v := .ref (h0 + q2)) (by rw [List.getElem?_map, hf]; rfl) hd (kk _ _ _ _ hI2)
          · cases he
        · cases he
      · cases he
    · cases he
  · split at he
    · split at he
      · next x q rr _ k fs hq =>
        split at he
        · next hk =>
          cases he
          obtain ⟨rfl, hk2, hk3⟩ := hk
          exact hl_bput hC (hini ⟨_, rfl⟩) hd hok hI hq hk3 (Or.inl ⟨⟨_, rfl⟩, hk2⟩) kk
        · cases he
      · cases he
    · split at he
      · next x q rr _ k fs hq =>
        split at he
        · next hk =>
          cases he
          obtain ⟨rfl, hk2, hk3⟩ := hk
          exact hl_bput hC (hini ⟨_, rfl⟩) hd hok hI hq hk3 (Or.inr ⟨⟨_, rfl⟩, hk2⟩) kk
        · cases he
      · cases he
    · cases he
  · cases he
end HLS
