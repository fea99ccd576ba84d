/-! the constructors: an evaluator over concrete cells (cell p at address h0 + p), and that the machine does the same -/
abbrev hl_bc : Type := (Nat × List Value) ⊕ (Nat × Nat × List Int32)
def hl_bv (h0 : Nat) : Value → Value
  | .ref k => .ref (h0 + k)
  | v => v
def hl_be (ca : Nat → ClassId) (h0 p : Nat) : hl_bc → va_E
  | .inl o => .inr (o.1, o.2.map (hl_bv h0))
  | .inr a => if a.1 = 104 then .inl (ca 4, a.2.1, .inr (.inl (fun _ => 0)))
    else if a.1 = 105 then .inl (ca 5, a.2.1, .inr (.inr (.inr (.inr (fun j => some (h0 + (p + 1 + j)))))))
    else .inl (ca (a.1 - 100), a.2.1, .inl (fun j => a.2.2.getD j 0))
def hl_bw (ca : Nat → ClassId) (h0 : Nat) (cs : List hl_bc) : va_W := cs.mapIdx (fun p c => (h0 + p, hl_be ca h0 p c))
def hl_sz : hl_bc → Nat
  | .inl o => o.2.length
  | .inr a => a.2.1
def hl_bz : List hl_bc → Nat
  | [] => 0
  | c :: r => hl_sz c + hl_bz r
theorem hl_bz_app (a b : List hl_bc) : hl_bz (a ++ b) = hl_bz a + hl_bz b := by
  induction a with
  | nil => simp [hl_bz]
  | cons x r ih => simp [hl_bz, ih, Nat.add_assoc]
theorem hl_bz_set {cs : List hl_bc} {p : Nat} {c c2 : hl_bc} (h : cs[p]? = some c) (hs : hl_sz c2 = hl_sz c) : hl_bz (cs.set p c2) = hl_bz cs := by
  induction cs generalizing p with
  | nil => simp at h
  | cons x r ih =>
    cases p with
    | zero =>
      rw [List.getElem?_cons_zero] at h
      cases h
      simp [hl_bz, hs]
    | succ p =>
      rw [List.getElem?_cons_succ] at h
      simp [hl_bz, ih h]
theorem hl_bw_get {ca : Nat → ClassId} {h0 : Nat} {cs : List hl_bc} {p : Nat} {c : hl_bc} (h : cs[p]? = some c) : (hl_bw ca h0 cs)[p]? = some (h0 + p, hl_be ca h0 p c) := by
  unfold hl_bw
  rw [List.getElem?_mapIdx, h]
  rfl
theorem hl_bw_inv {ca : Nat → ClassId} {h0 : Nat} {cs : List hl_bc} {p : Nat} {q : Nat × va_E} (h : (hl_bw ca h0 cs)[p]? = some q) : ∃ c, cs[p]? = some c ∧ q = (h0 + p, hl_be ca h0 p c) := by
  unfold hl_bw at h
  rw [List.getElem?_mapIdx] at h
  cases hc : cs[p]? with
  | none => rw [hc] at h; cases h
  | some c => rw [hc] at h; exact ⟨c, rfl, (Option.some.inj h).symm⟩
theorem hl_bw_set {ca : Nat → ClassId} {h0 : Nat} {cs : List hl_bc} {p : Nat} {c : hl_bc} : (hl_bw ca h0 cs).set p (h0 + p, hl_be ca h0 p c) = hl_bw ca h0 (cs.set p c) := by
  apply List.ext_getElem?
  intro i
  unfold hl_bw
  rw [List.getElem?_mapIdx, List.getElem?_set, List.getElem?_set, List.length_mapIdx, List.getElem?_mapIdx]
  by_cases h : p = i
  · subst h
    rw [if_pos rfl, if_pos rfl]
    by_cases hl : p < cs.length
    · rw [if_pos hl, if_pos hl]; rfl
    · rw [if_neg hl, if_neg hl]; rfl
  · rw [if_neg h, if_neg h]
theorem hl_bw_app {ca : Nat → ClassId} {h0 : Nat} {cs : List hl_bc} {c : hl_bc} : hl_bw ca h0 (cs ++ [c]) = hl_bw ca h0 cs ++ [(h0 + cs.length, hl_be ca h0 cs.length c)] := by
  unfold hl_bw
  rw [List.mapIdx_append]
  simp
theorem hl_bd {ca : Nat → ClassId} {h0 : Nat} {cs : List hl_bc} : va_D (fun q => h0 ≤ q) (hl_bw ca h0 cs) := by
  refine ⟨fun i j p q hi hj e => ?_, fun k q hk => ?_⟩
  · obtain ⟨a, -, rfl⟩ := hl_bw_inv hi
    obtain ⟨b, -, rfl⟩ := hl_bw_inv hj
    have : h0 + i = h0 + j := e
    omega
  · obtain ⟨a, -, rfl⟩ := hl_bw_inv hk
    exact Nat.le_add_right h0 k
def hl_tyc (ca : Nat → ClassId) : List (ClassId × FieldType) := [(ca 0, .int), (ca 1, .byte), (ca 2, .boolean), (ca 3, .char), (ca 4, .long), (ca 5, .array .int)]
/-- the cells built so far, in a frame -/
def hl_bs (DD : va_G) (ca : Nat → ClassId) (h0 : Nat) (cs : List hl_bc) (s : State) (H : Heap) (locs : List Loc) : Prop :=
  H.size = h0 + cs.length ∧ va_P DD hl_cl (hl_bw ca h0 cs) H ∧ va_K DD hl_cl (hl_tyc ca) s ∧ va_S (fun q => h0 ≤ q) s.heap H locs ∧ h0 ≤ s.heap.size
/-- a list's place written, the list made longer with zeros where needed -/
def hl_ls (l : List Int32) (i : Nat) (x : Int32) : List Int32 := if i < l.length then l.set i x else l ++ (List.replicate (i - l.length) 0 ++ [x])
theorem hl_ls_get (l : List Int32) (i : Nat) (x : Int32) : (fun j => (hl_ls l i x).getD j 0) = upd (fun j => l.getD j 0) i x := by
  funext j
  show (hl_ls l i x).getD j 0 = if j = i then x else l.getD j 0
  unfold hl_ls
  rw [List.getD_eq_getElem?_getD, List.getD_eq_getElem?_getD]
  by_cases h : i < l.length
  · rw [if_pos h, List.getElem?_set]
    by_cases e : i = j
    · subst e; rw [if_pos rfl, if_pos h, if_pos rfl]; rfl
    · rw [if_neg e, if_neg (fun q => e q.symm)]
  · rw [if_neg h]
    by_cases e : j = i
    · subst e
      rw [if_pos rfl, List.getElem?_append_right (by omega), List.getElem?_append_right (by simp), List.length_replicate, Nat.sub_self]
      rfl
    · rw [if_neg e]
      by_cases hj : j < l.length
      · rw [List.getElem?_append_left hj]
      · rw [List.getElem?_append_right (by omega), List.getElem?_eq_none (l := l) (by omega)]
        by_cases hk : j - l.length < i - l.length
        · rw [List.getElem?_append_left (by simpa using hk), List.getElem?_replicate, if_pos hk]; rfl
        · rw [List.getElem?_eq_none (by simp; omega)]
def hl_ak : ArrayType → Nat
  | .int => 100 | .byte => 101 | .boolean => 102 | .char => 103 | .long => 104 | _ => 999
/-- what a new object holds -/
def hl_df (c : Nat) : List Value := (hl_ftl c).map (fun t => if t = 2 then .null else if t = 1 then .long 0 else .int 0)
abbrev hl_bS : Type := Nat × List (Nat × Value) × List Value × List hl_bc
/-- one instruction but calls and ends -/
def hl_b1 (i : Instr) (op pc : Nat) (ls : List (Nat × Value)) (st : List Value) (cs : List hl_bc) : Option hl_bS :=
  match i with
  | .aload_n k => match hl_lk ls k with
    | some (.ref q) => some (pc + 1, ls, .ref q :: st, cs)
    | _ => none
  | .aload k => match hl_lk ls k with
    | some (.ref q) => some (pc + 2, ls, .ref q :: st, cs)
    | _ => none
  | .iconst n => some (pc + 1, ls, .int (Int32.ofInt n) :: st, cs)
  | .bipush n => some (pc + 2, ls, .int (Int8.ofInt n).toInt32 :: st, cs)
  | .sipush n => some (pc + 3, ls, .int (Int16.ofInt n).toInt32 :: st, cs)
  | .dup => match st with
    | .ref q :: r => some (pc + 1, ls, .ref q :: .ref q :: r, cs)
    | _ => none
  | .castore => match st with
    | .int x :: .int a :: .ref q :: r => match cs[q]? with
      | some (.inr (103, n, l)) => if hl_b a n then some (pc + 1, ls, r, cs.set q (.inr (103, n, hl_ls l a.toNatClampNeg (vp_nar .char x)))) else none
      | _ => none
    | _ => none
  | .newarray t => match st with
    | .int n :: r => if hl_b n 5000 ∧ hl_ak t ≤ 104 then some (pc + 2, ls, .ref cs.length :: r, cs ++ [.inr (hl_ak t, n.toNatClampNeg, [])]) else none
    | _ => none
  | .new _ => some (pc + 3, ls, .ref cs.length :: st, cs ++ [.inl (op, hl_df op)])
  | .multianewarray _ _ => match st with
    | .int k :: .int n :: r => if hl_b n 5000 ∧ hl_b k 5000 then some (pc + 4, ls, .ref cs.length :: r, cs ++ (.inr (105, n.toNatClampNeg, []) :: List.replicate n.toNatClampNeg (.inr (100, k.toNatClampNeg, [])))) else none
    | _ => none
  | .getfield _ => match st with
    | .ref q :: r => match cs[q]? with
      | some (.inl (c, fs)) => if c = op / 256 then match fs[op % 256]? with
        | some (.ref q2) => some (pc + 3, ls, .ref q2 :: r, cs)
        | _ => none else none
      | _ => none
    | _ => none
  | .putfield _ => match st with
    | .ref x :: .ref q :: r => match cs[q]? with
      | some (.inl (c, fs)) => if c = op / 256 ∧ (hl_ftl c)[op % 256]? = some 2 ∧ op % 256 < fs.length then some (pc + 3, ls, r, cs.set q (.inl (c, fs.set (op % 256) (.ref x)))) else none
      | _ => none
    | .int x :: .ref q :: r => match cs[q]? with
      | some (.inl (c, fs)) => if c = op / 256 ∧ (hl_ftl c)[op % 256]? = some 0 ∧ op % 256 < fs.length then some (pc + 3, ls, r, cs.set q (.inl (c, fs.set (op % 256) (.int x)))) else none
      | _ => none
    | _ => none
  | _ => none
abbrev hl_bcode : Type := List (Nat × Instr × Nat)
def hl_find : hl_bcode → Nat → Option (Instr × Nat)
  | [], _ => none
  | q :: r, pc => if q.1 = pc then some q.2 else hl_find r pc
/-- a constructor from pc on: cd y its code (op behind each instruction), na y how many references it takes -/
def hl_bev (cd : Nat → hl_bcode) (na : Nat → Nat) : Nat → Nat → Nat → Nat → List (Nat × Value) → List Value → List hl_bc → Option (List hl_bc)
  | _, 0, _, _, _, _, _ => none
  | D, n + 1, y, pc, ls, st, cs => match hl_find (cd y) pc with
    | none => none
    | some (.return_, _) => if st.length = 0 then some cs else none
    | some (.invokespecial _, 0) => match st with
      | .ref _ :: r => if 0 < D ∧ r.length ≤ 2 ∧ r.all (fun v => v.category == 1) then hl_bev cd na D n y (pc + 3) ls r cs else none
      | _ => none
    | some (.invokespecial _, z) => match D with
      | 0 => none
      | D' + 1 => if na z < st.length ∧ st.length ≤ na z + 3 ∧ (st.take (na z + 1)).all (fun v => match v with | .ref _ => true | _ => false) ∧ (st.drop (na z + 1)).all (fun v => v.category == 1) then
          match hl_bev cd na D' n z 0 (lv_args 0 (st.take (na z + 1)).reverse) [] cs with
          | none => none
          | some cs1 => hl_bev cd na (D' + 1) n y (pc + 3) ls (st.drop (na z + 1)) cs1
        else none
    | some (i, op) => match hl_b1 i op pc ls st cs with
      | none => none
      | some (pc2, ls2, st2, cs2) => hl_bev cd na D n y pc2 ls2 st2 cs2
