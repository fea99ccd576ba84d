/-! multianewarray of two dimensions of ints: no row of the kit; from the machine itself -/
def hl_aow (s : State) : Prop := ∃ (cB cA : ClassId) (kA : Class), s.vm.findClass "[I" = some cB ∧ s.vm.classes[cA]? = some kA ∧ kA.kind = .array cB (.array .int) ∧ s.vm.findClass "[[I" = some cA
theorem hl_aow.moved {u U : State} (hal : u.vm.Alike U.vm) (h : hl_aow u) : hl_aow U := by
  obtain ⟨cB, cA, kA, h1, h2, h3, h4⟩ := h
  obtain ⟨k', hk', he⟩ := hal.2.2 _ _ h2
  exact ⟨cB, cA, k', by rw [hal.findClass]; exact h1, hk', by rw [he]; exact h3, by rw [hal.findClass]; exact h4⟩
theorem hl_ao {args : Array Value} {s : State} (h : (Cond.arrayOver (.array .int)).before args s = true) : hl_aow s := by
  simp only [Cond.before, Cond.holds, Cond.value, beq_iff_eq] at h
  cases hc : s.vm.findClass (FieldType.array .int).toString with
  | none => rw [hc] at h; simp at h
  | some cB =>
    simp only [hc, Option.bind_some, Option.bind_eq_some_iff, Option.map_eq_some_iff] at h
    obtain ⟨cA, hi, kA, hk, hb⟩ := h
    have hp := (Array.findIdx?_eq_some_iff_getElem.mp hi).2.1
    rw [(Array.getElem?_eq_some_iff.mp hk).2] at hp
    cases hkind : kA.kind with
    | array co ty =>
      rw [hkind] at hb hp
      simp at hb hp
      exact ⟨cB, cA, kA, hc, hk, by rw [hkind, hp, hb.1], hb.2⟩
    | _ => rw [hkind] at hb; simp at hb
def hl_mC (cA : ClassId) (N h0 i : Nat) : Cell := arrV cA N (fun j => if j < i then .ref (h0 + 1 + j) else .null)
/-- behind i rows -/
def hl_mf (T : State) (cA cB : ClassId) (N M : Nat) : Nat → State
  | 0 => T.pushCell (hl_mC cA N T.heap.size 0)
  | i + 1 => ((hl_mf T cA cB N M i).pushCell (arrV cB M (fun _ => .int 0))).setCell T.heap.size (hl_mC cA N T.heap.size (i + 1))
theorem hl_mC_set {cA : ClassId} {N h0 i : Nat} : (hl_mC cA N h0 i).setSlot i (.ref (h0 + 1 + i)) = hl_mC cA N h0 (i + 1) := by
  unfold hl_mC
  rw [arrV_store]
  congr 1
  funext j
  unfold updV
  by_cases hj : j = i
  · subst hj; rw [if_pos rfl, if_pos (Nat.lt_succ_self _)]
  · rw [if_neg hj]
    show (if j < i then Value.ref (h0 + 1 + j) else Value.null) = _
    by_cases hl : j < i
    · rw [if_pos hl, if_pos (by omega)]
    · rw [if_neg hl, if_neg (by omega)]
theorem hl_mf_facts (T : State) (cA cB : ClassId) (N M : Nat) : ∀ i, (hl_mf T cA cB N M i).vm = T.vm ∧ (hl_mf T cA cB N M i).heap.size = T.heap.size + 1 + i ∧ (hl_mf T cA cB N M i).slotsUsed = T.slotsUsed + N + i * M ∧
    (hl_mf T cA cB N M i).heap[T.heap.size]? = some (hl_mC cA N T.heap.size i) ∧ (∀ j, j < i → (hl_mf T cA cB N M i).heap[T.heap.size + 1 + j]? = some (arrV cB M (fun _ => .int 0))) ∧ ∀ a, a < T.heap.size → (hl_mf T cA cB N M i).heap[a]? = T.heap[a]?
  | 0 => by
    refine ⟨rfl, by simp [hl_mf], ?_, by simp [hl_mf], fun j hj => absurd hj (Nat.not_lt_zero j), fun a ha => ?_⟩
    · simp [hl_mf, hl_mC, arrV_size]
    · exact State.heap_pushCell_of_lt _ _ ha
  | i + 1 => by
    obtain ⟨f1, f2, f3, f4, f5, f6⟩ := hl_mf_facts T cA cB N M i
    have hlt : T.heap.size < (hl_mf T cA cB N M i).heap.size := by omega
    refine ⟨f1, ?_, ?_, ?_, fun j hj => ?_, fun a ha => ?_⟩
    · simp [hl_mf, f2]; omega
    · simp [hl_mf, f3, arrV_size, Nat.succ_mul]; omega
    · simp [hl_mf, Array.getElem?_setIfInBounds]; omega
    · show (((hl_mf T cA cB N M i).pushCell (arrV cB M (fun _ => .int 0))).heap.setIfInBounds T.heap.size _)[_]? = _
      rw [Array.getElem?_setIfInBounds, if_neg (by omega)]
      by_cases hji : j < i
      · rw [State.heap_pushCell_of_lt (h := (by omega : T.heap.size + 1 + j < (hl_mf T cA cB N M i).heap.size))]; exact f5 j hji
      · have e : T.heap.size + 1 + j = (hl_mf T cA cB N M i).heap.size := by omega
        rw [e]
        exact State.heap_pushCell_size _ _
    · show (((hl_mf T cA cB N M i).pushCell (arrV cB M (fun _ => .int 0))).heap.setIfInBounds T.heap.size _)[_]? = _
      rw [Array.getElem?_setIfInBounds, if_neg (by omega), State.heap_pushCell_of_lt (h := (by omega : a < (hl_mf T cA cB N M i).heap.size))]
      exact f6 a ha
theorem hl_mf_top (T : State) (g : JFrame) (cA cB : ClassId) (N M : Nat) : ∀ i, hl_mf (T.setTop g) cA cB N M i = (hl_mf T cA cB N M i).setTop g
  | 0 => rfl
  | i + 1 => by
    show ((hl_mf (T.setTop g) cA cB N M i).pushCell _).setCell _ _ = _
    rw [hl_mf_top T g cA cB N M i]
    rfl
section HLM
variable {p : Program} {l : Launch} {e : Env} {R : Room} {s : State} {m : MethodId} {args : Array Value} {below : List Frame} {meth : Method} {c : Code} {T : State} {locs : List Loc} {cells slots : Nat}
theorem hl_mf_stand (X : Stand p l e R s m args below meth c T locs cells slots) (cA cB : ClassId) (N M : Nat) : ∀ i, Stand p l e R s m args below meth c (hl_mf T cA cB N M i) (locs ++ (List.range i).map fun j => ⟨T.heap.size, j⟩) (cells + 1 + i) (slots + N + i * M)
  | 0 => by
    have h := X.pushed (hl_mC cA N T.heap.size 0)
    rw [show (hl_mC cA N T.heap.size 0).slots.size = N from arrV_size _ _ _] at h
    simpa [hl_mf] using h
  | i + 1 => by
    obtain ⟨f1, f2, f3, f4, f5, f6⟩ := hl_mf_facts T cA cB N M i
    have hcell : ((hl_mf T cA cB N M i).pushCell (arrV cB M (fun _ => .int 0))).heap[T.heap.size]? = some (hl_mC cA N T.heap.size i) := by
      rw [State.heap_pushCell_of_lt (h := (by omega : T.heap.size < (hl_mf T cA cB N M i).heap.size))]; exact f4
    have h := ((hl_mf_stand X cA cB N M i).pushed (arrV cB M (fun _ => .int 0))).stored hcell i (.ref (T.heap.size + 1 + i))
    rw [arrV_size, hl_mC_set] at h
    have e2 : (locs ++ (List.range (i + 1)).map fun j => (⟨T.heap.size, j⟩ : Loc)) = (locs ++ (List.range i).map fun j => (⟨T.heap.size, j⟩ : Loc)) ++ [⟨T.heap.size, i⟩] := by
      rw [List.range_succ, List.map_append, List.append_assoc]; rfl
    have e3 : slots + N + (i + 1) * M = slots + N + i * M + M := by rw [Nat.succ_mul]; omega
    rw [e2, e3]
    exact h
theorem hl_na {E : CtlPost} {d : Bool} {acts : List Action} {s : State} {cA co : ClassId} {k : Class} {ty : FieldType} {N : Nat} {v : Value} (hk : s.vm.classes[cA]? = some k) (hkind : k.kind = .array co ty) (hfit : fits ty v = true) (hdef : v.isDefault = true)
    (hl : ¬ N > e.platform.arrayLengthLimit) (hh : ¬ N * componentBytes ty > e.platform.maxHeapBytes) (h1 : s.heap.size < e.platform.maxCells) (h2 : s.slotsUsed + N ≤ e.platform.maxSlots) {Q : Addr → Pre}
    (hq : Q s.heap.size d acts (s.pushCell (arrV cA N (fun _ => v)))) : wp (Jvm.newArray cA N v) Q E e d acts s := by
  rw [← arrV_new] at hq
  have hf : ∀ i w, (Array.replicate N v)[i]? = some w → s.fitsSlot cA .none i w = true := by
    intro i w hw
    rw [Array.getElem?_replicate] at hw
    split at hw
    · cases hw; simp [State.fitsSlot, State.slotType?, hk, hkind, hfit]
    · cases hw
  have hda : allocActs (Array.replicate N v) s.heap.size acts = acts := by
    have hall : ((Array.replicate N v).all (·.isDefault)) = true := by
      rw [Array.all_replicate]; split <;> simp [hdef]
    unfold allocActs; rw [if_pos hall]
  simp only [Jvm.newArray, Jvm.arrayFits, wp_bind', W.ask, W.ite, hl, if_false, wp_pure', W.theClass, hk, hkind, hh, W.alloc, W.stop, Option.some.injEq, exists_eq_left', Array.size_replicate, hda]
  rw [if_neg (by omega)]
  exact ⟨h1, h2, hf, hq⟩
theorem hl_multi {cc : ByteArray} (hexec : p.tables.exec = Jvm.exec) (hb : c.code = cc) {own : String} {index : Nat} (hown : s.vm.findClass own = some m.cls) (hcl : (Cond.classLink own index "[[I").before args s = true)
    (hover : hl_aow s) (harr : (Cond.arrayClass .int).before args s = true) {H : Heap} {Q : State → Prop} {g : JFrame} (hg : g.method = m) (hdg : decode cc g.pc = .ok (.multianewarray index 2, 4))
    {n k : Int32} {rest : List Value} (hstack : g.stack = .int k :: .int n :: rest) (hn : ¬ n < 0) (hk : ¬ k < 0) (hn2 : n.toNatClampNeg ≤ 5000) (hk2 : k.toNatClampNeg ≤ 5000)
    (hcells : cells + (1 + n.toNatClampNeg) ≤ R.cells) (hslots : slots + (n.toNatClampNeg + n.toNatClampNeg * k.toNatClampNeg) ≤ R.slots)
    (kk : ∀ (cA cB : ClassId) (H' : Heap), s.vm.findClass "[[I" = some cA → s.vm.findClass "[I" = some cB → H'.size = H.size + 1 + n.toNatClampNeg → H'[H.size]? = some (arrV cA n.toNatClampNeg (fun j => .ref (H.size + 1 + j))) →
      (∀ j, j < n.toNatClampNeg → H'[H.size + 1 + j]? = some (arrV cB k.toNatClampNeg (fun _ => .int 0))) → (∀ a, a < H.size → H'[a]? = H[a]?) →
      W p l e R s m args below meth c H' (locs ++ (List.range n.toNatClampNeg).map fun j => ⟨H.size, j⟩) (cells + 1 + n.toNatClampNeg) (slots + n.toNatClampNeg + n.toNatClampNeg * k.toNatClampNeg) Q { g with pc := g.pc + 4, stack := .ref H.size :: rest }) :
    W p l e R s m args below meth c H locs cells slots Q g := by
  intro T hT X
  subst hT; subst hb; subst hg
  have hpl : e.platform.magicAccessors = ({} : Platform).magicAccessors := by rw [X.admits.platform]
  obtain ⟨cB, cA, kA, hcB, hkA, hkindA, hcA⟩ := hover
  obtain ⟨cB', kB, cI, hcB', hkB, hkindB⟩ := Cond.arrayClass_spec harr
  cases hcB.symm.trans hcB'
  obtain ⟨c0, hfc0, hcl⟩ := Cond.classLink_spec hown hcl e.platform hpl
  cases hcA.symm.trans hfc0
  obtain ⟨hg₁, hwarm₁, hready₁⟩ := State.classEntry (e := e) X.warmed hcl
  generalize T.vm.noted g.method.cls index (.cls cA) = vm₁ at hg₁ hwarm₁ hready₁
  obtain ⟨kA₁, hkA₁, heA⟩ := hwarm₁.alike.2.2 _ _ hkA
  obtain ⟨kB₁, hkB₁, heB⟩ := hwarm₁.alike.2.2 _ _ hkB
  have hkindA₁ : kA₁.kind = .array cB (.array .int) := by rw [heA]; exact hkindA
  have hkindB₁ : kB₁.kind = .array cI .int := by rw [heB]; exact hkindB
  have X₁ := X.noted hwarm₁
  obtain ⟨hr1, hr2⟩ := X.roomAbove hcells hslots
  have XF := hl_mf_stand X₁ cA cB n.toNatClampNeg k.toNatClampNeg n.toNatClampNeg
  obtain ⟨q1, q2, q3, q4, q5, q6⟩ := hl_mf_facts (T.setVm vm₁) cA cB n.toNatClampNeg k.toNatClampNeg n.toNatClampNeg
  obtain ⟨t, a1, b1⟩ := kk cA cB _ hcA hcB q2 (by
    rw [show (T.setVm vm₁).heap.size = T.heap.size from rfl] at q4
    rw [q4]
    congr 1
    unfold hl_mC arrV
    congr 1
    apply Array.ext
    · simp
    · intro i h1 h2
      have hi : i < n.toNatClampNeg := by simpa using h1
      simp [hi]) q5 q6 _ rfl XF
  refine ⟨t, ?_, b1⟩
  have hl1 : ¬ n.toNatClampNeg > e.platform.arrayLengthLimit := by rw [Launch.admits_arrayLengthLimit X.admits]; omega
  have hh1 : ¬ n.toNatClampNeg * componentBytes (.array .int) > e.platform.maxHeapBytes := by
    rw [Launch.admits_maxHeapBytes X.admits]; show ¬ n.toNatClampNeg * 4 > 536870912; omega
  have hl2 : ¬ k.toNatClampNeg > e.platform.arrayLengthLimit := by rw [Launch.admits_arrayLengthLimit X.admits]; omega
  have hh2 : ¬ k.toNatClampNeg * componentBytes .int > e.platform.maxHeapBytes := by
    rw [Launch.admits_maxHeapBytes X.admits]; show ¬ k.toNatClampNeg * 4 > 536870912; omega
  jvm_step X.here [hexec, hdg]
  simp only [multianewarray.sem, wp_bind', W.resolveClassAt_links (State.method?_setTop g X.here.top) hg₁]
  rw [W.popN, if_neg (by decide)]
  refine ⟨g, State.topJava?_setTop' (s := T.setVm vm₁) g X.here.top, [.int n, .int k], rest, rfl, hstack, ?_⟩
  simp only [List.mapM_cons, List.mapM_nil, wp_bind', wp_pure']
  have eS : ((T.setTop g).setVm vm₁).setTop { g with stack := rest } = (T.setVm vm₁).setTop { g with stack := rest } := by
    show ((T.setVm vm₁).setTop g).setTop _ = _
    rw [State.setTop_setTop]
  rw [eS]
  have hfind : ([k].find? (· < 0)) = none := by simp [hk]
  rw [multianewarray.make]
  simp only [wp_bind', W.ite, hn, if_false, wp_pure', W.theClass, show ((T.setVm vm₁).setTop { g with stack := rest }).vm.classes[cA]? = some kA₁ from hkA₁, hkindA₁, Option.some.injEq, exists_eq_left']
  refine hl_na (k := kA₁) (co := cB) (ty := .array .int) hkA₁ hkindA₁ rfl rfl hl1 hh1 (by show T.heap.size < _; omega) (by show T.slotsUsed + _ ≤ _; have := Nat.zero_le (n.toNatClampNeg * k.toNatClampNeg); omega) ?_
  simp only [hfind]
  rw [ite_self, wp_bind', Std.Legacy.Range.forIn_eq_forIn_range']
  have hsz : ([:n.toNatClampNeg] : Std.Legacy.Range).size = n.toNatClampNeg := by simp [Std.Legacy.Range.size]
  rw [hsz]
  generalize hgg : ({ g with stack := rest } : JFrame) = g2
  show wp (forIn (List.range' 0 n.toNatClampNeg 1) PUnit.unit _) _ _ e _ _ (((T.setVm vm₁).pushCell (arrV cA n.toNatClampNeg (fun _ => .null))).setTop g2)
  refine wp_forIn_inv (fun rs s' => ∃ i, i ≤ n.toNatClampNeg ∧ rs = List.range' i (n.toNatClampNeg - i) ∧ s' = (hl_mf (T.setVm vm₁) cA cB n.toNatClampNeg k.toNatClampNeg i).setTop g2) _ _ ⟨0, Nat.zero_le _, rfl, ?_⟩ ?_ ?_
  · show _ = ((T.setVm vm₁).pushCell (hl_mC cA n.toNatClampNeg _ 0)).setTop g2
    unfold hl_mC
    simp
  · rintro x rs s' d' acts' Q' ⟨i, hi, hl, rfl⟩ hnext
    have hlt : i < n.toNatClampNeg := by
      rcases Nat.lt_or_ge i n.toNatClampNeg with h | h
      · exact h
      · rw [Nat.sub_eq_zero_of_le h] at hl; cases hl
    obtain ⟨rfl, hrest⟩ : x = i ∧ rs = List.range' (i + 1) (n.toNatClampNeg - (i + 1)) := by
      rw [show n.toNatClampNeg - i = (n.toNatClampNeg - (i + 1)) + 1 by omega, List.range'_succ] at hl
      exact ⟨(List.cons.inj hl).1, (List.cons.inj hl).2⟩
    obtain ⟨f1, f2, f3, f4, f5, f6⟩ := hl_mf_facts (T.setVm vm₁) cA cB n.toNatClampNeg k.toNatClampNeg x
    have z0 : (T.setVm vm₁).heap.size = T.heap.size := rfl
    have z1 : (T.setVm vm₁).slotsUsed = T.slotsUsed := rfl
    have hmul : x * k.toNatClampNeg + k.toNatClampNeg ≤ n.toNatClampNeg * k.toNatClampNeg := by
      have := Nat.mul_le_mul_right k.toNatClampNeg (show x + 1 ≤ n.toNatClampNeg from hlt)
      rw [Nat.succ_mul] at this; exact this
    simp only [wp_bind']
    rw [multianewarray.make]
    simp only [wp_bind', W.ite, hk, if_false, wp_pure', W.theClass, show ((hl_mf (T.setVm vm₁) cA cB n.toNatClampNeg k.toNatClampNeg x).setTop g2).vm.classes[cB]? = some kB₁ from (by show (hl_mf (T.setVm vm₁) cA cB n.toNatClampNeg k.toNatClampNeg x).vm.classes[cB]? = some kB₁; rw [f1]; exact hkB₁), hkindB₁, Option.some.injEq, exists_eq_left']
    refine hl_na (k := kB₁) (co := cI) (ty := .int) (by show (hl_mf (T.setVm vm₁) cA cB n.toNatClampNeg k.toNatClampNeg x).vm.classes[cB]? = some kB₁; rw [f1]; exact hkB₁) hkindB₁ rfl rfl hl2 hh2 (by show (hl_mf (T.setVm vm₁) cA cB n.toNatClampNeg k.toNatClampNeg x).heap.size < _; omega) (by show (hl_mf (T.setVm vm₁) cA cB n.toNatClampNeg k.toNatClampNeg x).slotsUsed + _ ≤ _; omega) ?_
    simp only [wp_bind', W.writeLoc, wp_pure']
    refine ⟨hl_mC cA n.toNatClampNeg T.heap.size x, ?_, (fun h => by cases h), ?_, ?_, hnext _ _ _ ⟨x + 1, hlt, hrest, ?_⟩⟩
    · show ((hl_mf (T.setVm vm₁) cA cB n.toNatClampNeg k.toNatClampNeg x).pushCell _).heap[T.heap.size]? = _
      rw [State.heap_pushCell_of_lt (h := (by omega : T.heap.size < (hl_mf (T.setVm vm₁) cA cB n.toNatClampNeg k.toNatClampNeg x).heap.size))]; exact f4
    · rw [show (hl_mC cA n.toNatClampNeg T.heap.size x).slots.size = n.toNatClampNeg from arrV_size _ _ _]; exact hlt
    · have e3 : (hl_mf (T.setVm vm₁) cA cB n.toNatClampNeg k.toNatClampNeg x).vm = vm₁ := f1
      simp [State.fitsSlot, State.slotType?, e3, hl_mC, arrV, hkA₁, hkindA₁, fits]
    · show (((hl_mf (T.setVm vm₁) cA cB n.toNatClampNeg k.toNatClampNeg x).pushCell (arrV cB k.toNatClampNeg fun _ => .int 0)).setCell T.heap.size ((hl_mC cA n.toNatClampNeg T.heap.size x).setSlot x (.ref (hl_mf (T.setVm vm₁) cA cB n.toNatClampNeg k.toNatClampNeg x).heap.size))).setTop g2 = _
      rw [f2, show (T.setVm vm₁).heap.size = T.heap.size from rfl, hl_mC_set]
      rfl
  · rintro s' d' acts' ⟨i, hi, hl, rfl⟩
    have hiN : i = n.toNatClampNeg := by
      rcases Nat.lt_or_ge i n.toNatClampNeg with h | h
      · rw [show n.toNatClampNeg - i = (n.toNatClampNeg - (i + 1)) + 1 by omega, List.range'_succ] at hl; cases hl
      · omega
    subst hiN
    subst hgg
    simp only [wp_bind', wp_pure', W.mark, W.pushRef, State.topJava?_setTop' _ XF.here.top, Option.some.injEq, exists_eq_left', State.setTop_setTop, State.heap_setTop]
    intro acts
    simp [jvm, XF.here.top]
    exact a1
end HLM
