/-! one rule an instruction -/
/-- the instruction at pc, and the next one's place -/
def hl_d (b : ByteArray) (pc : Nat) (i : Instr) (n nx : Nat) : Prop := decode b pc = .ok (i, n) ∧ pc + n = nx
section HLR
variable {X : hl_X} {D : Nat} {y : hl_Y} {pc nx tg : Nat} {ls : List (Nat × Value)} {st : List Value} {σ τ : hl_M} {v : Option Value}
def hl_lk : List (Nat × Value) → Nat → Option Value
  | [], _ => none
  | q :: r, i => if q.1 = i then some q.2 else hl_lk r i
theorem hl_lk_mem : ∀ {l : List (Nat × Value)} {i : Nat} {w : Value}, hl_lk l i = some w → (i, w) ∈ l := by
  intro l
  induction l with
  | nil => intro i w h; cases h
  | cons q r ih =>
    intro i w h
    unfold hl_lk at h
    split at h
    next e =>
      cases h
      subst e
      exact List.mem_cons_self
    next => exact List.mem_cons_of_mem _ (ih h)
theorem hl_lv {la : Array Slot} {n : Nat} {g : hl_G} {i : Nat} {w : Value} (h : lv_has la n (hl_cvl g ls)) (hl : hl_lk ls i = some w) : la[i]? = some (.val (hl_cv g w)) :=
  h.2.2 (i, hl_cv g w) (List.mem_map.mpr ⟨(i, w), hl_lk_mem hl, rfl⟩)
/-- fewer locals -/
def hl_sub : List (Nat × Value) → List (Nat × Value) → Prop
  | [], _ => True
  | q :: r, l => hl_lk l q.1 = some q.2 ∧ hl_sub r l
theorem hl_sub_mem : ∀ {l l' : List (Nat × Value)}, hl_sub l' l → ∀ q ∈ l', hl_lk l q.1 = some q.2 := by
  intro l l'
  induction l' with
  | nil => intro _ q h; cases h
  | cons a r ih =>
    intro h q hq
    rcases List.mem_cons.mp hq with rfl | hq
    · exact h.1
    · exact ih h.2 q hq
theorem hl_R.loc {ls' : List (Nat × Value)} (h : hl_sub ls' ls) (k : hl_R X D y pc ls' st σ v τ) : hl_R X D y pc ls st σ v τ := by
  intro g p l e R s m args below meth c H locs cells slots Q la hC hI hL hret
  refine k g p l e R s m args below meth c H locs cells slots Q la hC hI ⟨hL.1, hL.2.1, fun q hq => ?_⟩ hret
  obtain ⟨a, ha, rfl⟩ := List.mem_map.mp hq
  exact hl_lv hL (hl_sub_mem h a ha)
theorem hl_R.dle {D' : Nat} (h : D' ≤ D) (k : hl_R X D' y pc ls st σ v τ) : hl_R X D y pc ls st σ v τ := by
  intro g p l e R s m args below meth c H locs cells slots Q la hC hI hL hret
  obtain ⟨h1, h2, h3, h4, h5, h6, h7⟩ := hC
  exact k g p l e R s m args below meth c H locs cells slots Q la ⟨h1, h2, h3, h4, h5, by omega, by omega⟩ hI hL hret
def hl_s1 (l : List (Nat × Value)) (i : Nat) (w : Value) : List (Nat × Value) := (i, w) :: l.filter (fun q => !(q.1 == i) && !(q.1 + 1 == i && q.2.category == 2))
def hl_s2 (l : List (Nat × Value)) (i : Nat) (w : Value) : List (Nat × Value) := (i, w) :: l.filter (fun q => !(q.1 == i) && (!(q.1 == i + 1) && !(q.1 + 1 == i && q.2.category == 2)))
theorem hl_cvl_filter {g : hl_G} (hg : g.2.2.2.category = 1) (f : Nat → Nat → Bool) (l : List (Nat × Value)) : (hl_cvl g l).filter (fun q => f q.1 q.2.category) = hl_cvl g (l.filter (fun q => f q.1 q.2.category)) := by
  induction l with
  | nil => rfl
  | cons a r ih =>
    show List.filter _ ((a.1, hl_cv g a.2) :: hl_cvl g r) = _
    rw [List.filter_cons, List.filter_cons]
    simp only [hl_cv_cat hg]
    split
    · rw [ih]; rfl
    · exact ih
theorem hl_s1_cv {g : hl_G} (hg : g.2.2.2.category = 1) {i : Nat} {w : Value} : (i, hl_cv g w) :: (hl_cvl g ls).filter (fun q => !(q.1 == i) && !(q.1 + 1 == i && q.2.category == 2)) = hl_cvl g (hl_s1 ls i w) := by
  rw [hl_cvl_filter hg (fun a b => !(a == i) && !(a + 1 == i && b == 2))]
  rfl
theorem hl_s2_cv {g : hl_G} (hg : g.2.2.2.category = 1) {i : Nat} {w : Value} : (i, hl_cv g w) :: (hl_cvl g ls).filter (fun q => !(q.1 == i) && (!(q.1 == i + 1) && !(q.1 + 1 == i && q.2.category == 2))) = hl_cvl g (hl_s2 ls i w) := by
  rw [hl_cvl_filter hg (fun a b => !(a == i) && (!(a == i + 1) && !(a + 1 == i && b == 2)))]
  rfl
theorem hl_iconst {n : Int} {x : Int32} (hd : hl_d y.2.1 pc (.iconst n) 1 nx) (hx : Int32.ofInt n = x) (k : hl_R X D y nx ls (.int x :: st) σ v τ) : hl_R X D y pc ls st σ v τ := by
  obtain ⟨hd, rfl⟩ := hd
  intro g p l e R s m args below meth c H locs cells slots Q la hC hI hL hret
  exact lv_iconst hC.1 hC.2.1 hd hx (k g p l e R s m args below meth c H locs cells slots Q la hC hI hL hret)
theorem hl_bipush {n : Int} {x : Int32} (hd : hl_d y.2.1 pc (.bipush n) 2 nx) (hx : (Int8.ofInt n).toInt32 = x) (k : hl_R X D y nx ls (.int x :: st) σ v τ) : hl_R X D y pc ls st σ v τ := by
  obtain ⟨hd, rfl⟩ := hd
  intro g p l e R s m args below meth c H locs cells slots Q la hC hI hL hret
  exact lv_bipush hC.1 hC.2.1 hd hx (k g p l e R s m args below meth c H locs cells slots Q la hC hI hL hret)
theorem hl_sipush {n : Int} {x : Int32} (hd : hl_d y.2.1 pc (.sipush n) 3 nx) (hx : (Int16.ofInt n).toInt32 = x) (k : hl_R X D y nx ls (.int x :: st) σ v τ) : hl_R X D y pc ls st σ v τ := by
  obtain ⟨hd, rfl⟩ := hd
  intro g p l e R s m args below meth c H locs cells slots Q la hC hI hL hret
  exact lv_sipush hC.1 hC.2.1 hd hx (k g p l e R s m args below meth c H locs cells slots Q la hC hI hL hret)
theorem hl_lconst {n : Fin 2} {x : Int64} (hd : hl_d y.2.1 pc (.lconst n) 1 nx) (hx : Int64.ofNat (n : Nat) = x) (k : hl_R X D y nx ls (.long x :: st) σ v τ) : hl_R X D y pc ls st σ v τ := by
  obtain ⟨hd, rfl⟩ := hd
  intro g p l e R s m args below meth c H locs cells slots Q la hC hI hL hret
  exact lv_lconst hC.1 hC.2.1 hd hx (k g p l e R s m args below meth c H locs cells slots Q la hC hI hL hret)
theorem hl_iload_n {n : Fin 4} {i : Nat} {x : Int32} (hd : hl_d y.2.1 pc (.iload_n n) 1 nx) (hi : (n : Nat) = i) (hl : hl_lk ls i = some (.int x)) (k : hl_R X D y nx ls (.int x :: st) σ v τ) : hl_R X D y pc ls st σ v τ := by
  obtain ⟨hd, rfl⟩ := hd
  intro g p l e R s m args below meth c H locs cells slots Q la hC hI hL hret
  exact lv_iload_n hC.1 hC.2.1 hd hi (hl_lv hL hl) (k g p l e R s m args below meth c H locs cells slots Q la hC hI hL hret)
theorem hl_iload {i : Nat} {x : Int32} (hd : hl_d y.2.1 pc (.iload i) 2 nx) (hl : hl_lk ls i = some (.int x)) (k : hl_R X D y nx ls (.int x :: st) σ v τ) : hl_R X D y pc ls st σ v τ := by
  obtain ⟨hd, rfl⟩ := hd
  intro g p l e R s m args below meth c H locs cells slots Q la hC hI hL hret
  exact lv_iload hC.1 hC.2.1 hd (hl_lv hL hl) (k g p l e R s m args below meth c H locs cells slots Q la hC hI hL hret)
theorem hl_lload_n {n : Fin 4} {i : Nat} {x : Int64} (hd : hl_d y.2.1 pc (.lload_n n) 1 nx) (hi : (n : Nat) = i) (hl : hl_lk ls i = some (.long x)) (k : hl_R X D y nx ls (.long x :: st) σ v τ) : hl_R X D y pc ls st σ v τ := by
  obtain ⟨hd, rfl⟩ := hd
  intro g p l e R s m args below meth c H locs cells slots Q la hC hI hL hret
  exact lv_lload_n hC.1 hC.2.1 hd hi (hl_lv hL hl) (k g p l e R s m args below meth c H locs cells slots Q la hC hI hL hret)
theorem hl_lload {i : Nat} {x : Int64} (hd : hl_d y.2.1 pc (.lload i) 2 nx) (hl : hl_lk ls i = some (.long x)) (k : hl_R X D y nx ls (.long x :: st) σ v τ) : hl_R X D y pc ls st σ v τ := by
  obtain ⟨hd, rfl⟩ := hd
  intro g p l e R s m args below meth c H locs cells slots Q la hC hI hL hret
  exact lv_lload hC.1 hC.2.1 hd (hl_lv hL hl) (k g p l e R s m args below meth c H locs cells slots Q la hC hI hL hret)
theorem hl_cv_ref {g : hl_G} {q : Nat} (hq : ¬ q = 999) : hl_cv g (.ref q) = .ref (g.1 q) := if_neg hq
theorem hl_aload_n {n : Fin 4} {i q : Nat} (hd : hl_d y.2.1 pc (.aload_n n) 1 nx) (hi : (n : Nat) = i) (hl : hl_lk ls i = some (.ref q)) (hq : ¬ q = 999) (k : hl_R X D y nx ls (.ref q :: st) σ v τ) : hl_R X D y pc ls st σ v τ := by
  obtain ⟨hd, rfl⟩ := hd
  intro g p l e R s m args below meth c H locs cells slots Q la hC hI hL hret
  have k2 := k g p l e R s m args below meth c H locs cells slots Q la hC hI hL hret
  rw [List.map_cons, hl_cv_ref hq] at k2
  exact lv_aload_n hC.1 hC.2.1 hd hi (by rw [hl_lv hL hl, hl_cv_ref hq]) k2
theorem hl_aload {i q : Nat} (hd : hl_d y.2.1 pc (.aload i) 2 nx) (hl : hl_lk ls i = some (.ref q)) (hq : ¬ q = 999) (k : hl_R X D y nx ls (.ref q :: st) σ v τ) : hl_R X D y pc ls st σ v τ := by
  obtain ⟨hd, rfl⟩ := hd
  intro g p l e R s m args below meth c H locs cells slots Q la hC hI hL hret
  have k2 := k g p l e R s m args below meth c H locs cells slots Q la hC hI hL hret
  rw [List.map_cons, hl_cv_ref hq] at k2
  exact lv_aload hC.1 hC.2.1 hd (by rw [hl_lv hL hl, hl_cv_ref hq]) k2
theorem hl_istore_n {n : Fin 4} {i : Nat} {x : Int32} (hd : hl_d y.2.1 pc (.istore_n n) 1 nx) (hi : (n : Nat) = i) (hn : i < y.2.2.1) {ls2 : List (Nat × Value)} (hls : hl_s1 ls i (.int x) = ls2) (k : hl_R X D y nx ls2 st σ v τ) : hl_R X D y pc ls (.int x :: st) σ v τ := by
  obtain ⟨hd, rfl⟩ := hd
  subst hls
  intro g p l e R s m args below meth c H locs cells slots Q la hC hI hL hret
  exact lv_istore_n hC.1 hC.2.1 hd hi hL hn (hl_s1_cv hI.2.2.2.2.1.1 (w := .int x)) (fun la' hL' => k g p l e R s m args below meth c H locs cells slots Q la' hC hI hL' hret)
theorem hl_istore {i : Nat} {x : Int32} (hd : hl_d y.2.1 pc (.istore i) 2 nx) (hn : i < y.2.2.1) {ls2 : List (Nat × Value)} (hls : hl_s1 ls i (.int x) = ls2) (k : hl_R X D y nx ls2 st σ v τ) : hl_R X D y pc ls (.int x :: st) σ v τ := by
  obtain ⟨hd, rfl⟩ := hd
  subst hls
  intro g p l e R s m args below meth c H locs cells slots Q la hC hI hL hret
  exact lv_istore hC.1 hC.2.1 hd hL hn (hl_s1_cv hI.2.2.2.2.1.1 (w := .int x)) (fun la' hL' => k g p l e R s m args below meth c H locs cells slots Q la' hC hI hL' hret)
theorem hl_lstore_n {n : Fin 4} {i : Nat} {x : Int64} (hd : hl_d y.2.1 pc (.lstore_n n) 1 nx) (hi : (n : Nat) = i) (hn : i + 1 < y.2.2.1) {ls2 : List (Nat × Value)} (hls : hl_s2 ls i (.long x) = ls2) (k : hl_R X D y nx ls2 st σ v τ) : hl_R X D y pc ls (.long x :: st) σ v τ := by
  obtain ⟨hd, rfl⟩ := hd
  subst hls
  intro g p l e R s m args below meth c H locs cells slots Q la hC hI hL hret
  exact lv_lstore_n hC.1 hC.2.1 hd hi hL hn (hl_s2_cv hI.2.2.2.2.1.1 (w := .long x)) (fun la' hL' => k g p l e R s m args below meth c H locs cells slots Q la' hC hI hL' hret)
theorem hl_lstore {i : Nat} {x : Int64} (hd : hl_d y.2.1 pc (.lstore i) 2 nx) (hn : i + 1 < y.2.2.1) {ls2 : List (Nat × Value)} (hls : hl_s2 ls i (.long x) = ls2) (k : hl_R X D y nx ls2 st σ v τ) : hl_R X D y pc ls (.long x :: st) σ v τ := by
  obtain ⟨hd, rfl⟩ := hd
  subst hls
  intro g p l e R s m args below meth c H locs cells slots Q la hC hI hL hret
  exact lv_lstore hC.1 hC.2.1 hd hL hn (hl_s2_cv hI.2.2.2.2.1.1 (w := .long x)) (fun la' hL' => k g p l e R s m args below meth c H locs cells slots Q la' hC hI hL' hret)
theorem hl_astore_n {n : Fin 4} {i q : Nat} (hd : hl_d y.2.1 pc (.astore_n n) 1 nx) (hi : (n : Nat) = i) (hn : i < y.2.2.1) (hq : ¬ q = 999) {ls2 : List (Nat × Value)} (hls : hl_s1 ls i (.ref q) = ls2) (k : hl_R X D y nx ls2 st σ v τ) : hl_R X D y pc ls (.ref q :: st) σ v τ := by
  obtain ⟨hd, rfl⟩ := hd
  subst hls
  intro g p l e R s m args below meth c H locs cells slots Q la hC hI hL hret
  rw [List.map_cons, hl_cv_ref hq]
  exact lv_astore_n hC.1 hC.2.1 hd hi hL hn (by rw [← hl_cv_ref (g := g) hq]; exact hl_s1_cv hI.2.2.2.2.1.1 (w := .ref q)) (fun la' hL' => k g p l e R s m args below meth c H locs cells slots Q la' hC hI hL' hret)
theorem hl_iinc {i : Nat} {n : Int} {x z : Int32} (hd : hl_d y.2.1 pc (.iinc i n) 3 nx) (hl : hl_lk ls i = some (.int x)) (hz : Int32.ofInt n = z) (hn : i < y.2.2.1) {ls2 : List (Nat × Value)} (hls : hl_s1 ls i (.int (x + z)) = ls2) (k : hl_R X D y nx ls2 st σ v τ) : hl_R X D y pc ls st σ v τ := by
  obtain ⟨hd, rfl⟩ := hd
  subst hls
  intro g p l e R s m args below meth c H locs cells slots Q la hC hI hL hret
  obtain ⟨j, hj⟩ := List.getElem?_of_mem (hl_lk_mem hl)
  refine lv_iinc (k := j) hC.1 hC.2.1 hd hL (x := x) ?_ (by rw [hz]) hn (hl_s1_cv hI.2.2.2.2.1.1 (w := .int (x + z))) (fun la' hL' => k g p l e R s m args below meth c H locs cells slots Q la' hC hI hL' hret)
  rw [List.getElem?_map, hj]
  rfl
theorem hl_iadd {a b : Int32} (hd : hl_d y.2.1 pc .iadd 1 nx) (k : hl_R X D y nx ls (.int (a + b) :: st) σ v τ) : hl_R X D y pc ls (.int b :: .int a :: st) σ v τ := by
  obtain ⟨hd, rfl⟩ := hd
  intro g p l e R s m args below meth c H locs cells slots Q la hC hI hL hret
  exact lv_iadd hC.1 hC.2.1 hd (k g p l e R s m args below meth c H locs cells slots Q la hC hI hL hret)
theorem hl_isub {a b : Int32} (hd : hl_d y.2.1 pc .isub 1 nx) (k : hl_R X D y nx ls (.int (a - b) :: st) σ v τ) : hl_R X D y pc ls (.int b :: .int a :: st) σ v τ := by
  obtain ⟨hd, rfl⟩ := hd
  intro g p l e R s m args below meth c H locs cells slots Q la hC hI hL hret
  exact lv_isub hC.1 hC.2.1 hd (k g p l e R s m args below meth c H locs cells slots Q la hC hI hL hret)
theorem hl_imul {a b : Int32} (hd : hl_d y.2.1 pc .imul 1 nx) (k : hl_R X D y nx ls (.int (a * b) :: st) σ v τ) : hl_R X D y pc ls (.int b :: .int a :: st) σ v τ := by
  obtain ⟨hd, rfl⟩ := hd
  intro g p l e R s m args below meth c H locs cells slots Q la hC hI hL hret
  exact lv_imul hC.1 hC.2.1 hd (k g p l e R s m args below meth c H locs cells slots Q la hC hI hL hret)
theorem hl_iand {a b : Int32} (hd : hl_d y.2.1 pc .iand 1 nx) (k : hl_R X D y nx ls (.int (a &&& b) :: st) σ v τ) : hl_R X D y pc ls (.int b :: .int a :: st) σ v τ := by
  obtain ⟨hd, rfl⟩ := hd
  intro g p l e R s m args below meth c H locs cells slots Q la hC hI hL hret
  exact lv_iand hC.1 hC.2.1 hd (k g p l e R s m args below meth c H locs cells slots Q la hC hI hL hret)
theorem hl_ior {a b : Int32} (hd : hl_d y.2.1 pc .ior 1 nx) (k : hl_R X D y nx ls (.int (a ||| b) :: st) σ v τ) : hl_R X D y pc ls (.int b :: .int a :: st) σ v τ := by
  obtain ⟨hd, rfl⟩ := hd
  intro g p l e R s m args below meth c H locs cells slots Q la hC hI hL hret
  exact lv_ior hC.1 hC.2.1 hd (k g p l e R s m args below meth c H locs cells slots Q la hC hI hL hret)
theorem hl_ixor {a b : Int32} (hd : hl_d y.2.1 pc .ixor 1 nx) (k : hl_R X D y nx ls (.int (a ^^^ b) :: st) σ v τ) : hl_R X D y pc ls (.int b :: .int a :: st) σ v τ := by
  obtain ⟨hd, rfl⟩ := hd
  intro g p l e R s m args below meth c H locs cells slots Q la hC hI hL hret
  exact lv_ixor hC.1 hC.2.1 hd (k g p l e R s m args below meth c H locs cells slots Q la hC hI hL hret)
theorem hl_ishl {a b : Int32} (hd : hl_d y.2.1 pc .ishl 1 nx) (k : hl_R X D y nx ls (.int (a <<< (b &&& 31)) :: st) σ v τ) : hl_R X D y pc ls (.int b :: .int a :: st) σ v τ := by
  obtain ⟨hd, rfl⟩ := hd
  intro g p l e R s m args below meth c H locs cells slots Q la hC hI hL hret
  exact lv_ishl hC.1 hC.2.1 hd (k g p l e R s m args below meth c H locs cells slots Q la hC hI hL hret)
theorem hl_ishr {a b : Int32} (hd : hl_d y.2.1 pc .ishr 1 nx) (k : hl_R X D y nx ls (.int (a >>> (b &&& 31)) :: st) σ v τ) : hl_R X D y pc ls (.int b :: .int a :: st) σ v τ := by
  obtain ⟨hd, rfl⟩ := hd
  intro g p l e R s m args below meth c H locs cells slots Q la hC hI hL hret
  exact lv_ishr hC.1 hC.2.1 hd (k g p l e R s m args below meth c H locs cells slots Q la hC hI hL hret)
theorem hl_ladd {a b : Int64} (hd : hl_d y.2.1 pc .ladd 1 nx) (k : hl_R X D y nx ls (.long (a + b) :: st) σ v τ) : hl_R X D y pc ls (.long b :: .long a :: st) σ v τ := by
  obtain ⟨hd, rfl⟩ := hd
  intro g p l e R s m args below meth c H locs cells slots Q la hC hI hL hret
  exact lv_ladd hC.1 hC.2.1 hd (k g p l e R s m args below meth c H locs cells slots Q la hC hI hL hret)
theorem hl_lsub {a b : Int64} (hd : hl_d y.2.1 pc .lsub 1 nx) (k : hl_R X D y nx ls (.long (a - b) :: st) σ v τ) : hl_R X D y pc ls (.long b :: .long a :: st) σ v τ := by
  obtain ⟨hd, rfl⟩ := hd
  intro g p l e R s m args below meth c H locs cells slots Q la hC hI hL hret
  exact lv_lsub hC.1 hC.2.1 hd (k g p l e R s m args below meth c H locs cells slots Q la hC hI hL hret)
theorem hl_lmul {a b : Int64} (hd : hl_d y.2.1 pc .lmul 1 nx) (k : hl_R X D y nx ls (.long (a * b) :: st) σ v τ) : hl_R X D y pc ls (.long b :: .long a :: st) σ v τ := by
  obtain ⟨hd, rfl⟩ := hd
  intro g p l e R s m args below meth c H locs cells slots Q la hC hI hL hret
  exact lv_lmul hC.1 hC.2.1 hd (k g p l e R s m args below meth c H locs cells slots Q la hC hI hL hret)
theorem hl_land {a b : Int64} (hd : hl_d y.2.1 pc .land 1 nx) (k : hl_R X D y nx ls (.long (a &&& b) :: st) σ v τ) : hl_R X D y pc ls (.long b :: .long a :: st) σ v τ := by
  obtain ⟨hd, rfl⟩ := hd
  intro g p l e R s m args below meth c H locs cells slots Q la hC hI hL hret
  exact lv_land hC.1 hC.2.1 hd (k g p l e R s m args below meth c H locs cells slots Q la hC hI hL hret)
theorem hl_lor {a b : Int64} (hd : hl_d y.2.1 pc .lor 1 nx) (k : hl_R X D y nx ls (.long (a ||| b) :: st) σ v τ) : hl_R X D y pc ls (.long b :: .long a :: st) σ v τ := by
  obtain ⟨hd, rfl⟩ := hd
  intro g p l e R s m args below meth c H locs cells slots Q la hC hI hL hret
  exact lv_lor hC.1 hC.2.1 hd (k g p l e R s m args below meth c H locs cells slots Q la hC hI hL hret)
theorem hl_lxor {a b : Int64} (hd : hl_d y.2.1 pc .lxor 1 nx) (k : hl_R X D y nx ls (.long (a ^^^ b) :: st) σ v τ) : hl_R X D y pc ls (.long b :: .long a :: st) σ v τ := by
  obtain ⟨hd, rfl⟩ := hd
  intro g p l e R s m args below meth c H locs cells slots Q la hC hI hL hret
  exact lv_lxor hC.1 hC.2.1 hd (k g p l e R s m args below meth c H locs cells slots Q la hC hI hL hret)
theorem hl_idiv {a b : Int32} (hd : hl_d y.2.1 pc .idiv 1 nx) (hb : ¬ b = 0) (k : hl_R X D y nx ls (.int (a / b) :: st) σ v τ) : hl_R X D y pc ls (.int b :: .int a :: st) σ v τ := by
  obtain ⟨hd, rfl⟩ := hd
  intro g p l e R s m args below meth c H locs cells slots Q la hC hI hL hret
  exact lv_idiv hC.1 hC.2.1 hd hb (k g p l e R s m args below meth c H locs cells slots Q la hC hI hL hret)
theorem hl_ldiv {a b : Int64} (hd : hl_d y.2.1 pc .ldiv 1 nx) (hb : ¬ b = 0) (k : hl_R X D y nx ls (.long (a / b) :: st) σ v τ) : hl_R X D y pc ls (.long b :: .long a :: st) σ v τ := by
  obtain ⟨hd, rfl⟩ := hd
  intro g p l e R s m args below meth c H locs cells slots Q la hC hI hL hret
  exact lv_ldiv hC.1 hC.2.1 hd hb (k g p l e R s m args below meth c H locs cells slots Q la hC hI hL hret)
theorem hl_irem {a b : Int32} (hd : hl_d y.2.1 pc .irem 1 nx) (hb : ¬ b = 0) (k : hl_R X D y nx ls (.int (a - a / b * b) :: st) σ v τ) : hl_R X D y pc ls (.int b :: .int a :: st) σ v τ := by
  obtain ⟨hd, rfl⟩ := hd
  intro g p l e R s m args below meth c H locs cells slots Q la hC hI hL hret
  exact lv_irem hC.1 hC.2.1 hd hb (k g p l e R s m args below meth c H locs cells slots Q la hC hI hL hret)
theorem hl_lrem {a b : Int64} (hd : hl_d y.2.1 pc .lrem 1 nx) (hb : ¬ b = 0) (k : hl_R X D y nx ls (.long (a - a / b * b) :: st) σ v τ) : hl_R X D y pc ls (.long b :: .long a :: st) σ v τ := by
  obtain ⟨hd, rfl⟩ := hd
  intro g p l e R s m args below meth c H locs cells slots Q la hC hI hL hret
  exact lv_lrem hC.1 hC.2.1 hd hb (k g p l e R s m args below meth c H locs cells slots Q la hC hI hL hret)
theorem hl_i2l {a : Int32} (hd : hl_d y.2.1 pc .i2l 1 nx) (k : hl_R X D y nx ls (.long (a.toInt64) :: st) σ v τ) : hl_R X D y pc ls (.int a :: st) σ v τ := by
  obtain ⟨hd, rfl⟩ := hd
  intro g p l e R s m args below meth c H locs cells slots Q la hC hI hL hret
  exact lv_i2l hC.1 hC.2.1 hd rfl (k g p l e R s m args below meth c H locs cells slots Q la hC hI hL hret)
theorem hl_l2i {a : Int64} (hd : hl_d y.2.1 pc .l2i 1 nx) (k : hl_R X D y nx ls (.int (a.toInt32) :: st) σ v τ) : hl_R X D y pc ls (.long a :: st) σ v τ := by
  obtain ⟨hd, rfl⟩ := hd
  intro g p l e R s m args below meth c H locs cells slots Q la hC hI hL hret
  exact lv_l2i hC.1 hC.2.1 hd rfl (k g p l e R s m args below meth c H locs cells slots Q la hC hI hL hret)
theorem hl_i2b {a : Int32} (hd : hl_d y.2.1 pc .i2b 1 nx) (k : hl_R X D y nx ls (.int (a.toInt8.toInt32) :: st) σ v τ) : hl_R X D y pc ls (.int a :: st) σ v τ := by
  obtain ⟨hd, rfl⟩ := hd
  intro g p l e R s m args below meth c H locs cells slots Q la hC hI hL hret
  exact lv_i2b hC.1 hC.2.1 hd rfl (k g p l e R s m args below meth c H locs cells slots Q la hC hI hL hret)
theorem hl_i2c {a : Int32} (hd : hl_d y.2.1 pc .i2c 1 nx) (k : hl_R X D y nx ls (.int ((a.toUInt32 % 65536).toInt32) :: st) σ v τ) : hl_R X D y pc ls (.int a :: st) σ v τ := by
  obtain ⟨hd, rfl⟩ := hd
  intro g p l e R s m args below meth c H locs cells slots Q la hC hI hL hret
  exact lv_i2c hC.1 hC.2.1 hd rfl (k g p l e R s m args below meth c H locs cells slots Q la hC hI hL hret)
theorem hl_iushr {a : Int32} {b : Int32} (hd : hl_d y.2.1 pc .iushr 1 nx) (k : hl_R X D y nx ls (.int ((a.toUInt32 >>> (b.toUInt32 &&& Int32.toUInt32 31)).toInt32) :: st) σ v τ) : hl_R X D y pc ls (.int b :: .int a :: st) σ v τ := by
  obtain ⟨hd, rfl⟩ := hd
  intro g p l e R s m args below meth c H locs cells slots Q la hC hI hL hret
  exact lv_iushr hC.1 hC.2.1 hd rfl (k g p l e R s m args below meth c H locs cells slots Q la hC hI hL hret)
theorem hl_lushr {a : Int64} {b : Int32} (hd : hl_d y.2.1 pc .lushr 1 nx) (k : hl_R X D y nx ls (.long ((a.toUInt64 >>> (b.toInt64.toUInt64 &&& Int64.toUInt64 63)).toInt64) :: st) σ v τ) : hl_R X D y pc ls (.int b :: .long a :: st) σ v τ := by
  obtain ⟨hd, rfl⟩ := hd
  intro g p l e R s m args below meth c H locs cells slots Q la hC hI hL hret
  exact lv_lushr hC.1 hC.2.1 hd rfl (k g p l e R s m args below meth c H locs cells slots Q la hC hI hL hret)
theorem hl_lshl {a : Int64} {b : Int32} (hd : hl_d y.2.1 pc .lshl 1 nx) (k : hl_R X D y nx ls (.long (a <<< (b.toInt64 &&& 63)) :: st) σ v τ) : hl_R X D y pc ls (.int b :: .long a :: st) σ v τ := by
  obtain ⟨hd, rfl⟩ := hd
  intro g p l e R s m args below meth c H locs cells slots Q la hC hI hL hret
  exact lv_lshl hC.1 hC.2.1 hd rfl (k g p l e R s m args below meth c H locs cells slots Q la hC hI hL hret)
theorem hl_lshr {a : Int64} {b : Int32} (hd : hl_d y.2.1 pc .lshr 1 nx) (k : hl_R X D y nx ls (.long (a >>> (b.toInt64 &&& 63)) :: st) σ v τ) : hl_R X D y pc ls (.int b :: .long a :: st) σ v τ := by
  obtain ⟨hd, rfl⟩ := hd
  intro g p l e R s m args below meth c H locs cells slots Q la hC hI hL hret
  exact lv_lshr hC.1 hC.2.1 hd rfl (k g p l e R s m args below meth c H locs cells slots Q la hC hI hL hret)
theorem hl_lcmp {a b : Int64} (hd : hl_d y.2.1 pc .lcmp 1 nx) (k : hl_R X D y nx ls (.int (lg_cmp a b) :: st) σ v τ) : hl_R X D y pc ls (.long b :: .long a :: st) σ v τ := by
  obtain ⟨hd, rfl⟩ := hd
  intro g p l e R s m args below meth c H locs cells slots Q la hC hI hL hret
  exact W.lcmp hC.1 hC.2.1 hd (k g p l e R s m args below meth c H locs cells slots Q la hC hI hL hret)
theorem hl_icmp_eq {a b : Int32} {off : Int} (hd : hl_d y.2.1 pc (.if_icmp .eq off) 3 nx) (ht : (pc : Int) + off = (tg : Int)) (kt : a = b → hl_R X D y tg ls st σ v τ) (kf : ¬ a = b → hl_R X D y nx ls st σ v τ) : hl_R X D y pc ls (.int b :: .int a :: st) σ v τ := by
  obtain ⟨hd, rfl⟩ := hd
  intro g p l e R s m args below meth c H locs cells slots Q la hC hI hL hret
  exact lv_icmp_eq hC.1 hC.2.1 hd ht (fun h => kt h g p l e R s m args below meth c H locs cells slots Q la hC hI hL hret) (fun h => kf h g p l e R s m args below meth c H locs cells slots Q la hC hI hL hret)
theorem hl_if_eq {a : Int32} {off : Int} (hd : hl_d y.2.1 pc (.ifCond .eq off) 3 nx) (ht : (pc : Int) + off = (tg : Int)) (kt : a = 0 → hl_R X D y tg ls st σ v τ) (kf : ¬ a = 0 → hl_R X D y nx ls st σ v τ) : hl_R X D y pc ls (.int a :: st) σ v τ := by
  obtain ⟨hd, rfl⟩ := hd
  intro g p l e R s m args below meth c H locs cells slots Q la hC hI hL hret
  exact lv_if_eq hC.1 hC.2.1 hd ht (fun h => kt h g p l e R s m args below meth c H locs cells slots Q la hC hI hL hret) (fun h => kf h g p l e R s m args below meth c H locs cells slots Q la hC hI hL hret)
theorem hl_icmp_ne {a b : Int32} {off : Int} (hd : hl_d y.2.1 pc (.if_icmp .ne off) 3 nx) (ht : (pc : Int) + off = (tg : Int)) (kt : ¬ a = b → hl_R X D y tg ls st σ v τ) (kf : a = b → hl_R X D y nx ls st σ v τ) : hl_R X D y pc ls (.int b :: .int a :: st) σ v τ := by
  obtain ⟨hd, rfl⟩ := hd
  intro g p l e R s m args below meth c H locs cells slots Q la hC hI hL hret
  exact lv_icmp_ne hC.1 hC.2.1 hd ht (fun h => kt h g p l e R s m args below meth c H locs cells slots Q la hC hI hL hret) (fun h => kf h g p l e R s m args below meth c H locs cells slots Q la hC hI hL hret)
theorem hl_if_ne {a : Int32} {off : Int} (hd : hl_d y.2.1 pc (.ifCond .ne off) 3 nx) (ht : (pc : Int) + off = (tg : Int)) (kt : ¬ a = 0 → hl_R X D y tg ls st σ v τ) (kf : a = 0 → hl_R X D y nx ls st σ v τ) : hl_R X D y pc ls (.int a :: st) σ v τ := by
  obtain ⟨hd, rfl⟩ := hd
  intro g p l e R s m args below meth c H locs cells slots Q la hC hI hL hret
  exact lv_if_ne hC.1 hC.2.1 hd ht (fun h => kt h g p l e R s m args below meth c H locs cells slots Q la hC hI hL hret) (fun h => kf h g p l e R s m args below meth c H locs cells slots Q la hC hI hL hret)
theorem hl_icmp_lt {a b : Int32} {off : Int} (hd : hl_d y.2.1 pc (.if_icmp .lt off) 3 nx) (ht : (pc : Int) + off = (tg : Int)) (kt : a < b → hl_R X D y tg ls st σ v τ) (kf : ¬ a < b → hl_R X D y nx ls st σ v τ) : hl_R X D y pc ls (.int b :: .int a :: st) σ v τ := by
  obtain ⟨hd, rfl⟩ := hd
  intro g p l e R s m args below meth c H locs cells slots Q la hC hI hL hret
  exact lv_icmp_lt hC.1 hC.2.1 hd ht (fun h => kt h g p l e R s m args below meth c H locs cells slots Q la hC hI hL hret) (fun h => kf h g p l e R s m args below meth c H locs cells slots Q la hC hI hL hret)
theorem hl_if_lt {a : Int32} {off : Int} (hd : hl_d y.2.1 pc (.ifCond .lt off) 3 nx) (ht : (pc : Int) + off = (tg : Int)) (kt : a < 0 → hl_R X D y tg ls st σ v τ) (kf : ¬ a < 0 → hl_R X D y nx ls st σ v τ) : hl_R X D y pc ls (.int a :: st) σ v τ := by
  obtain ⟨hd, rfl⟩ := hd
  intro g p l e R s m args below meth c H locs cells slots Q la hC hI hL hret
  exact lv_if_lt hC.1 hC.2.1 hd ht (fun h => kt h g p l e R s m args below meth c H locs cells slots Q la hC hI hL hret) (fun h => kf h g p l e R s m args below meth c H locs cells slots Q la hC hI hL hret)
theorem hl_icmp_ge {a b : Int32} {off : Int} (hd : hl_d y.2.1 pc (.if_icmp .ge off) 3 nx) (ht : (pc : Int) + off = (tg : Int)) (kt : b ≤ a → hl_R X D y tg ls st σ v τ) (kf : ¬ b ≤ a → hl_R X D y nx ls st σ v τ) : hl_R X D y pc ls (.int b :: .int a :: st) σ v τ := by
  obtain ⟨hd, rfl⟩ := hd
  intro g p l e R s m args below meth c H locs cells slots Q la hC hI hL hret
  exact lv_icmp_ge hC.1 hC.2.1 hd ht (fun h => kt h g p l e R s m args below meth c H locs cells slots Q la hC hI hL hret) (fun h => kf h g p l e R s m args below meth c H locs cells slots Q la hC hI hL hret)
theorem hl_if_ge {a : Int32} {off : Int} (hd : hl_d y.2.1 pc (.ifCond .ge off) 3 nx) (ht : (pc : Int) + off = (tg : Int)) (kt : 0 ≤ a → hl_R X D y tg ls st σ v τ) (kf : ¬ 0 ≤ a → hl_R X D y nx ls st σ v τ) : hl_R X D y pc ls (.int a :: st) σ v τ := by
  obtain ⟨hd, rfl⟩ := hd
  intro g p l e R s m args below meth c H locs cells slots Q la hC hI hL hret
  exact lv_if_ge hC.1 hC.2.1 hd ht (fun h => kt h g p l e R s m args below meth c H locs cells slots Q la hC hI hL hret) (fun h => kf h g p l e R s m args below meth c H locs cells slots Q la hC hI hL hret)
theorem hl_icmp_gt {a b : Int32} {off : Int} (hd : hl_d y.2.1 pc (.if_icmp .gt off) 3 nx) (ht : (pc : Int) + off = (tg : Int)) (kt : b < a → hl_R X D y tg ls st σ v τ) (kf : ¬ b < a → hl_R X D y nx ls st σ v τ) : hl_R X D y pc ls (.int b :: .int a :: st) σ v τ := by
  obtain ⟨hd, rfl⟩ := hd
  intro g p l e R s m args below meth c H locs cells slots Q la hC hI hL hret
  exact lv_icmp_gt hC.1 hC.2.1 hd ht (fun h => kt h g p l e R s m args below meth c H locs cells slots Q la hC hI hL hret) (fun h => kf h g p l e R s m args below meth c H locs cells slots Q la hC hI hL hret)
theorem hl_if_gt {a : Int32} {off : Int} (hd : hl_d y.2.1 pc (.ifCond .gt off) 3 nx) (ht : (pc : Int) + off = (tg : Int)) (kt : 0 < a → hl_R X D y tg ls st σ v τ) (kf : ¬ 0 < a → hl_R X D y nx ls st σ v τ) : hl_R X D y pc ls (.int a :: st) σ v τ := by
  obtain ⟨hd, rfl⟩ := hd
  intro g p l e R s m args below meth c H locs cells slots Q la hC hI hL hret
  exact lv_if_gt hC.1 hC.2.1 hd ht (fun h => kt h g p l e R s m args below meth c H locs cells slots Q la hC hI hL hret) (fun h => kf h g p l e R s m args below meth c H locs cells slots Q la hC hI hL hret)
theorem hl_icmp_le {a b : Int32} {off : Int} (hd : hl_d y.2.1 pc (.if_icmp .le off) 3 nx) (ht : (pc : Int) + off = (tg : Int)) (kt : a ≤ b → hl_R X D y tg ls st σ v τ) (kf : ¬ a ≤ b → hl_R X D y nx ls st σ v τ) : hl_R X D y pc ls (.int b :: .int a :: st) σ v τ := by
  obtain ⟨hd, rfl⟩ := hd
  intro g p l e R s m args below meth c H locs cells slots Q la hC hI hL hret
  exact lv_icmp_le hC.1 hC.2.1 hd ht (fun h => kt h g p l e R s m args below meth c H locs cells slots Q la hC hI hL hret) (fun h => kf h g p l e R s m args below meth c H locs cells slots Q la hC hI hL hret)
theorem hl_if_le {a : Int32} {off : Int} (hd : hl_d y.2.1 pc (.ifCond .le off) 3 nx) (ht : (pc : Int) + off = (tg : Int)) (kt : a ≤ 0 → hl_R X D y tg ls st σ v τ) (kf : ¬ a ≤ 0 → hl_R X D y nx ls st σ v τ) : hl_R X D y pc ls (.int a :: st) σ v τ := by
  obtain ⟨hd, rfl⟩ := hd
  intro g p l e R s m args below meth c H locs cells slots Q la hC hI hL hret
  exact lv_if_le hC.1 hC.2.1 hd ht (fun h => kt h g p l e R s m args below meth c H locs cells slots Q la hC hI hL hret) (fun h => kf h g p l e R s m args below meth c H locs cells slots Q la hC hI hL hret)
theorem hl_goto {off : Int} (hd : hl_d y.2.1 pc (.goto off) 3 nx) (ht : (pc : Int) + off = (tg : Int)) (k : hl_R X D y tg ls st σ v τ) : hl_R X D y pc ls st σ v τ := by
  obtain ⟨hd, rfl⟩ := hd
  intro g p l e R s m args below meth c H locs cells slots Q la hC hI hL hret
  exact lv_goto hC.1 hC.2.1 hd ht (k g p l e R s m args below meth c H locs cells slots Q la hC hI hL hret)
theorem hl_tabIn {dflt lo hi : Int} {offs : Array Int} {n : Nat} {a : Int32} {off : Int} (hd : hl_d y.2.1 pc (.tableswitch dflt lo hi offs) n nx) (h1 : ¬ a.toInt < lo) (h2 : ¬ hi < a.toInt) (ho : offs[(a.toInt - lo).toNat]? = some off) (ht : (pc : Int) + off = (tg : Int)) (k : hl_R X D y tg ls st σ v τ) : hl_R X D y pc ls (.int a :: st) σ v τ := by
  obtain ⟨hd, rfl⟩ := hd
  intro g p l e R s m args below meth c H locs cells slots Q la hC hI hL hret
  exact lv_tableIn hC.1 hC.2.1 hd h1 h2 ho ht (k g p l e R s m args below meth c H locs cells slots Q la hC hI hL hret)
theorem hl_tabOut {dflt lo hi : Int} {offs : Array Int} {n : Nat} {a : Int32} (hd : hl_d y.2.1 pc (.tableswitch dflt lo hi offs) n nx) (h : a.toInt < lo ∨ hi < a.toInt) (ht : (pc : Int) + dflt = (tg : Int)) (k : hl_R X D y tg ls st σ v τ) : hl_R X D y pc ls (.int a :: st) σ v τ := by
  obtain ⟨hd, rfl⟩ := hd
  intro g p l e R s m args below meth c H locs cells slots Q la hC hI hL hret
  exact lv_tableOut hC.1 hC.2.1 hd h ht (k g p l e R s m args below meth c H locs cells slots Q la hC hI hL hret)
theorem hl_look {dflt : Int} {ps : Array (Int × Int)} {n : Nat} {a : Int32} {off : Int} (hd : hl_d y.2.1 pc (.lookupswitch dflt ps) n nx) (hp : (ps.toList.zip (ps.toList.drop 1)).all (fun (a, next) => a.1 < next.1) = true) (ho : Op.lookupswitch.offset ps.toList dflt a.toInt = off) (ht : (pc : Int) + off = (tg : Int)) (k : hl_R X D y tg ls st σ v τ) : hl_R X D y pc ls (.int a :: st) σ v τ := by
  obtain ⟨hd, rfl⟩ := hd
  intro g p l e R s m args below meth c H locs cells slots Q la hC hI hL hret
  exact lv_lookup hC.1 hC.2.1 hd hp ho ht (k g p l e R s m args below meth c H locs cells slots Q la hC hI hL hret)
theorem hl_dup {a : Value} (hd : hl_d y.2.1 pc .dup 1 nx) (ha : a.category = 1) (k : hl_R X D y nx ls (a :: a :: st) σ v τ) : hl_R X D y pc ls (a :: st) σ v τ := by
  obtain ⟨hd, rfl⟩ := hd
  intro g p l e R s m args below meth c H locs cells slots Q la hC hI hL hret
  exact lv_dup hC.1 hC.2.1 hd (by rw [hl_cv_cat hI.2.2.2.2.1.1, ha]) (k g p l e R s m args below meth c H locs cells slots Q la hC hI hL hret)
theorem hl_dup2 {a b : Value} (hd : hl_d y.2.1 pc .dup2 1 nx) (ha : a.category = 1) (hb : b.category = 1) (k : hl_R X D y nx ls (a :: b :: a :: b :: st) σ v τ) : hl_R X D y pc ls (a :: b :: st) σ v τ := by
  obtain ⟨hd, rfl⟩ := hd
  intro g p l e R s m args below meth c H locs cells slots Q la hC hI hL hret
  exact lv_dup2_11 hC.1 hC.2.1 hd (by rw [hl_cv_cat hI.2.2.2.2.1.1, ha]) (by rw [hl_cv_cat hI.2.2.2.2.1.1, hb]) (k g p l e R s m args below meth c H locs cells slots Q la hC hI hL hret)
theorem hl_pop {a : Value} (hd : hl_d y.2.1 pc .pop 1 nx) (ha : a.category = 1) (k : hl_R X D y nx ls st σ v τ) : hl_R X D y pc ls (a :: st) σ v τ := by
  obtain ⟨hd, rfl⟩ := hd
  intro g p l e R s m args below meth c H locs cells slots Q la hC hI hL hret
  exact lv_pop hC.1 hC.2.1 hd (by rw [hl_cv_cat hI.2.2.2.2.1.1, ha]) (k g p l e R s m args below meth c H locs cells slots Q la hC hI hL hret)
theorem hl_ldc {i : Nat} {x : Int32} (hd : hl_d y.2.1 pc (.ldc i) 2 nx) (hw : Cond.constant y.1.cls i x ∈ hl_T) (k : hl_R X D y nx ls (.int x :: st) σ v τ) : hl_R X D y pc ls st σ v τ := by
  obtain ⟨hd, rfl⟩ := hd
  intro g p l e R s m args below meth c H locs cells slots Q la hC hI hL hret
  exact lv_ldc hC.1 hC.2.1 hC.2.2.2.1 (hC.2.2.2.2.1 _ hw) hd (k g p l e R s m args below meth c H locs cells slots Q la hC hI hL hret)
theorem hl_ldcw {i : Nat} {x : Int32} (hd : hl_d y.2.1 pc (.ldc_w i) 3 nx) (hw : Cond.constant y.1.cls i x ∈ hl_T) (k : hl_R X D y nx ls (.int x :: st) σ v τ) : hl_R X D y pc ls st σ v τ := by
  obtain ⟨hd, rfl⟩ := hd
  intro g p l e R s m args below meth c H locs cells slots Q la hC hI hL hret
  exact lv_ldcw hC.1 hC.2.1 hC.2.2.2.1 (hC.2.2.2.2.1 _ hw) hd (k g p l e R s m args below meth c H locs cells slots Q la hC hI hL hret)
theorem hl_ldc2 {i : Nat} {x : Int64} (hd : hl_d y.2.1 pc (.ldc2_w i) 3 nx) (hw : Cond.constantLong y.1.cls i x ∈ hl_T) (k : hl_R X D y nx ls (.long x :: st) σ v τ) : hl_R X D y pc ls st σ v τ := by
  obtain ⟨hd, rfl⟩ := hd
  intro g p l e R s m args below meth c H locs cells slots Q la hC hI hL hret
  exact lv_ldc2 hC.1 hC.2.1 hC.2.2.2.1 (hC.2.2.2.2.1 _ hw) hd (k g p l e R s m args below meth c H locs cells slots Q la hC hI hL hret)
theorem hl_ldcS {i j : Nat} (hd : hl_d y.2.1 pc (.ldc i) 2 nx) (hj : j < hl_nS) (hw : (hl_str.getD j ("", 0, "", [])).1 = y.1.cls ∧ (hl_str.getD j ("", 0, "", [])).2.1 = i) (k : hl_R X D y nx ls (.ref (200 + j) :: st) σ v τ) : hl_R X D y pc ls st σ v τ := by
  obtain ⟨hd, rfl⟩ := hd
  intro g p l e R s m args below meth c H locs cells slots Q la hC hI hL hret
  have hk := k g p l e R s m args below meth c H locs cells slots Q la hC hI hL hret
  rw [List.map_cons, hl_cv_ref (by have : hl_nS = 38 := rfl; omega)] at hk
  have h1 := (hI.2.2.2.2.1.2.1 j hj).1
  rw [hw.1, hw.2] at h1
  exact va_ldcS hC.1 hC.2.1 hC.2.2.2.1 h1 hd hk
end HLR
