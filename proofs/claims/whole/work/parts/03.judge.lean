/-! memory, places, the judgement hl_R -/
abbrev hl_M : Type := (Nat → Nat → Int32) × (Nat → Nat → Int64)
/-- a method: name, bytes, locals, what it returns -/
abbrev hl_Y : Type := MethodName × ByteArray × Nat × Option FieldType
/-- addresses of places, class numbers and slots, classes of arrays, the formatter -/
abbrev hl_G : Type := (Nat → Nat) × va_G × (Nat → ClassId) × Value
/-- the script -/
abbrev hl_X : Type := Nat × (Nat → Int32)
def hl_si (σ : hl_M) (p f : Nat) (v : Int32) : hl_M := (fun a => if a = p then upd (σ.1 a) f v else σ.1 a, σ.2)
def hl_sl (σ : hl_M) (p f : Nat) (v : Int64) : hl_M := (σ.1, fun a => if a = p then vp_updL (σ.2 a) f v else σ.2 a)
def hl_shp (p : Nat) : Nat × Nat := hl_sh.getD p (999, 0)
def hl_ftl (c : Nat) : List Nat := hl_ft.getD c []
def hl_rf (p f : Nat) : Nat := (hl_rft.getD p []).getD f 0
def hl_cv (g : hl_G) : Value → Value
  | .ref k => if k = 999 then g.2.2.2 else .ref (g.1 k)
  | v => v
def hl_fv (g : hl_G) (σ : hl_M) (p f t : Nat) : Value := if t = 1 then .long (σ.2 p f) else if t = 2 then .ref (g.1 (hl_rf p f)) else .int (σ.1 p f)
def hl_fs (g : hl_G) (σ : hl_M) (p c : Nat) : List Value := (List.range (hl_ftl c).length).map (fun f => hl_fv g σ p f ((hl_ftl c).getD f 0))
def hl_ent (g : hl_G) (σ : hl_M) (p : Nat) : va_E :=
  if (hl_shp p).1 < 100 then .inr ((hl_shp p).1, hl_fs g σ p (hl_shp p).1)
  else if (hl_shp p).1 = 104 then .inl (g.2.2.1 4, (hl_shp p).2, .inr (.inl (σ.2 p)))
  else if (hl_shp p).1 = 105 then .inl (g.2.2.1 5, (hl_shp p).2, .inr (.inr (.inr (.inr (fun j => some (g.1 (p + 1 + j)))))))
  else .inl (g.2.2.1 ((hl_shp p).1 - 100), (hl_shp p).2, .inl (σ.1 p))
def hl_ws (g : hl_G) (σ : hl_M) : va_W := (List.range hl_n).map (fun p => (g.1 p, hl_ent g σ p))
def hl_ty (g : hl_G) : List (ClassId × FieldType) := [(g.2.2.1 0, .int), (g.2.2.1 1, .byte), (g.2.2.1 2, .boolean), (g.2.2.1 3, .char), (g.2.2.1 4, .long), (g.2.2.1 5, .array .int)]
/-- the cells of the world -/
def hl_A (g : hl_G) : Nat → Prop := fun q => ∃ p, p < hl_n ∧ q = g.1 p
def hl_sB (j : Nat) : List Int32 := (hl_str.getD j ("", 0, "", [])).2.2.2
/-- arrays that nobody writes: the bytes of string constants, the two tables, the script -/
def hl_ra (X : hl_X) (q : Nat) : Option (FieldType × Nat × (Nat → Int32)) :=
  if q = 400 then some (.int, 5, fun j => [0, 1, 0, -1, 0].getD j 0)
  else if q = 401 then some (.int, 5, fun j => [-1, 0, 1, 0, 0].getD j 0)
  else if q = 500 then some (.int, X.1, X.2)
  else if 300 ≤ q ∧ q < 300 + hl_nS then some (.byte, (hl_sB (q - 300)).length, fun j => (hl_sB (q - 300)).getD j 0)
  else none
/-- what is given of strings, tables and the script, in a state -/
def hl_RO (X : hl_X) (g : hl_G) (U : State) (H : Heap) : Prop :=
  g.2.2.2.category = 1 ∧
  (∀ j, j < hl_nS → vk_R (hl_str.getD j ("", 0, "", [])).1 (hl_str.getD j ("", 0, "", [])).2.1 (hl_str.getD j ("", 0, "", [])).2.2.1 (g.1 (200 + j)) U ∧ va_O "java/lang/String" (g.1 (200 + j)) (hl_A g) U H ∧ va_OF "java/lang/String" "coder" "B" (.int 0) (g.1 (200 + j)) (hl_A g) U H ∧ va_OF "java/lang/String" "value" "[B" (.ref (g.1 (300 + j))) (g.1 (200 + j)) (hl_A g) U H) ∧
  (∀ q ty N f, hl_ra X q = some (ty, N, f) → va_T ty (g.1 q) N (fun j => .int (f j)) (hl_A g) U H) ∧
  va_Z "HymnLamps$Ground" "ACROSS" "[I" (.ref (g.1 400)) (hl_A g) U H ∧ va_Z "HymnLamps$Ground" "DOWN" "[I" (.ref (g.1 401)) (hl_A g) U H ∧
  va_Z "java/lang/String" "COMPACT_STRINGS" "Z" (.int 1) (hl_A g) U H ∧ va_Z "jdk/internal/util/Preconditions" "SIOOBE_FORMATTER" "Ljava/util/function/BiFunction;" g.2.2.2 (hl_A g) U H ∧
  ∀ (o : String) (i : Nat) (x : MethodName) (h : String), Cond.methodLinkNest o i x h ∈ tables_1 → va_Nw (.methodLinkNest o i x h) U
theorem hl_RO.moved {X : hl_X} {g : hl_G} {u U : State} {H : Heap} (hW : u.WarmedH U.vm) (h : hl_RO X g u H) : hl_RO X g U H := by
  obtain ⟨h0, h1, h2, h3, h4, h5, h6, h7⟩ := h
  refine ⟨h0, fun j hj => ?_, fun q ty N f hq => (h2 q ty N f hq).moved hW.alike, h3.moved hW.alike, h4.moved hW.alike, h5.moved hW.alike, h6.moved hW.alike, fun o i x h hw => (h7 o i x h hw).warmM hW⟩
  obtain ⟨a, b, c, d⟩ := h1 j hj
  exact ⟨a.warm hW, b.moved hW.alike, c.moved hW.alike, d.moved hW.alike⟩
theorem hl_RO.kept {X : hl_X} {g : hl_G} {U : State} {H H1 : Heap} (hq : ∀ a : Nat, a < H.size → ¬ hl_A g a → H1[a]? = H[a]?) (h : hl_RO X g U H) : hl_RO X g U H1 := by
  obtain ⟨h0, h1, h2, h3, h4, h5, h6, h7⟩ := h
  refine ⟨h0, fun j hj => ?_, fun q ty N f hx => (h2 q ty N f hx).kept hq, h3.kept hq, h4.kept hq, h5.kept hq, h6.kept hq, h7⟩
  obtain ⟨a, b, c, d⟩ := h1 j hj
  exact ⟨a, b.kept hq, c.kept hq, d.kept hq⟩
/-- the frame of method y, with calls D deep left -/
def hl_C (D : Nat) (y : hl_Y) (p : Program) (R : Room) (s : State) (m : MethodId) (args : Array Value) (c : Code) : Prop :=
  p.tables.exec = Jvm.exec ∧ c.code = y.2.1 ∧ c.maxLocals = y.2.2.1 ∧ s.vm.findClass y.1.cls = some m.cls ∧ (∀ w ∈ hl_T, w.before args s = true) ∧ D ≤ R.frames ∧ (D + 1) * 64 ≤ R.locals
/-- the world, within a frame -/
def hl_I (X : hl_X) (g : hl_G) (σ : hl_M) (R : Room) (s : State) (H : Heap) (locs : List Loc) (cells slots : Nat) : Prop :=
  va_P g.2.1 hl_cl (hl_ws g σ) H ∧ va_K g.2.1 hl_cl (hl_ty g) s ∧ va_D (hl_A g) (hl_ws g σ) ∧ va_S (hl_A g) s.heap H locs ∧ hl_RO X g s s.heap ∧ cells ≤ R.cells ∧ slots ≤ R.slots
/-- at a return: the stack there, and the answer -/
def hl_rt (y : hl_Y) (pc : Nat) (st : List Value) (v : Option Value) : Prop :=
  (y.2.2.2 = none ∧ decode y.2.1 pc = .ok (.return_, 1) ∧ st = [] ∧ v = none) ∨
  (∃ x, y.2.2.2 = some .long ∧ decode y.2.1 pc = .ok (.lreturn, 1) ∧ st = [.long x] ∧ v = some (.long x)) ∨
  (∃ x ty, y.2.2.2 = some ty ∧ (ty = .int ∨ ty = .boolean ∨ ty = .byte ∨ ty = .char) ∧ decode y.2.1 pc = .ok (.ireturn, 1) ∧ st = [.int x] ∧ v = some (.int (vp_nar ty x)))
abbrev hl_cvl (g : hl_G) (ls : List (Nat × Value)) : List (Nat × Value) := ls.map (fun q => (q.1, hl_cv g q.2))
/-- from here (pc, locals, stack, memory) method y comes to its end with answer v and memory τ -/
def hl_R (X : hl_X) (D : Nat) (y : hl_Y) (pc : Nat) (ls : List (Nat × Value)) (st : List Value) (σ : hl_M) (v : Option Value) (τ : hl_M) : Prop :=
  ∀ (g : hl_G) (p : Program) (l : Launch) (e : Env) (R : Room) (s : State) (m : MethodId) (args : Array Value) (below : List Frame) (meth : Method) (c : Code) (H : Heap) (locs : List Loc) (cells slots : Nat) (Q : State → Prop) (la : Array Slot),
    hl_C D y p R s m args c → hl_I X g σ R s H locs cells slots → lv_has la y.2.2.1 (hl_cvl g ls) →
    (∀ (pc' : Nat) (st' : List Value) (H' : Heap) (locs' : List Loc) (la' : Array Slot), hl_rt y pc' st' v → hl_I X g τ R s H' locs' cells slots → W p l e R s m args below meth c H' locs' cells slots Q (F0 m pc' la' st')) →
    W p l e R s m args below meth c H locs cells slots Q (F0 m pc la (st.map (hl_cv g)))
/-! the world's list -/
theorem hl_ws_get {g : hl_G} {σ : hl_M} {p : Nat} (h : p < hl_n) : (hl_ws g σ)[p]? = some (g.1 p, hl_ent g σ p) := by
  unfold hl_ws
  rw [List.getElem?_map, List.getElem?_range h]
  rfl
theorem hl_ws_set {g : hl_G} {σ τ : hl_M} {p : Nat} (h : p < hl_n) {e : va_E} (he : hl_ent g τ p = e) (ho : ∀ q, q ≠ p → hl_ent g τ q = hl_ent g σ q) : (hl_ws g σ).set p (g.1 p, e) = hl_ws g τ := by
  apply List.ext_getElem?
  intro i
  by_cases hi : i < hl_n
  · rw [hl_ws_get hi]
    by_cases hp : i = p
    · subst hp
      rw [List.getElem?_set_self (by unfold hl_ws; simpa using hi), he]
    · rw [List.getElem?_set_ne (Ne.symm hp), hl_ws_get hi, ho i hp]
  · have l1 : (hl_ws g τ).length = hl_n := by unfold hl_ws; simp
    have l2 : ((hl_ws g σ).set p (g.1 p, e)).length = hl_n := by unfold hl_ws; simp
    rw [List.getElem?_eq_none (by omega), List.getElem?_eq_none (by omega)]
theorem hl_si_ne {σ : hl_M} {p f q : Nat} {v : Int32} (h : q ≠ p) : (hl_si σ p f v).1 q = σ.1 q := if_neg h
theorem hl_si_eq {σ : hl_M} {p f : Nat} {v : Int32} : (hl_si σ p f v).1 p = upd (σ.1 p) f v := if_pos rfl
theorem hl_sl_ne {σ : hl_M} {p f q : Nat} {v : Int64} (h : q ≠ p) : (hl_sl σ p f v).2 q = σ.2 q := if_neg h
theorem hl_sl_eq {σ : hl_M} {p f : Nat} {v : Int64} : (hl_sl σ p f v).2 p = vp_updL (σ.2 p) f v := if_pos rfl
theorem hl_ent_ne {g : hl_G} {σ τ : hl_M} {q : Nat} (h1 : τ.1 q = σ.1 q) (h2 : τ.2 q = σ.2 q) : hl_ent g τ q = hl_ent g σ q := by
  simp only [hl_ent, hl_fs, hl_fv, h1, h2]
theorem hl_n_of {p : Nat} {a b : Nat} (h : hl_shp p = (a, b)) (ha : a ≠ 999) : p < hl_n := by
  refine Nat.lt_of_not_le (fun hp => ?_)
  have h1 : hl_sh.length = hl_n := by decide +kernel
  have h2 : hl_shp p = (999, 0) := by
    unfold hl_shp
    rw [List.getD_eq_getElem?_getD, List.getElem?_eq_none (by omega)]
    rfl
  rw [h2] at h
  cases h
  exact ha rfl
theorem hl_ent_o {g : hl_G} {σ : hl_M} {p c z : Nat} (h : hl_shp p = (c, z)) (hc : c < 100) : hl_ent g σ p = .inr (c, hl_fs g σ p c) := by
  simp only [hl_ent, h, hc, if_true]
theorem hl_ent_i {g : hl_G} {σ : hl_M} {p k n : Nat} (h : hl_shp p = (k, n)) (h1 : 100 ≤ k) (h2 : k ≤ 103) : hl_ent g σ p = .inl (g.2.2.1 (k - 100), n, .inl (σ.1 p)) := by
  have e1 : ¬ k < 100 := by omega
  have e2 : ¬ k = 104 := by omega
  have e3 : ¬ k = 105 := by omega
  simp only [hl_ent, h, e1, e2, e3, if_false]
theorem hl_ent_l {g : hl_G} {σ : hl_M} {p n : Nat} (h : hl_shp p = (104, n)) : hl_ent g σ p = .inl (g.2.2.1 4, n, .inr (.inl (σ.2 p))) := by
  simp [hl_ent, h]
theorem hl_ent_r {g : hl_G} {σ : hl_M} {p n : Nat} (h : hl_shp p = (105, n)) : hl_ent g σ p = .inl (g.2.2.1 5, n, .inr (.inr (.inr (.inr (fun j => some (g.1 (p + 1 + j))))))) := by
  simp [hl_ent, h]
theorem hl_fs_get {g : hl_G} {σ : hl_M} {p c k t : Nat} (h : (hl_ftl c)[k]? = some t) : (hl_fs g σ p c)[k]? = some (hl_fv g σ p k t) := by
  have hk : k < (hl_ftl c).length := (List.getElem?_eq_some_iff.mp h).1
  unfold hl_fs
  rw [List.getElem?_map, List.getElem?_range hk]
  simp [h, List.getD_eq_getElem?_getD]
theorem hl_fs_len {g : hl_G} {σ : hl_M} {p c : Nat} : (hl_fs g σ p c).length = (hl_ftl c).length := by simp [hl_fs]
theorem hl_fs_set {g : hl_G} {σ τ : hl_M} {p c k t : Nat} {w : Value} (h : (hl_ftl c)[k]? = some t) (h1 : hl_fv g τ p k t = w) (ho : ∀ j u, (hl_ftl c)[j]? = some u → j ≠ k → hl_fv g τ p j u = hl_fv g σ p j u) : (hl_fs g σ p c).set k w = hl_fs g τ p c := by
  apply List.ext_getElem?
  intro i
  by_cases hi : i < (hl_ftl c).length
  · have hx : (hl_ftl c)[i]? = some (hl_ftl c)[i] := List.getElem?_eq_getElem hi
    rw [hl_fs_get hx]
    by_cases hp : i = k
    · subst hp
      rw [List.getElem?_set_self (by rw [hl_fs_len]; exact hi)]
      rw [h] at hx
      rw [← Option.some.inj hx, h1]
    · rw [List.getElem?_set_ne (Ne.symm hp), hl_fs_get hx, ho i _ hx hp]
  · rw [List.getElem?_eq_none (by rw [List.length_set, hl_fs_len]; omega), List.getElem?_eq_none (by rw [hl_fs_len]; omega)]
theorem hl_ws_ref {g : hl_G} {σ : hl_M} : va_D (hl_A g) (hl_ws g σ) ↔ ∀ i j, i < hl_n → j < hl_n → g.1 i = g.1 j → i = j := by
  constructor
  · intro h i j hi hj e
    exact h.1 i j _ _ (hl_ws_get hi) (hl_ws_get hj) e
  · intro h
    have key : ∀ (k : Nat) (q : Nat × va_E), (hl_ws g σ)[k]? = some q → k < hl_n ∧ q.1 = g.1 k := by
      intro k q hk
      have hl : k < (hl_ws g σ).length := (List.getElem?_eq_some_iff.mp hk).1
      have hn : k < hl_n := by simpa [hl_ws] using hl
      rw [hl_ws_get hn] at hk
      cases hk
      exact ⟨hn, rfl⟩
    refine ⟨fun i j x z hi hj e => ?_, fun k q hk => ?_⟩
    · obtain ⟨a1, a2⟩ := key i x hi
      obtain ⟨b1, b2⟩ := key j z hj
      exact h i j a1 b1 (by rw [← a2, ← b2]; exact e)
    · obtain ⟨a1, a2⟩ := key k q hk
      exact ⟨k, a1, a2⟩
theorem hl_cv_cat {g : hl_G} (hg : g.2.2.2.category = 1) (v : Value) : (hl_cv g v).category = v.category := by
  cases v <;> simp only [hl_cv]
  split
  · rw [hg]; rfl
  · rfl
