/-! THE CLAIM OUT OF ONE WALK OF THE LAW'S BODY. Your part is whole_start (and what it stands on); all else here is the same for every law, but numbers. -/
def R_law : String := "HymnLampsLaw"
def lw_P (b : Addr) (xs : List Int32) (args : Array Value) (s : State) : Prop := args = #[.ref b] ∧ s.IntsAt b xs ∧ xs.length ≤ 3072 ∧ (Jvm.Cond.and given_1 narrow_1).before args s = true
def lw_Q (_ : Array Value) (s : State) (o : Outcome) (t : State) : Prop := o = .returned (some (.int 1)) ∧ Framed s o t [] 600000 7302250
def lw_Z (below : List Frame) (a : Array Value) (s : State) : State → Prop := fun t => ∃ o, t.status = .running ∧ Ended t below o ∧ lw_Q a s o t
/-- the law's own end, with 1 on the stack, nothing written that was there before, its room as the claim has it -/
theorem lw_ret {p : Program} {l : Launch} {e : Env} {s : State} {m : MethodId} {below : List Frame} {meth : Method} {c : Code} {b : Nat} (hx : p.tables.exec = Jvm.exec) (hb : c.code = code) (hr : meth.sig.returnType = ret) (hlocks : meth.locks = false) {pc : Nat} {H : Heap} {ls : Array Slot} (hdg : decode code pc = .ok (.ireturn, 1)) : W p l e room_1 s m #[Value.ref b] below meth c H [] 600000 7302250 (lw_Z below #[Value.ref b] s) (F0 m pc ls [.int 1]) := by
  intro T hT X
  obtain ⟨fs, hret, hrun, hended, hW, hframe⟩ := X.leave (v := some (.int 1)) (hlocks := hlocks) (fun h => by rw [hr] at h; cases h)
  have hmeth' : T.vm.method? m = some meth := X.method'
  refine ⟨T.setFrames fs, ?_, .returned (some (.int 1)), hrun, hended, rfl, ⟨_, rfl⟩, hW, hframe⟩
  jvm_step X.here [X.here.top, hx, hb, hdg, hmeth', hr, ret, narrow_b1]
  (try refine ⟨rfl, ?_⟩); (try refine ⟨rfl, ?_⟩)
  first | (intro acts; rw [hret _ acts rfl rfl rfl]) | rw [hret _ _ rfl rfl rfl]
  exact Steps.refl _
/-- what holds at the law's entry: the machine, the code, the tables' words (any of lw_tbl by 'hts w (by decide +kernel)'), the script of L ints xs at the cell b, what the Statement gives of the start (any of its parts by flat_of_before) -/
def lw_At (p : Program) (s : State) (m : MethodId) (meth : Method) (c : Code) (b L : Nat) (xs : Nat → Int32) : Prop :=
  p.tables.exec = Jvm.exec ∧ c.code = code ∧ meth.sig.returnType = ret ∧ c.maxLocals = 4 ∧ s.vm.findClass R_law = some m.cls ∧ (∀ w ∈ lw_tbl, w.before #[Value.ref b] s = true) ∧ va_X b L xs s s.heap ∧ b < s.heap.size ∧ meth.locks = false ∧ (Jvm.Cond.and given_1 narrow_1).before #[Value.ref b] s = true
/-! the law's beginning: both objects are made; the world stands -/
theorem hl_kw {s : State} {args : Array Value} (hts : ∀ w ∈ hl_T, w.before args s = true) {C : String} {T : u_T} {N n : Nat} (hin : ∀ w ∈ u_ws C T N, w ∈ hl_T) (hi : Cond.instantiable C n ∈ hl_T) : ∃ r : ClassId × (Nat → Nat), u_Kn s C T N r.1 r.2 := by
  obtain ⟨cC, iS, h⟩ := u_known hts hin (hts _ hi)
  exact ⟨(cC, iS), h⟩
theorem hl_known {s : State} {args : Array Value} (hts : ∀ w ∈ hl_T, w.before args s = true) : ∃ DD : va_G, ∀ (c : Nat) (q : vw_C), hl_cl[c]? = some q → u_Kn s q.1 q.2.1 q.2.2 (DD.1 c) (DD.2 c) := by
  have key : ∀ q ∈ hl_cl, ∃ r : ClassId × (Nat → Nat), u_Kn s q.1 q.2.1 q.2.2 r.1 r.2 := List.forall_mem_cons.mpr ⟨hl_kw hts hl_w0 (hl_in1 22 rfl rfl), List.forall_mem_cons.mpr ⟨hl_kw hts hl_w1 (hl_in1 30 rfl rfl), List.forall_mem_cons.mpr ⟨hl_kw hts hl_w2 (hl_in1 47 rfl rfl), List.forall_mem_cons.mpr ⟨hl_kw hts hl_w3 (hl_in1 82 rfl rfl), List.forall_mem_cons.mpr ⟨hl_kw hts hl_w4 (hl_in1 185 rfl rfl), List.forall_mem_cons.mpr ⟨hl_kw hts hl_w5 (hl_in1 201 rfl rfl), List.forall_mem_cons.mpr ⟨hl_kw hts hl_w6 (hl_in1 216 rfl rfl), List.forall_mem_cons.mpr ⟨hl_kw hts hl_w7 (hl_in1 237 rfl rfl), List.forall_mem_cons.mpr ⟨hl_kw hts hl_w8 (hl_in2 40 rfl rfl), List.forall_mem_cons.mpr ⟨hl_kw hts hl_w9 (hl_in2 77 rfl rfl), List.forall_mem_cons.mpr ⟨hl_kw hts hl_w10 (hl_in2 100 rfl rfl), List.forall_mem_cons.mpr ⟨hl_kw hts hl_w11 (hl_in5 235 rfl rfl), fun _ h => absurd h (List.not_mem_nil)⟩⟩⟩⟩⟩⟩⟩⟩⟩⟩⟩⟩
  have k2 : ∀ c : Nat, ∃ r : ClassId × (Nat → Nat), ∀ q : vw_C, hl_cl[c]? = some q → u_Kn s q.1 q.2.1 q.2.2 r.1 r.2 := by
    intro c
    cases h : hl_cl[c]? with
    | none => exact ⟨(0, fun _ => 0), fun q hq => by cases hq⟩
    | some q =>
      obtain ⟨r, hr⟩ := key q (List.mem_of_getElem? h)
      exact ⟨r, fun q' hq => by cases hq; exact hr⟩
  obtain ⟨f, hf⟩ := Classical.axiomOfChoice k2
  exact ⟨(fun c => (f c).1, fun c => (f c).2), hf⟩
theorem hl_arr {s : State} {args : Array Value} {ty : FieldType} (h : (Cond.arrayClass ty).before args s = true) : ∃ cA : ClassId, s.vm.findClass ("[" ++ ty.toString) = some cA ∧ ArrOfT s cA ty := by
  obtain ⟨cA, kA, comp, h1, h2, h3⟩ := Cond.arrayClass_spec h
  exact ⟨cA, h1, fun n z => ⟨fun k h => (by cases h), kA, h2, comp, h3⟩⟩
theorem hl_tys {s : State} {args : Array Value} (hts : ∀ w ∈ hl_T, w.before args s = true) (ha : hl_aow s) : ∃ ca : Nat → ClassId, ∀ (k : Nat) (q : ClassId × FieldType), (hl_tyc ca)[k]? = some q → ArrOfT s q.1 q.2 ∧ va_RA s q.1 q.2 := by
  have hw := hl_bcs_ok.2.1
  obtain ⟨c0, a0, b0⟩ := hl_arr (hts _ (hw .int (Or.inl rfl)))
  obtain ⟨c1, a1, b1⟩ := hl_arr (hts _ (hw .byte (Or.inr (Or.inl rfl))))
  obtain ⟨c2, a2, b2⟩ := hl_arr (hts _ (hw .boolean (Or.inr (Or.inr (Or.inl rfl)))))
  obtain ⟨c3, a3, b3⟩ := hl_arr (hts _ (hw .char (Or.inr (Or.inr (Or.inr (Or.inl rfl))))))
  obtain ⟨c4, a4, b4⟩ := hl_arr (hts _ (hw .long (Or.inr (Or.inr (Or.inr (Or.inr rfl))))))
  obtain ⟨cB, c5, k5, e1, e2, e3, e4⟩ := ha
  have b5 : ArrOfT s c5 (.array .int) := fun n z => ⟨fun k h => (by cases h), k5, e2, cB, e3⟩
  refine ⟨fun k => [c0, c1, c2, c3, c4, c5].getD k 0, fun k q hk => ?_⟩
  have key : ∀ q ∈ hl_tyc (fun k => [c0, c1, c2, c3, c4, c5].getD k 0), ArrOfT s q.1 q.2 ∧ va_RA s q.1 q.2 :=
    List.forall_mem_cons.mpr ⟨⟨b0, a0⟩, List.forall_mem_cons.mpr ⟨⟨b1, a1⟩, List.forall_mem_cons.mpr ⟨⟨b2, a2⟩, List.forall_mem_cons.mpr ⟨⟨b3, a3⟩, List.forall_mem_cons.mpr ⟨⟨b4, a4⟩, List.forall_mem_cons.mpr ⟨⟨b5, e4⟩, fun _ h => absurd h (List.not_mem_nil)⟩⟩⟩⟩⟩⟩
  exact key q (List.mem_of_getElem? hk)
theorem hl_good {w : Cond} (h : w ∈ hl_T) : w ∈ lw_tbl := (List.mem_filter.mp h).1
theorem hl_new0 : hl_ok "HymnLampsLaw" (.new 7) 0 := hl_kn (Y := hl_bY) (na := hl_bna) (own := "HymnLampsLaw") (ty0 := hl_t0) rfl hl_w0 hl_tok0 (by decide +kernel) rfl (hl_in1 21 rfl rfl) (hl_in1 22 rfl rfl) (hl_in1 1 rfl rfl)
theorem hl_new11 : hl_ok "HymnLampsLaw" (.new 10) 11 := hl_kn (Y := hl_bY) (na := hl_bna) (own := "HymnLampsLaw") (ty0 := hl_t11) rfl hl_w11 hl_tok11 (by decide +kernel) rfl (hl_in5 234 rfl rfl) (hl_in5 235 rfl rfl) (hl_in1 12 rfl rfl)
theorem hl_lda : hl_da code [(0, .new 7, 3, 3), (3, .dup, 1, 4), (4, .invokespecial 9, 3, 7), (7, .astore_n 1, 1, 8), (8, .new 10, 3, 11), (11, .dup, 1, 12), (12, .invokespecial 12, 3, 15), (15, .astore_n 2, 1, 16)] = true := by decide +kernel
theorem hl_len1 : hl_c1.length = 64 := by decide +kernel
theorem hl_len2 : (hl_c1 ++ hl_c2).length = 114 := by decide +kernel
theorem hl_siz : hl_bz (hl_c1 ++ hl_c2) ≤ 100000 := by decide +kernel
theorem hl_ml1 : Cond.methodLink "HymnLampsLaw" 9 (hl_bY 1).1 ∈ hl_T := hl_in1 23 rfl rfl
theorem hl_ml2 : Cond.methodLink "HymnLampsLaw" 12 (hl_bY 12).1 ∈ hl_T := hl_in5 236 rfl rfl
theorem hl_awt : Cond.arrayOver (.array .int) ∈ tables_1 := hl_m1 207 rfl
theorem hl_lawret {p : Program} {l : Launch} {e : Env} {s : State} {m : MethodId} {below : List Frame} {meth : Method} {c : Code} {b : Nat} (hx : p.tables.exec = Jvm.exec) (hb : c.code = code) (hr : meth.sig.returnType = ret) (hlocks : meth.locks = false) {pc : Nat} {H : Heap} {ls : Array Slot} {z : Int32} (hn : narrow .boolean (.int z) = .int 1) (hdg : decode code pc = .ok (.ireturn, 1)) : W p l e room_1 s m #[Value.ref b] below meth c H [] 600000 7302250 (lw_Z below #[Value.ref b] s) (F0 m pc ls [.int z]) := by
  intro T hT X
  obtain ⟨fs, hret, hrun, hended, hW, hframe⟩ := X.leave (v := some (.int 1)) (hlocks := hlocks) (fun h => by rw [hr] at h; cases h)
  have hmeth' : T.vm.method? m = some meth := X.method'
  refine ⟨T.setFrames fs, ?_, .returned (some (.int 1)), hrun, hended, rfl, ⟨_, rfl⟩, hW, hframe⟩
  jvm_step X.here [X.here.top, hx, hb, hdg, hmeth', hr, ret, hn]
  (try refine ⟨rfl, ?_⟩); (try refine ⟨rfl, ?_⟩)
  first | (intro acts; rw [hret _ acts rfl rfl rfl]) | rw [hret _ _ rfl rfl rfl]
  exact Steps.refl _
