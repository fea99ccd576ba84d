/-! constructors' calls, and a constructor whole -/
def hl_bat (DD : va_G) (ca : Nat → ClassId) (h0 : Nat) (cs : List hl_bc) (U : State) : Prop := U.heap.size = h0 + cs.length ∧ va_P DD hl_cl (hl_bw ca h0 cs) U.heap ∧ va_K DD hl_cl (hl_tyc ca) U ∧ hl_nw U
def hl_bQc (DD : va_G) (ca : Nat → ClassId) (h0 : Nat) (cs : List hl_bc) : Array Value → State → Outcome → State → Prop := fun _ st oc t => oc = .returned none ∧ t.heap.size = h0 + cs.length ∧ va_P DD hl_cl (hl_bw ca h0 cs) t.heap ∧ va_F (fun q => h0 ≤ q) st t
def hl_brm (D mc ms : Nat) : Room := { frames := D, cells := mc, slots := ms, locals := (D + 1) * 64 }
def hl_bev1 (Y : Nat → hl_Y) (na : Nat → Nat) (own : String) (i : Instr) (op : Nat) : Prop := match i with
  | .invokespecial idx => if op = 0 then Cond.methodLink own idx Lib.objectInit ∈ hl_T else (Cond.methodLink own idx (Y op).1 ∈ hl_T ∨ ∃ host, Cond.methodLinkNest own idx (Y op).1 host ∈ tables_1) ∧ (Y op).1.name = "<init>" ∧ Cond.instanceMethod (Y op).1 ∈ hl_T ∧ hl_Z (Y op) (na op) ∧ (Y op).2.2.2 = none ∧ na op + 1 ≤ (Y op).2.2.1
  | i => hl_ok own i op
/-- what the tables say of the constructors -/
def hl_bcd (Y : Nat → hl_Y) (cd : Nat → hl_bcode) (na : Nat → Nat) : Prop := (∀ z pc i op, hl_find (cd z) pc = some (i, op) → decode (Y z).2.1 pc = .ok (i, hl_len i) ∧ hl_bev1 Y na (Y z).1.cls i op) ∧
  (∀ ty : FieldType, ty = .int ∨ ty = .byte ∨ ty = .boolean ∨ ty = .char ∨ ty = .long → Cond.arrayClass ty ∈ hl_T) ∧ Cond.instanceMethod Lib.objectInit ∈ hl_T ∧ Cond.code Lib.objectInit ⟨#[0xb1]⟩ 1 none ∈ hl_T
theorem hl_bsl {h0 : Nat} {av : List Value} (h : av.all (fun v => match v with | .ref _ => true | _ => false) = true) : (lg_sl (av.map (hl_bv h0))).length = av.length ∧ lv_args 0 (av.map (hl_bv h0)) = hl_bl h0 (lv_args 0 av) := by
  have key : ∀ i, (lg_sl (av.map (hl_bv h0))).length = av.length ∧ lv_args i (av.map (hl_bv h0)) = hl_bl h0 (lv_args i av) := by
    induction av with
    | nil => intro i; exact ⟨rfl, rfl⟩
    | cons a r ih =>
      intro i
      rw [List.all_cons, Bool.and_eq_true] at h
      obtain ⟨h1, h2⟩ := h
      cases a with
      | ref q =>
        refine ⟨?_, ?_⟩
        · have e : lg_sl ((Value.ref q :: r).map (hl_bv h0)) = [.val (.ref (h0 + q))] ++ lg_sl (r.map (hl_bv h0)) := by simp [lg_sl, hl_bv, Value.category]
          rw [e, List.length_append, (ih h2 0).1]
          simp [Nat.add_comm]
        · simp only [List.map_cons, lv_args, hl_bl, hl_bv, Value.category]
          congr 1
          exact (ih h2 _).2
      | _ => cases h1
  exact key 0
theorem hl_bsum {h0 : Nat} {rr : List Value} (h : (rr.all (fun v => v.category == 1)) = true) : ((rr.map (hl_bv h0)).map fun v => v.category).sum = rr.length := by
  induction rr with
  | nil => rfl
  | cons a rr ih2 =>
    rw [List.all_cons, Bool.and_eq_true] at h
    have hc1 : (hl_bv h0 a).category = 1 := by
      have : a.category = 1 := by simpa using h.1
      rw [← this]
      cases a <;> rfl
    simp only [List.map_cons, List.sum_cons, ih2 h.2, hc1, List.length_cons]
    omega
section HLB
variable {DD : va_G} {ca : Nat → ClassId} {h0 n0 z0 : Nat} {p : Program} {l : Launch} {e : Env} {R : Room} {s : State} {m : MethodId} {args : Array Value} {below : List Frame} {meth : Method} {c : Code} {H : Heap} {locs : List Loc} {cells slots : Nat} {Q : State → Prop}
theorem hl_bofrun {mc ms pc : Nat} {cs csF : List hl_bc} {la : Array Slot} {st0 rest : List Value} {a : Array Value}
    (hr : va_Run p l e R s m args below meth c H locs cells slots mc ms (F0 m pc la st0) rest (hl_bQc DD ca h0 csF a) (fun q => h0 ≤ q)) (hI : hl_bI DD ca h0 n0 z0 cs s H locs cells slots) (hmc : cs.length + mc = csF.length) (hms : hl_bz cs + ms = hl_bz csF)
    (kk : ∀ (H2 : Heap) (locs2 : List Loc) (cells2 slots2 : Nat), hl_bI DD ca h0 n0 z0 csF s H2 locs2 cells2 slots2 → W p l e R s m args below meth c H2 locs2 cells2 slots2 Q (F0 m (pc + 3) la rest)) : W p l e R s m args below meth c H locs cells slots Q (F0 m pc la st0) := by
  intro T hT Y
  obtain ⟨w, st₀, t, T', L, q0, Y', hL, e1, e2, ⟨hv, hz, hp, hk1, hk2⟩, stp⟩ := hr T hT Y
  cases hv
  rw [q0] at hk1 hk2
  obtain ⟨i1, i2, i3, i4, i5, i6, i7, i8, i9, i10⟩ := hI
  obtain ⟨t2, a1, b1⟩ := kk T'.heap (locs ++ L) (cells + mc) (slots + ms) ⟨by rw [e1]; exact hz, by rw [e1]; exact hp, i3, ⟨Nat.le_trans i4.1 (by rw [e1]; exact hk1), fun q h1 h2 => by rw [e1, hk2 q (Nat.lt_of_lt_of_le h1 i4.1) h2]; exact i4.2.1 q h1 h2, fun q hq => by
      rcases List.mem_append.mp hq with h | h
      · exact i4.2.2 q h
      · exact hL q h⟩, i5, by omega, by omega, by omega, by omega, i10⟩ T' rfl Y'
  exact ⟨t2, stp t2 a1, b1⟩
theorem hl_bat_of {cs : List hl_bc} (hI : hl_bI DD ca h0 n0 z0 cs s H locs cells slots) : ∀ U : State, U.heap = H → s.WarmedH U.vm → hl_bat DD ca h0 cs U := by
  intro U hU hW
  obtain ⟨i1, i2, i3, i4, i5, i6, i7, i8, i9, i10⟩ := hI
  exact ⟨by rw [hU]; exact i1, by rw [hU]; exact i2, va_K.moved hW.alike i3, ⟨fun o i x h hw => (i5.1 o i x h hw).warmM hW, i5.2.moved hW.alike⟩⟩
theorem hl_bat_calling {cs : List hl_bc} {U : State} {f : JFrame} {mk : MethodId} {a : Array Value} (h : hl_bat DD ca h0 cs U) : hl_bat DD ca h0 cs (U.calling f mk a) :=
  ⟨h.1, h.2.1, va_K.moved (u := U) (U := U.calling f mk a) (Vm.Alike.refl U.vm) h.2.2.1, ⟨fun o i x hh hw => va_Nw.same rfl rfl (h.2.2.2.1 o i x hh hw), hl_aow.moved (u := U) (U := U.calling f mk a) (Vm.Alike.refl U.vm) h.2.2.2.2⟩⟩
end HLB
theorem hl_bmet {DD : va_G} {ca : Nat → ClassId} {h0 D n : Nat} {z : hl_Y} {av : List Value} {cs csF : List hl_bc} (l : Launch) (hz : hl_Z z n) (hret : z.2.2.2 = none) (hin : z.1.name = "<init>") (hav : av.length ≤ z.2.2.1) (hrf : av.all (fun v => match v with | .ref _ => true | _ => false) = true) (hm1 : cs.length ≤ csF.length) (hm2 : hl_bz cs ≤ hl_bz csF)
    (k : ∀ (p : Program) (e : Env) (s : State) (m : MethodId) (args : Array Value) (below : List Frame) (meth : Method) (c : Code) (la : Array Slot) (Q : State → Prop), hl_C D z p (hl_brm D (csF.length - cs.length) (hl_bz csF - hl_bz cs)) s m args c → meth.name = "<init>" →
      hl_bI DD ca h0 cs.length (hl_bz cs) cs s s.heap [] 0 0 → lv_has la z.2.2.1 (hl_bl h0 (lv_args 0 av)) →
      (∀ (pc' : Nat) (H' : Heap) (locs' : List Loc) (la' : Array Slot) (cells' slots' : Nat), decode z.2.1 pc' = .ok (.return_, 1) → hl_bI DD ca h0 cs.length (hl_bz cs) csF s H' locs' cells' slots' → W p l e (hl_brm D (csF.length - cs.length) (hl_bz csF - hl_bz cs)) s m args below meth c H' locs' cells' slots' Q (F0 m pc' la' [])) →
      W p l e (hl_brm D (csF.length - cs.length) (hl_bz csF - hl_bz cs)) s m args below meth c s.heap [] 0 0 Q (F0 m 0 la [])) :
    Met l z.1 (hl_W z) (hl_brm D (csF.length - cs.length) (hl_bz csF - hl_bz cs)) (va_Pc (av.map (hl_bv h0)) (hl_bat DD ca h0 cs)) (hl_bQc DD ca h0 csF) (csF.length - cs.length) (hl_bz csF - hl_bz cs) (fun q => h0 ≤ q) := by
  refine va_MetF (cc := z.2.1) (maxL := z.2.2.1) (ret := z.2.2.2) hz.2.1 rfl ?_
  intro p e s m args below meth c s₁ B hml hv
  obtain ⟨rfl, hH, hP, hK, hN⟩ := hv
  have hts := atoms_spec (ws := hl_W z) B.pre
  have hown : s.vm.findClass z.1.cls = some m.cls := findClass_of_methodNamed B.named
  have hinit : meth.name = "<init>" := (name_of_methodNamed B.named B.method).1.trans hin
  rw [lg_entry_eq]
  obtain ⟨hs1, hs2⟩ := hl_bsl (h0 := h0) hrf
  have hl := lv_entry (av.map (hl_bv h0)) (n := z.2.2.1) (by rw [hs1]; exact hav)
  rw [hs2] at hl
  refine k p e s m _ below meth c _ _ ⟨B.exec, B.bytes, hml, hown, fun w hw => hts w (List.mem_cons_of_mem _ hw), Nat.le_refl _, Nat.le_refl _⟩ hinit ⟨hH, hP, hK, va_S.rf, hN, Nat.le_refl _, Nat.le_refl _, by omega, by omega, hH⟩ hl ?_
  intro pc' H' locs' la' cells' slots' hd hI
  obtain ⟨i1, i2, i3, i4, i5, i6, i7, i8, i9, i10⟩ := hI
  subst i8
  subst i9
  exact W.vret B.exec B.bytes (B.returns.trans hret) (fun t ht _ => ⟨rfl, by rw [ht]; exact i1, by rw [ht]; exact i2, i4.F ht⟩) i4.2.2 hd B.notSynchronized
theorem hl_bcall {Y : Nat → hl_Y} {na : Nat → Nat} {DD : va_G} {ca : Nat → ClassId} {h0 n0 z0 : Nat} {p : Program} {l : Launch} {e : Env} {R : Room} {s : State} {m : MethodId} {args : Array Value} {below : List Frame} {meth : Method} {c : Code} {H : Heap} {locs : List Loc} {cells slots : Nat} {Q : State → Prop} {D zz pc idx : Nat} {yz : hl_Y} {la : Array Slot} {st : List Value} {cs cs1 csF : List hl_bc}
    (hC : hl_C (D + 1) yz p R s m args c) (hI : hl_bI DD ca h0 n0 z0 cs s H locs cells slots) (hLs : la.size = yz.2.2.1) (hd : decode yz.2.1 pc = .ok (.invokespecial idx, 3))
    (hlink : Cond.methodLink yz.1.cls idx (Y zz).1 ∈ hl_T ∨ ∃ host, Cond.methodLinkNest yz.1.cls idx (Y zz).1 host ∈ tables_1) (hname : (Y zz).1.name = "<init>") (hinst : Cond.instanceMethod (Y zz).1 ∈ hl_T) (hz : hl_Z (Y zz) (na zz)) (hret0 : (Y zz).2.2.2 = none) (hmaxL : na zz + 1 ≤ (Y zz).2.2.1)
    (hb1 : na zz < st.length) (hb2 : st.length ≤ na zz + 3) (hb3 : (st.take (na zz + 1)).all (fun v => match v with | .ref _ => true | _ => false) = true) (hb4 : (st.drop (na zz + 1)).all (fun v => v.category == 1) = true)
    (hm1 : cs.length ≤ cs1.length ∧ hl_bz cs ≤ hl_bz cs1) (hm2 : cs1.length ≤ csF.length ∧ hl_bz cs1 ≤ hl_bz csF) (hr1 : csF.length - n0 ≤ R.cells) (hr2 : hl_bz csF - z0 ≤ R.slots)
    (hk : ∀ (p : Program) (e : Env) (s : State) (m : MethodId) (args : Array Value) (below : List Frame) (meth : Method) (c : Code) (la : Array Slot) (Q : State → Prop), hl_C D (Y zz) p (hl_brm D (cs1.length - cs.length) (hl_bz cs1 - hl_bz cs)) s m args c → meth.name = "<init>" →
      hl_bI DD ca h0 cs.length (hl_bz cs) cs s s.heap [] 0 0 → lv_has la (Y zz).2.2.1 (hl_bl h0 (lv_args 0 (st.take (na zz + 1)).reverse)) →
      (∀ (pc' : Nat) (H' : Heap) (locs' : List Loc) (la' : Array Slot) (cells' slots' : Nat), decode (Y zz).2.1 pc' = .ok (.return_, 1) → hl_bI DD ca h0 cs.length (hl_bz cs) cs1 s H' locs' cells' slots' → W p l e (hl_brm D (cs1.length - cs.length) (hl_bz cs1 - hl_bz cs)) s m args below meth c H' locs' cells' slots' Q (F0 m pc' la' [])) →
      W p l e (hl_brm D (cs1.length - cs.length) (hl_bz cs1 - hl_bz cs)) s m args below meth c s.heap [] 0 0 Q (F0 m 0 la []))
    (kk : ∀ (H2 : Heap) (locs2 : List Loc) (cells2 slots2 : Nat), hl_bI DD ca h0 n0 z0 cs1 s H2 locs2 cells2 slots2 → W p l e R s m args below meth c H2 locs2 cells2 slots2 Q (F0 m (pc + 3) la ((st.drop (na zz + 1)).map (hl_bv h0)))) :
    W p l e R s m args below meth c H locs cells slots Q (F0 m pc la (st.map (hl_bv h0))) := by
  have hts := hC.2.2.2.2.1
  have hlen : ((st.take (na zz + 1)).reverse).length = na zz + 1 := by rw [List.length_reverse, List.length_take]; omega
  have hall : ((st.take (na zz + 1)).reverse).all (fun v => match v with | .ref _ => true | _ => false) = true := by rw [List.all_reverse]; exact hb3
  have hM := hl_bmet (DD := DD) (ca := ca) (h0 := h0) (D := D) (n := na zz) (z := Y zz) (av := (st.take (na zz + 1)).reverse) (cs := cs) (csF := cs1) l hz hret0 hname (by omega) hall hm1.1 hm1.2 hk
  obtain ⟨b, As, hav⟩ : ∃ b As, (st.take (na zz + 1)).reverse = Value.ref b :: As := by
    cases hx : (st.take (na zz + 1)).reverse with
    | nil => rw [hx] at hlen; cases hlen
    | cons x As =>
      rw [hx, List.all_cons, Bool.and_eq_true] at hall
      cases x with
      | ref b => exact ⟨b, As, rfl⟩
      | _ => cases hall.1
  have hst : st = As.reverse ++ .ref b :: st.drop (na zz + 1) := by
    have h2 := List.take_append_drop (na zz + 1) st
    have h3 : st.take (na zz + 1) = (Value.ref b :: As).reverse := by rw [← hav, List.reverse_reverse]
    rw [h3, List.reverse_cons, List.append_assoc] at h2
    exact h2.symm
  rw [hav] at hM
  have hAs : As.length = na zz := by
    have := hlen
    rw [hav] at this
    simpa using this
  have hdl : (st.drop (na zz + 1)).length ≤ 2 := by rw [List.length_drop]; omega
  have hroom := lv_room (m := m) (pc := pc) (ls := la) (rest := st.map (hl_bv h0)) (st := (st.drop (na zz + 1)).map (hl_bv h0)) (by rw [hl_bsum hb4]; omega)
  have hpre : PreS s H (va_Pc ((Value.ref b :: As).map (hl_bv h0)) (hl_bat DD ca h0 cs)) (.ref (h0 + b) :: As.map (hl_bv h0)) := ⟨fun a U f mk q => ⟨q.1, hl_bat_calling q.2⟩, fun U hU hW => ⟨rfl, hl_bat_of hI U hU hW⟩⟩
  have hstack : (F0 m pc la (st.map (hl_bv h0))).stack = (As.map (hl_bv h0)).reverse ++ .ref (h0 + b) :: (st.drop (na zz + 1)).map (hl_bv h0) := by
    show st.map (hl_bv h0) = _
    rw [← List.map_reverse]
    have := congrArg (List.map (hl_bv h0)) hst
    rw [List.map_append] at this
    exact this
  have hR1 : (hl_brm D (cs1.length - cs.length) (hl_bz cs1 - hl_bz cs)).frames + 1 ≤ R.frames ∧ 8 + ((Y zz).2.2.1 + 11) + (hl_brm D (cs1.length - cs.length) (hl_bz cs1 - hl_bz cs)).locals ≤ R.locals := ⟨hC.2.2.2.2.2.1, by have := hC.2.2.2.2.2.2; have := hz.2.2.2.2.2.1; show 8 + ((Y zz).2.2.1 + 11) + (D + 1) * 64 ≤ R.locals; omega⟩
  have hgi : GoodIn hl_T (hl_W (Y zz)) := hl_goodIn (fun w hw => by rcases List.mem_cons.mp hw with rfl | hw; exact hz.1; exact hw)
  have hwe : hl_W (Y zz) = Cond.code (Y zz).1 (Y zz).2.1 (Y zz).2.2.1 none :: hl_T := by unfold hl_W; rw [hret0]
  have hfit : cells + (cs1.length - cs.length) ≤ R.cells ∧ slots + (hl_bz cs1 - hl_bz cs) ≤ R.slots := by
    obtain ⟨i1, i2, i3, i4, i5, i6, i7, i8, i9, i10⟩ := hI
    omega
  have hrun : va_Run p l e R s m args below meth c H locs cells slots (cs1.length - cs.length) (hl_bz cs1 - hl_bz cs) (F0 m pc la (st.map (hl_bv h0))) ((st.drop (na zz + 1)).map (hl_bv h0)) (hl_bQc DD ca h0 cs1 (Value.ref (h0 + b) :: As.map (hl_bv h0)).toArray) (fun q => h0 ≤ q) := by
    rcases hlink with hlink | ⟨host, hlink⟩
    · exact va_runI (own := yz.1.cls) (nL := yz.2.2.1) (cc := yz.2.1) (Ts := hl_T) ⟨hC.1, hC.2.1, hC.2.2.1, hC.2.2.2.1, hts⟩ hM ⟨callB_of (ws' := hl_T) (na zz) hts hgi hwe rfl rfl (hts _ hz.2.2.2.2.2.2) (hts _ hlink) ⟨hz.2.2.1, hz.2.2.2.1, hz.2.2.2.2.1⟩ hR1, hname, hts _ hinst⟩ hpre rfl (by rw [List.length_map]; exact hAs) hLs hstack hroom hd hfit
    · exact va_runIN (own := yz.1.cls) (nL := yz.2.2.1) (cc := yz.2.1) (Ts := hl_T) ⟨hC.1, hC.2.1, hC.2.2.1, hC.2.2.2.1, hts⟩ hM ⟨va_cnB (host := host) (ws' := hl_T) (na zz) hts hgi hwe rfl rfl (hI.2.2.2.2.1.1 _ _ _ _ hlink) (hts _ hz.2.2.2.2.2.2) ⟨hz.2.2.1, hz.2.2.2.1, hz.2.2.2.2.1⟩ hR1, hname, hts _ hinst⟩ hpre rfl (by rw [List.length_map]; exact hAs) hLs hstack hroom hd hfit
  exact hl_bofrun hrun hI (by omega) (by omega) kk
theorem hl_bev_ok {Y : Nat → hl_Y} {cd : Nat → hl_bcode} {na : Nat → Nat} (hcd : hl_bcd Y cd na) {DD : va_G} {ca : Nat → ClassId} {h0 : Nat} {l : Launch} : ∀ (n D z pc : Nat) (ls : List (Nat × Value)) (st : List Value) (cs csF : List hl_bc), hl_bev cd na D n z pc ls st cs = some csF →
    ∀ (n0 z0 : Nat) (p : Program) (e : Env) (R : Room) (s : State) (m : MethodId) (args : Array Value) (below : List Frame) (meth : Method) (c : Code) (H : Heap) (locs : List Loc) (cells slots : Nat) (Q : State → Prop) (la : Array Slot),
    hl_C D (Y z) p R s m args c → meth.name = "<init>" → hl_bI DD ca h0 n0 z0 cs s H locs cells slots → lv_has la (Y z).2.2.1 (hl_bl h0 ls) → csF.length - n0 ≤ R.cells → hl_bz csF - z0 ≤ R.slots →
    (∀ (pc' : Nat) (H' : Heap) (locs' : List Loc) (la' : Array Slot) (cells' slots' : Nat), decode (Y z).2.1 pc' = .ok (.return_, 1) → hl_bI DD ca h0 n0 z0 csF s H' locs' cells' slots' → W p l e R s m args below meth c H' locs' cells' slots' Q (F0 m pc' la' [])) →
    W p l e R s m args below meth c H locs cells slots Q (F0 m pc la (st.map (hl_bv h0))) := by
  intro n
  induction n with
  | zero => intro D y pc ls st cs csF h; simp [hl_bev] at h
  | succ n ih =>
    intro D z pc ls st cs csF h n0 z0 p e R s m args below meth c H locs cells slots Q la hC hin hI hL hr1 hr2 hret
    unfold hl_bev at h
    split at h
    · cases h
    · next hf =>
      obtain ⟨hd, hok⟩ := hcd.1 z pc _ _ hf
      split at h
      · next hst =>
        cases h
        rw [List.length_eq_zero_iff.mp hst]
        exact hret pc H locs la _ _ hd hI
      · cases h
    · next idx hf =>
      obtain ⟨hd, hok⟩ := hcd.1 z pc _ _ hf
      split at h
      · next q r =>
        split at h
        · next hb =>
          obtain ⟨hD, hr3, hr4⟩ := hb
          have hl : Cond.methodLink (Y z).1.cls idx Lib.objectInit ∈ hl_T := hok
          have hts := hC.2.2.2.2.1
          refine W.objInit hC.1 hC.2.1 hC.2.2.2.1 (hts _ hl) (hts _ hcd.2.2.1) (hts _ hcd.2.2.2) rfl (by rw [hC.2.2.1]; exact hL.1) (a := h0 + q) (rest := r.map (hl_bv h0)) rfl hd (by have := hC.2.2.2.2.2.1; omega) ?_ (ih D z (pc + 3) ls r cs csF h n0 z0 p e R s m args below meth c H locs cells slots Q la hC hin hI hL hr1 hr2 hret)
          have hroom := lv_room (m := m) (pc := pc) (ls := la) (rest := Value.ref (h0 + q) :: r.map (hl_bv h0)) (st := r.map (hl_bv h0)) (by rw [hl_bsum hr4]; omega)
          have := hC.2.2.2.2.2.2
          show 2 * (F0 m pc la (Value.ref (h0 + q) :: r.map (hl_bv h0))).monitorRoom + _ + 12 ≤ R.locals
          omega
        · cases h
      · cases h
    · next idx zz hne hf =>
      obtain ⟨hd, hok⟩ := hcd.1 z pc _ _ hf
      split at h
      · cases h
      · next D =>
        split at h
        · next hb =>
          obtain ⟨hb1, hb2, hb3, hb4⟩ := hb
          split at h
          · cases h
          · next cs1 h1 =>
            have hz0 : ¬ zz = 0 := hne
            have hok2 : (Cond.methodLink (Y z).1.cls idx (Y zz).1 ∈ hl_T ∨ ∃ host, Cond.methodLinkNest (Y z).1.cls idx (Y zz).1 host ∈ tables_1) ∧ (Y zz).1.name = "<init>" ∧ Cond.instanceMethod (Y zz).1 ∈ hl_T ∧ hl_Z (Y zz) (na zz) ∧ (Y zz).2.2.2 = none ∧ na zz + 1 ≤ (Y zz).2.2.1 := by
              have := hok
              simp only [hl_bev1, if_neg hz0] at this
              exact this
            obtain ⟨hlink, hname, hinst, hz, hret0, hmaxL⟩ := hok2
            have hm1 := hl_bev_mono _ _ _ _ _ _ _ _ h1
            have hm2 := hl_bev_mono _ _ _ _ _ _ _ _ h
            exact hl_bcall hC hI hL.1 hd hlink hname hinst hz hret0 hmaxL hb1 hb2 hb3 hb4 hm1 hm2 hr1 hr2 (fun p e s m args below meth c la Q hC' hin' hI' hL' hret' => ih D zz 0 _ [] cs cs1 h1 cs.length (hl_bz cs) p e _ s m args below meth c s.heap [] 0 0 Q la hC' hin' hI' hL' (Nat.le_refl _) (Nat.le_refl _) hret')
              (fun H2 locs2 cells2 slots2 hI2 => ih (D + 1) z (pc + 3) ls _ cs1 csF h n0 z0 p e R s m args below meth c H2 locs2 cells2 slots2 Q la hC hin hI2 hL hr1 hr2 hret)
        · cases h
    · next i op hn1 hn2 hn3 hf =>
      obtain ⟨hd, hok⟩ := hcd.1 z pc _ _ hf
      split at h
      · cases h
      · next h1 =>
        have hm := hl_b1_mono h1
        have hm2 := hl_bev_mono _ _ _ _ _ _ _ _ h
        obtain ⟨e1, e2, e3⟩ := hm
        have hok3 : hl_ok (Y z).1.cls i op := by
          cases i <;> first | exact hok | exact absurd rfl (hn3 _)
        refine hl_b1_ok hC (fun _ => hin) hcd.2.1 hd hok3 h1 hI hL (Nat.le_trans (Nat.sub_le_sub_right hm2.1 _) hr1) (Nat.le_trans (Nat.sub_le_sub_right hm2.2 _) hr2) fun H2 locs2 cells2 slots2 hI2 => ?_
        refine ih D z _ _ _ _ _ h n0 z0 p e R s m args below meth c H2 locs2 cells2 slots2 Q la hC hin hI2 ?_ hr1 hr2 hret
        have e1' := e1
        dsimp only at e1'
        subst e1'
        exact hL
