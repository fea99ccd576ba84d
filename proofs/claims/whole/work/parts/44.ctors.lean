/-! the constructors of the class and of the model: code, links, and the cells that they make -/
section HLU
variable {Y : Nat → hl_Y} {na : Nat → Nat} {own : String} {idx op c k : Nat} {C : String} {T : u_T} {N : Nat} {ty : FieldType} {ty0 : Nat → FieldType}
theorem hl_kn (a1 : hl_cl[op]? = some (C, T, N)) (a2 : ∀ w ∈ u_ws C T N, w ∈ hl_T) (a3 : ∀ k, k < N → parseFieldDescriptor (T k).2.2.1 = some (ty0 k)) (a4 : ∀ j, j < N → defaultValue (ty0 j) = vp_V (hl_df op) j) (a5 : (hl_ftl op).length = N) (a6 : Cond.classLink own idx C ∈ hl_T) (a7 : Cond.instantiable C N ∈ hl_T) (a8 : Cond.initialized C ∈ hl_T) : hl_bev1 Y na own (.new idx) op :=
  (⟨C, T, N, ty0, a1, a2, a3, a4, a5, a6, a7, a8⟩ : ∃ (C : String) (T : u_T) (N : Nat) (ty0 : Nat → FieldType), hl_cl[op]? = some (C, T, N) ∧ (∀ w ∈ u_ws C T N, w ∈ hl_T) ∧ (∀ k, k < N → parseFieldDescriptor (T k).2.2.1 = some (ty0 k)) ∧ (∀ j, j < N → defaultValue (ty0 j) = vp_V (hl_df op) j) ∧ (hl_ftl op).length = N ∧ Cond.classLink own idx C ∈ hl_T ∧ Cond.instantiable C N ∈ hl_T ∧ Cond.initialized C ∈ hl_T)
theorem hl_kg (e1 : op / 256 = c) (e2 : op % 256 = k) (h : hl_FL own idx c k) : hl_bev1 Y na own (.getfield idx) op := by
  subst e1; subst e2; exact h
theorem hl_kp (e1 : op / 256 = c) (e2 : op % 256 = k) (a1 : hl_CL c C T N) (a2 : k < N) (a3 : (T k).1 = C) (a4 : Cond.fieldLink own idx C (T k).2.1 (T k).2.2.1 ∈ hl_T) (a5 : C = own) (a6 : parseFieldDescriptor (T k).2.2.1 = some ty) (a7 : (hl_ftl c)[k]? = some 2 → ty.isReference = true) (a8 : (hl_ftl c)[k]? = some 0 → ty = .int) : hl_bev1 Y na own (.putfield idx) op := by
  subst e1; subst e2
  exact (⟨C, T, N, ty, a1, a2, a3, a4, fun _ => a5, a6, a7, a8⟩ : ∃ (C : String) (T : u_T) (N : Nat) (ty : FieldType), hl_CL (op / 256) C T N ∧ op % 256 < N ∧ (T (op % 256)).1 = C ∧ Cond.fieldLink own idx C (T (op % 256)).2.1 (T (op % 256)).2.2.1 ∈ hl_T ∧ ((T (op % 256)).2.2.2 = true → C = own) ∧ parseFieldDescriptor (T (op % 256)).2.2.1 = some ty ∧ ((hl_ftl (op / 256))[op % 256]? = some 2 → ty.isReference = true) ∧ ((hl_ftl (op / 256))[op % 256]? = some 0 → ty = .int))
theorem hl_km (a : Cond.classLink own idx "[[I" ∈ hl_T) : hl_bev1 Y na own (.multianewarray idx 2) op := (⟨rfl, a⟩ : 2 = 2 ∧ Cond.classLink own idx "[[I" ∈ hl_T)
theorem hl_k0 (a : Cond.methodLink own idx Lib.objectInit ∈ hl_T) : hl_bev1 Y na own (.invokespecial idx) 0 := a
theorem hl_ki (hn : ¬ op = 0) (a : Cond.methodLink own idx (Y op).1 ∈ hl_T ∨ ∃ host, Cond.methodLinkNest own idx (Y op).1 host ∈ tables_1) (a1 : (Y op).1.name = "<init>") (a2 : Cond.instanceMethod (Y op).1 ∈ hl_T) (a3 : hl_Z (Y op) (na op)) (a4 : (Y op).2.2.2 = none) (a5 : na op + 1 ≤ (Y op).2.2.1) : hl_bev1 Y na own (.invokespecial idx) op := by
  simp only [hl_bev1, if_neg hn]
  exact ⟨a, a1, a2, a3, a4, a5⟩
theorem hl_find_mem : ∀ {l : hl_bcode} {pc : Nat} {r : Instr × Nat}, hl_find l pc = some r → (pc, r) ∈ l := by
  intro l
  induction l with
  | nil => intro pc r h; cases h
  | cons q l ih =>
    intro pc r h
    unfold hl_find at h
    split at h
    next e =>
      cases h
      subst e
      exact List.mem_cons_self
    next => exact List.mem_cons_of_mem _ (ih h)
/-- the decoded instructions, all at once -/
def hl_bda (b : ByteArray) (l : hl_bcode) : Bool := l.all (fun q => decide (decode b q.1 = .ok (q.2.1, hl_len q.2.1)))
theorem hl_bda_of {b : ByteArray} {l : hl_bcode} (h : hl_bda b l = true) {q : Nat × Instr × Nat} (hq : q ∈ l) : decode b q.1 = .ok (q.2.1, hl_len q.2.1) := of_decide_eq_true (List.all_eq_true.mp h q hq)
/-- instructions without links -/
def hl_free : Instr → Bool
  | .new _ => false
  | .getfield _ => false
  | .putfield _ => false
  | .multianewarray _ _ => false
  | .invokespecial _ => false
  | _ => true
theorem hl_kf {i : Instr} (h : hl_free i = true) : hl_bev1 Y na own i op := by
  cases i <;> first | exact trivial | cases h
theorem hl_kall {l : hl_bcode} (h : ∀ q ∈ l.filter (fun q => !hl_free q.2.1), hl_bev1 Y na own q.2.1 q.2.2) : ∀ q ∈ l, hl_bev1 Y na own q.2.1 q.2.2 := by
  intro q hq
  cases hf : hl_free q.2.1 with
  | true => exact hl_kf hf
  | false => exact h q (List.mem_filter.mpr ⟨hq, by rw [hf]; rfl⟩)
end HLU
def hl_bY : Nat → hl_Y := fun k => match k with
  | 1 => (⟨"HymnLamps", "<init>", "()V"⟩, prog_1_method_1_code, 1, none)
  | 2 => (⟨"HymnLamps$Tape", "<init>", "()V"⟩, prog_8_method_1_code, 1, none)
  | 3 => (⟨"HymnLamps$Reader", "<init>", "(LHymnLamps$Tape;)V"⟩, prog_7_method_1_code, 2, none)
  | 4 => (⟨"HymnLamps$Ground", "<init>", "()V"⟩, prog_3_method_1_code, 1, none)
  | 5 => (⟨"HymnLamps$Teller", "<init>", "(LHymnLamps$Reader;LHymnLamps$Ground;)V"⟩, prog_9_method_1_code, 3, none)
  | 6 => (⟨"HymnLamps$Walks", "<init>", "(LHymnLamps$Ground;)V"⟩, prog_11_method_1_code, 2, none)
  | 7 => (⟨"HymnLamps$View", "<init>", "(LHymnLamps$Ground;LHymnLamps$Walks;)V"⟩, prog_10_method_1_code, 3, none)
  | 8 => (⟨"HymnLamps$Paths", "<init>", "(LHymnLamps$Ground;LHymnLamps$Walks;)V"⟩, prog_5_method_1_code, 3, none)
  | 9 => (⟨"HymnLamps$Question", "<init>", "(LHymnLamps$Reader;LHymnLamps$Ground;LHymnLamps$Walks;LHymnLamps$View;)V"⟩, prog_6_method_1_code, 5, none)
  | 10 => (⟨"HymnLamps$Acts", "<init>", "()V"⟩, prog_2_method_1_code, 1, none)
  | 11 => (⟨"HymnLamps$Images", "<init>", "(LHymnLamps$Ground;)V"⟩, prog_4_method_1_code, 2, none)
  | _ => (⟨"HymnLampsModel", "<init>", "()V"⟩, prog_13_method_1_code, 1, none)
def hl_bna : Nat → Nat := fun k => [0, 0, 0, 1, 0, 2, 1, 2, 2, 4, 0, 1, 0].getD k 0
theorem hl_bz1 : hl_Z (hl_bY 1) 0 := ⟨hl_in1 25 rfl rfl, by decide +kernel, by decide +kernel, by decide +kernel, by decide +kernel, by decide, hl_in1 1 rfl rfl⟩
theorem hl_bi1 : Cond.instanceMethod (hl_bY 1).1 ∈ hl_T := hl_in1 24 rfl rfl
theorem hl_bz2 : hl_Z (hl_bY 2) 0 := ⟨hl_in1 33 rfl rfl, by decide +kernel, by decide +kernel, by decide +kernel, by decide +kernel, by decide, hl_in1 2 rfl rfl⟩
theorem hl_bi2 : Cond.instanceMethod (hl_bY 2).1 ∈ hl_T := hl_in1 32 rfl rfl
theorem hl_bz3 : hl_Z (hl_bY 3) 1 := ⟨hl_in1 50 rfl rfl, by decide +kernel, by decide +kernel, by decide +kernel, by decide +kernel, by decide, hl_in1 3 rfl rfl⟩
theorem hl_bi3 : Cond.instanceMethod (hl_bY 3).1 ∈ hl_T := hl_in1 49 rfl rfl
theorem hl_bz4 : hl_Z (hl_bY 4) 0 := ⟨hl_in1 85 rfl rfl, by decide +kernel, by decide +kernel, by decide +kernel, by decide +kernel, by decide, hl_in1 4 rfl rfl⟩
theorem hl_bi4 : Cond.instanceMethod (hl_bY 4).1 ∈ hl_T := hl_in1 84 rfl rfl
theorem hl_bz5 : hl_Z (hl_bY 5) 2 := ⟨hl_in1 188 rfl rfl, by decide +kernel, by decide +kernel, by decide +kernel, by decide +kernel, by decide, hl_in1 5 rfl rfl⟩
theorem hl_bi5 : Cond.instanceMethod (hl_bY 5).1 ∈ hl_T := hl_in1 187 rfl rfl
theorem hl_bz6 : hl_Z (hl_bY 6) 1 := ⟨hl_in1 204 rfl rfl, by decide +kernel, by decide +kernel, by decide +kernel, by decide +kernel, by decide, hl_in1 6 rfl rfl⟩
theorem hl_bi6 : Cond.instanceMethod (hl_bY 6).1 ∈ hl_T := hl_in1 203 rfl rfl
theorem hl_bz7 : hl_Z (hl_bY 7) 2 := ⟨hl_in1 219 rfl rfl, by decide +kernel, by decide +kernel, by decide +kernel, by decide +kernel, by decide, hl_in1 7 rfl rfl⟩
theorem hl_bi7 : Cond.instanceMethod (hl_bY 7).1 ∈ hl_T := hl_in1 218 rfl rfl
theorem hl_bz8 : hl_Z (hl_bY 8) 2 := ⟨hl_in2 0 rfl rfl, by decide +kernel, by decide +kernel, by decide +kernel, by decide +kernel, by decide, hl_in1 8 rfl rfl⟩
theorem hl_bi8 : Cond.instanceMethod (hl_bY 8).1 ∈ hl_T := hl_in1 239 rfl rfl
theorem hl_bz9 : hl_Z (hl_bY 9) 4 := ⟨hl_in2 43 rfl rfl, by decide +kernel, by decide +kernel, by decide +kernel, by decide +kernel, by decide, hl_in1 9 rfl rfl⟩
theorem hl_bi9 : Cond.instanceMethod (hl_bY 9).1 ∈ hl_T := hl_in2 42 rfl rfl
theorem hl_bz10 : hl_Z (hl_bY 10) 0 := ⟨hl_in2 80 rfl rfl, by decide +kernel, by decide +kernel, by decide +kernel, by decide +kernel, by decide, hl_in1 10 rfl rfl⟩
theorem hl_bi10 : Cond.instanceMethod (hl_bY 10).1 ∈ hl_T := hl_in2 79 rfl rfl
theorem hl_bz11 : hl_Z (hl_bY 11) 1 := ⟨hl_in2 103 rfl rfl, by decide +kernel, by decide +kernel, by decide +kernel, by decide +kernel, by decide, hl_in1 11 rfl rfl⟩
theorem hl_bi11 : Cond.instanceMethod (hl_bY 11).1 ∈ hl_T := hl_in2 102 rfl rfl
theorem hl_bz12 : hl_Z (hl_bY 12) 0 := ⟨hl_in5 238 rfl rfl, by decide +kernel, by decide +kernel, by decide +kernel, by decide +kernel, by decide, hl_in1 12 rfl rfl⟩
theorem hl_bi12 : Cond.instanceMethod (hl_bY 12).1 ∈ hl_T := hl_in5 237 rfl rfl
def hl_bc1_0 : hl_bcode := [(0, (.aload_n 0), 0), (1, (.invokespecial 1), 0), (4, (.aload_n 0), 0), (5, (.new 7), 1), (8, .dup, 0), (9, (.invokespecial 9), 2), (12, (.putfield 10), 0), (15, (.aload_n 0), 0), (16, (.new 16), 2), (19, .dup, 0), (20, (.aload_n 0), 0), (21, (.getfield 10), 0), (24, (.invokespecial 18), 3), (27, (.putfield 21), 1), (30, (.aload_n 0), 0), (31, (.new 25), 3), (34, .dup, 0), (35, (.invokespecial 27), 4), (38, (.putfield 28), 2), (41, (.aload_n 0), 0), (42, (.new 25), 3), (45, .dup, 0), (46, (.invokespecial 27), 4), (49, (.putfield 32), 3), (52, (.aload_n 0), 0), (53, (.new 35), 4), (56, .dup, 0), (57, (.aload_n 0), 0), (58, (.getfield 21), 1), (61, (.aload_n 0), 0), (62, (.getfield 32), 3), (65, (.invokespecial 37), 5), (68, (.putfield 40), 4), (71, (.aload_n 0), 0), (72, (.new 44), 5), (75, .dup, 0), (76, (.aload_n 0), 0), (77, (.getfield 28), 2), (80, (.invokespecial 46), 6), (83, (.putfield 49), 5), (86, (.aload_n 0), 0), (87, (.new 53), 6), (90, .dup, 0), (91, (.aload_n 0), 0), (92, (.getfield 28), 2), (95, (.aload_n 0), 0), (96, (.getfield 49), 5), (99, (.invokespecial 55), 7), (102, (.putfield 58), 6), (105, (.aload_n 0), 0), (106, (.new 62), 7), (109, .dup, 0), (110, (.aload_n 0), 0), (111, (.getfield 28), 2), (114, (.aload_n 0), 0), (115, (.getfield 49), 5), (118, (.invokespecial 64), 8), (121, (.putfield 65), 7), (124, (.aload_n 0), 0), (125, (.new 69), 8), (128, .dup, 0), (129, (.aload_n 0), 0), (130, (.getfield 21), 1), (133, (.aload_n 0), 0), (134, (.getfield 28), 2), (137, (.aload_n 0), 0), (138, (.getfield 49), 5), (141, (.aload_n 0), 0), (142, (.getfield 58), 6), (145, (.invokespecial 71), 9), (148, (.putfield 74), 8), (151, (.aload_n 0), 0), (152, (.new 78), 9), (155, .dup, 0), (156, (.invokespecial 80), 10), (159, (.putfield 81), 9), (162, (.aload_n 0), 0), (163, (.new 85), 10), (166, .dup, 0), (167, (.aload_n 0), 0)]
theorem hl_bd1_0 : hl_bda (hl_bY 1).2.1 hl_bc1_0 = true := by decide +kernel
def hl_bc1_1 : hl_bcode := [(168, (.getfield 28), 2), (171, (.invokespecial 87), 11), (174, (.putfield 88), 10), (177, .return_, 0)]
theorem hl_bd1_1 : hl_bda (hl_bY 1).2.1 hl_bc1_1 = true := by decide +kernel
def hl_bl1 : hl_bcode := hl_bc1_0 ++ (hl_bc1_1)
theorem hl_bf1_1 : hl_bev1 hl_bY hl_bna "HymnLamps" (.invokespecial 1) 0 := hl_k0 (hl_in1 26 rfl rfl)
theorem hl_bf1_5 : hl_bev1 hl_bY hl_bna "HymnLamps" (.new 7) 1 := hl_kn (ty0 := hl_t1) rfl hl_w1 hl_tok1 (by decide +kernel) rfl (hl_in1 29 rfl rfl) (hl_in1 30 rfl rfl) (hl_in1 2 rfl rfl)
theorem hl_bf1_9 : hl_bev1 hl_bY hl_bna "HymnLamps" (.invokespecial 9) 2 := hl_ki (by decide) (Or.inr ⟨"HymnLamps", hl_m1 31 rfl⟩) rfl hl_bi2 hl_bz2 rfl (by decide)
theorem hl_bf1_12 : hl_bev1 hl_bY hl_bna "HymnLamps" (.putfield 10) 0 := hl_kp (c := 0) (k := 0) (ty := .object "HymnLamps$Tape") rfl rfl hl_CL0 (by decide) rfl (hl_in2 117 rfl rfl) rfl (by decide +kernel) (fun _ => rfl) (fun h => absurd h (by decide))
theorem hl_bf1_16 : hl_bev1 hl_bY hl_bna "HymnLamps" (.new 16) 2 := hl_kn (ty0 := hl_t2) rfl hl_w2 hl_tok2 (by decide +kernel) rfl (hl_in1 46 rfl rfl) (hl_in1 47 rfl rfl) (hl_in1 3 rfl rfl)
theorem hl_bf1_21 : hl_bev1 hl_bY hl_bna "HymnLamps" (.getfield 10) 0 := hl_kg rfl rfl ⟨_, _, _, hl_CL0, by decide, rfl, hl_in2 117 rfl rfl⟩
theorem hl_bf1_24 : hl_bev1 hl_bY hl_bna "HymnLamps" (.invokespecial 18) 3 := hl_ki (by decide) (Or.inl (hl_in1 48 rfl rfl)) rfl hl_bi3 hl_bz3 rfl (by decide)
theorem hl_bf1_27 : hl_bev1 hl_bY hl_bna "HymnLamps" (.putfield 21) 1 := hl_kp (c := 0) (k := 1) (ty := .object "HymnLamps$Reader") rfl rfl hl_CL0 (by decide) rfl (hl_in2 118 rfl rfl) rfl (by decide +kernel) (fun _ => rfl) (fun h => absurd h (by decide))
theorem hl_bf1_31 : hl_bev1 hl_bY hl_bna "HymnLamps" (.new 25) 3 := hl_kn (ty0 := hl_t3) rfl hl_w3 hl_tok3 (by decide +kernel) rfl (hl_in1 81 rfl rfl) (hl_in1 82 rfl rfl) (hl_in1 4 rfl rfl)
theorem hl_bf1_35 : hl_bev1 hl_bY hl_bna "HymnLamps" (.invokespecial 27) 4 := hl_ki (by decide) (Or.inr ⟨"HymnLamps", hl_m1 83 rfl⟩) rfl hl_bi4 hl_bz4 rfl (by decide)
theorem hl_bf1_38 : hl_bev1 hl_bY hl_bna "HymnLamps" (.putfield 28) 2 := hl_kp (c := 0) (k := 2) (ty := .object "HymnLamps$Ground") rfl rfl hl_CL0 (by decide) rfl (hl_in2 119 rfl rfl) rfl (by decide +kernel) (fun _ => rfl) (fun h => absurd h (by decide))
theorem hl_bf1_42 : hl_bev1 hl_bY hl_bna "HymnLamps" (.new 25) 3 := hl_kn (ty0 := hl_t3) rfl hl_w3 hl_tok3 (by decide +kernel) rfl (hl_in1 81 rfl rfl) (hl_in1 82 rfl rfl) (hl_in1 4 rfl rfl)
theorem hl_bf1_46 : hl_bev1 hl_bY hl_bna "HymnLamps" (.invokespecial 27) 4 := hl_ki (by decide) (Or.inr ⟨"HymnLamps", hl_m1 83 rfl⟩) rfl hl_bi4 hl_bz4 rfl (by decide)
theorem hl_bf1_49 : hl_bev1 hl_bY hl_bna "HymnLamps" (.putfield 32) 3 := hl_kp (c := 0) (k := 3) (ty := .object "HymnLamps$Ground") rfl rfl hl_CL0 (by decide) rfl (hl_in2 120 rfl rfl) rfl (by decide +kernel) (fun _ => rfl) (fun h => absurd h (by decide))
theorem hl_bf1_53 : hl_bev1 hl_bY hl_bna "HymnLamps" (.new 35) 4 := hl_kn (ty0 := hl_t4) rfl hl_w4 hl_tok4 (by decide +kernel) rfl (hl_in1 184 rfl rfl) (hl_in1 185 rfl rfl) (hl_in1 5 rfl rfl)
theorem hl_bf1_58 : hl_bev1 hl_bY hl_bna "HymnLamps" (.getfield 21) 1 := hl_kg rfl rfl ⟨_, _, _, hl_CL0, by decide, rfl, hl_in2 118 rfl rfl⟩
theorem hl_bf1_62 : hl_bev1 hl_bY hl_bna "HymnLamps" (.getfield 32) 3 := hl_kg rfl rfl ⟨_, _, _, hl_CL0, by decide, rfl, hl_in2 120 rfl rfl⟩
theorem hl_bf1_65 : hl_bev1 hl_bY hl_bna "HymnLamps" (.invokespecial 37) 5 := hl_ki (by decide) (Or.inl (hl_in1 186 rfl rfl)) rfl hl_bi5 hl_bz5 rfl (by decide)
theorem hl_bf1_68 : hl_bev1 hl_bY hl_bna "HymnLamps" (.putfield 40) 4 := hl_kp (c := 0) (k := 4) (ty := .object "HymnLamps$Teller") rfl rfl hl_CL0 (by decide) rfl (hl_in2 121 rfl rfl) rfl (by decide +kernel) (fun _ => rfl) (fun h => absurd h (by decide))
theorem hl_bf1_72 : hl_bev1 hl_bY hl_bna "HymnLamps" (.new 44) 5 := hl_kn (ty0 := hl_t5) rfl hl_w5 hl_tok5 (by decide +kernel) rfl (hl_in1 200 rfl rfl) (hl_in1 201 rfl rfl) (hl_in1 6 rfl rfl)
theorem hl_bf1_77 : hl_bev1 hl_bY hl_bna "HymnLamps" (.getfield 28) 2 := hl_kg rfl rfl ⟨_, _, _, hl_CL0, by decide, rfl, hl_in2 119 rfl rfl⟩
theorem hl_bf1_80 : hl_bev1 hl_bY hl_bna "HymnLamps" (.invokespecial 46) 6 := hl_ki (by decide) (Or.inl (hl_in1 202 rfl rfl)) rfl hl_bi6 hl_bz6 rfl (by decide)
theorem hl_bf1_83 : hl_bev1 hl_bY hl_bna "HymnLamps" (.putfield 49) 5 := hl_kp (c := 0) (k := 5) (ty := .object "HymnLamps$Walks") rfl rfl hl_CL0 (by decide) rfl (hl_in2 122 rfl rfl) rfl (by decide +kernel) (fun _ => rfl) (fun h => absurd h (by decide))
theorem hl_bf1_87 : hl_bev1 hl_bY hl_bna "HymnLamps" (.new 53) 6 := hl_kn (ty0 := hl_t6) rfl hl_w6 hl_tok6 (by decide +kernel) rfl (hl_in1 215 rfl rfl) (hl_in1 216 rfl rfl) (hl_in1 7 rfl rfl)
theorem hl_bf1_92 : hl_bev1 hl_bY hl_bna "HymnLamps" (.getfield 28) 2 := hl_kg rfl rfl ⟨_, _, _, hl_CL0, by decide, rfl, hl_in2 119 rfl rfl⟩
theorem hl_bf1_96 : hl_bev1 hl_bY hl_bna "HymnLamps" (.getfield 49) 5 := hl_kg rfl rfl ⟨_, _, _, hl_CL0, by decide, rfl, hl_in2 122 rfl rfl⟩
theorem hl_bf1_99 : hl_bev1 hl_bY hl_bna "HymnLamps" (.invokespecial 55) 7 := hl_ki (by decide) (Or.inl (hl_in1 217 rfl rfl)) rfl hl_bi7 hl_bz7 rfl (by decide)
theorem hl_bf1_102 : hl_bev1 hl_bY hl_bna "HymnLamps" (.putfield 58) 6 := hl_kp (c := 0) (k := 6) (ty := .object "HymnLamps$View") rfl rfl hl_CL0 (by decide) rfl (hl_in2 123 rfl rfl) rfl (by decide +kernel) (fun _ => rfl) (fun h => absurd h (by decide))
theorem hl_bf1_106 : hl_bev1 hl_bY hl_bna "HymnLamps" (.new 62) 7 := hl_kn (ty0 := hl_t7) rfl hl_w7 hl_tok7 (by decide +kernel) rfl (hl_in1 236 rfl rfl) (hl_in1 237 rfl rfl) (hl_in1 8 rfl rfl)
theorem hl_bf1_111 : hl_bev1 hl_bY hl_bna "HymnLamps" (.getfield 28) 2 := hl_kg rfl rfl ⟨_, _, _, hl_CL0, by decide, rfl, hl_in2 119 rfl rfl⟩
theorem hl_bf1_115 : hl_bev1 hl_bY hl_bna "HymnLamps" (.getfield 49) 5 := hl_kg rfl rfl ⟨_, _, _, hl_CL0, by decide, rfl, hl_in2 122 rfl rfl⟩
theorem hl_bf1_118 : hl_bev1 hl_bY hl_bna "HymnLamps" (.invokespecial 64) 8 := hl_ki (by decide) (Or.inl (hl_in1 238 rfl rfl)) rfl hl_bi8 hl_bz8 rfl (by decide)
theorem hl_bf1_121 : hl_bev1 hl_bY hl_bna "HymnLamps" (.putfield 65) 7 := hl_kp (c := 0) (k := 7) (ty := .object "HymnLamps$Paths") rfl rfl hl_CL0 (by decide) rfl (hl_in2 124 rfl rfl) rfl (by decide +kernel) (fun _ => rfl) (fun h => absurd h (by decide))
theorem hl_bf1_125 : hl_bev1 hl_bY hl_bna "HymnLamps" (.new 69) 8 := hl_kn (ty0 := hl_t8) rfl hl_w8 hl_tok8 (by decide +kernel) rfl (hl_in2 39 rfl rfl) (hl_in2 40 rfl rfl) (hl_in1 9 rfl rfl)
theorem hl_bf1_130 : hl_bev1 hl_bY hl_bna "HymnLamps" (.getfield 21) 1 := hl_kg rfl rfl ⟨_, _, _, hl_CL0, by decide, rfl, hl_in2 118 rfl rfl⟩
theorem hl_bf1_134 : hl_bev1 hl_bY hl_bna "HymnLamps" (.getfield 28) 2 := hl_kg rfl rfl ⟨_, _, _, hl_CL0, by decide, rfl, hl_in2 119 rfl rfl⟩
theorem hl_bf1_138 : hl_bev1 hl_bY hl_bna "HymnLamps" (.getfield 49) 5 := hl_kg rfl rfl ⟨_, _, _, hl_CL0, by decide, rfl, hl_in2 122 rfl rfl⟩
theorem hl_bf1_142 : hl_bev1 hl_bY hl_bna "HymnLamps" (.getfield 58) 6 := hl_kg rfl rfl ⟨_, _, _, hl_CL0, by decide, rfl, hl_in2 123 rfl rfl⟩
theorem hl_bf1_145 : hl_bev1 hl_bY hl_bna "HymnLamps" (.invokespecial 71) 9 := hl_ki (by decide) (Or.inl (hl_in2 41 rfl rfl)) rfl hl_bi9 hl_bz9 rfl (by decide)
theorem hl_bf1_148 : hl_bev1 hl_bY hl_bna "HymnLamps" (.putfield 74) 8 := hl_kp (c := 0) (k := 8) (ty := .object "HymnLamps$Question") rfl rfl hl_CL0 (by decide) rfl (hl_in2 125 rfl rfl) rfl (by decide +kernel) (fun _ => rfl) (fun h => absurd h (by decide))
theorem hl_bf1_152 : hl_bev1 hl_bY hl_bna "HymnLamps" (.new 78) 9 := hl_kn (ty0 := hl_t9) rfl hl_w9 hl_tok9 (by decide +kernel) rfl (hl_in2 76 rfl rfl) (hl_in2 77 rfl rfl) (hl_in1 10 rfl rfl)
theorem hl_bf1_156 : hl_bev1 hl_bY hl_bna "HymnLamps" (.invokespecial 80) 10 := hl_ki (by decide) (Or.inr ⟨"HymnLamps", hl_m2 78 rfl⟩) rfl hl_bi10 hl_bz10 rfl (by decide)
theorem hl_bf1_159 : hl_bev1 hl_bY hl_bna "HymnLamps" (.putfield 81) 9 := hl_kp (c := 0) (k := 9) (ty := .object "HymnLamps$Acts") rfl rfl hl_CL0 (by decide) rfl (hl_in2 126 rfl rfl) rfl (by decide +kernel) (fun _ => rfl) (fun h => absurd h (by decide))
theorem hl_bf1_163 : hl_bev1 hl_bY hl_bna "HymnLamps" (.new 85) 10 := hl_kn (ty0 := hl_t10) rfl hl_w10 hl_tok10 (by decide +kernel) rfl (hl_in2 99 rfl rfl) (hl_in2 100 rfl rfl) (hl_in1 11 rfl rfl)
theorem hl_bf1_168 : hl_bev1 hl_bY hl_bna "HymnLamps" (.getfield 28) 2 := hl_kg rfl rfl ⟨_, _, _, hl_CL0, by decide, rfl, hl_in2 119 rfl rfl⟩
theorem hl_bf1_171 : hl_bev1 hl_bY hl_bna "HymnLamps" (.invokespecial 87) 11 := hl_ki (by decide) (Or.inl (hl_in2 101 rfl rfl)) rfl hl_bi11 hl_bz11 rfl (by decide)
theorem hl_bf1_174 : hl_bev1 hl_bY hl_bna "HymnLamps" (.putfield 88) 10 := hl_kp (c := 0) (k := 10) (ty := .object "HymnLamps$Images") rfl rfl hl_CL0 (by decide) rfl (hl_in2 127 rfl rfl) rfl (by decide +kernel) (fun _ => rfl) (fun h => absurd h (by decide))
theorem hl_be1_0 : ∀ q ∈ hl_bc1_0, hl_bev1 hl_bY hl_bna "HymnLamps" q.2.1 q.2.2 := by
  refine hl_kall ?_
  have h : hl_bc1_0.filter (fun q => !hl_free q.2.1) = [(1, (.invokespecial 1), 0), (5, (.new 7), 1), (9, (.invokespecial 9), 2), (12, (.putfield 10), 0), (16, (.new 16), 2), (21, (.getfield 10), 0), (24, (.invokespecial 18), 3), (27, (.putfield 21), 1), (31, (.new 25), 3), (35, (.invokespecial 27), 4), (38, (.putfield 28), 2), (42, (.new 25), 3), (46, (.invokespecial 27), 4), (49, (.putfield 32), 3), (53, (.new 35), 4), (58, (.getfield 21), 1), (62, (.getfield 32), 3), (65, (.invokespecial 37), 5), (68, (.putfield 40), 4), (72, (.new 44), 5), (77, (.getfield 28), 2), (80, (.invokespecial 46), 6), (83, (.putfield 49), 5), (87, (.new 53), 6), (92, (.getfield 28), 2), (96, (.getfield 49), 5), (99, (.invokespecial 55), 7), (102, (.putfield 58), 6), (106, (.new 62), 7), (111, (.getfield 28), 2), (115, (.getfield 49), 5), (118, (.invokespecial 64), 8), (121, (.putfield 65), 7), (125, (.new 69), 8), (130, (.getfield 21), 1), (134, (.getfield 28), 2), (138, (.getfield 49), 5), (142, (.getfield 58), 6), (145, (.invokespecial 71), 9), (148, (.putfield 74), 8), (152, (.new 78), 9), (156, (.invokespecial 80), 10), (159, (.putfield 81), 9), (163, (.new 85), 10)] := by decide +kernel
  rw [h]
  exact List.forall_mem_cons.mpr ⟨hl_bf1_1, List.forall_mem_cons.mpr ⟨hl_bf1_5, List.forall_mem_cons.mpr ⟨hl_bf1_9, List.forall_mem_cons.mpr ⟨hl_bf1_12, List.forall_mem_cons.mpr ⟨hl_bf1_16, List.forall_mem_cons.mpr ⟨hl_bf1_21, List.forall_mem_cons.mpr ⟨hl_bf1_24, List.forall_mem_cons.mpr ⟨hl_bf1_27, List.forall_mem_cons.mpr ⟨hl_bf1_31, List.forall_mem_cons.mpr ⟨hl_bf1_35, List.forall_mem_cons.mpr ⟨hl_bf1_38, List.forall_mem_cons.mpr ⟨hl_bf1_42, List.forall_mem_cons.mpr ⟨hl_bf1_46, List.forall_mem_cons.mpr ⟨hl_bf1_49, List.forall_mem_cons.mpr ⟨hl_bf1_53, List.forall_mem_cons.mpr ⟨hl_bf1_58, List.forall_mem_cons.mpr ⟨hl_bf1_62, List.forall_mem_cons.mpr ⟨hl_bf1_65, List.forall_mem_cons.mpr ⟨hl_bf1_68, List.forall_mem_cons.mpr ⟨hl_bf1_72, List.forall_mem_cons.mpr ⟨hl_bf1_77, List.forall_mem_cons.mpr ⟨hl_bf1_80, List.forall_mem_cons.mpr ⟨hl_bf1_83, List.forall_mem_cons.mpr ⟨hl_bf1_87, List.forall_mem_cons.mpr ⟨hl_bf1_92, List.forall_mem_cons.mpr ⟨hl_bf1_96, List.forall_mem_cons.mpr ⟨hl_bf1_99, List.forall_mem_cons.mpr ⟨hl_bf1_102, List.forall_mem_cons.mpr ⟨hl_bf1_106, List.forall_mem_cons.mpr ⟨hl_bf1_111, List.forall_mem_cons.mpr ⟨hl_bf1_115, List.forall_mem_cons.mpr ⟨hl_bf1_118, List.forall_mem_cons.mpr ⟨hl_bf1_121, List.forall_mem_cons.mpr ⟨hl_bf1_125, List.forall_mem_cons.mpr ⟨hl_bf1_130, List.forall_mem_cons.mpr ⟨hl_bf1_134, List.forall_mem_cons.mpr ⟨hl_bf1_138, List.forall_mem_cons.mpr ⟨hl_bf1_142, List.forall_mem_cons.mpr ⟨hl_bf1_145, List.forall_mem_cons.mpr ⟨hl_bf1_148, List.forall_mem_cons.mpr ⟨hl_bf1_152, List.forall_mem_cons.mpr ⟨hl_bf1_156, List.forall_mem_cons.mpr ⟨hl_bf1_159, List.forall_mem_cons.mpr ⟨hl_bf1_163, fun _ h => absurd h (List.not_mem_nil)⟩⟩⟩⟩⟩⟩⟩⟩⟩⟩⟩⟩⟩⟩⟩⟩⟩⟩⟩⟩⟩⟩⟩⟩⟩⟩⟩⟩⟩⟩⟩⟩⟩⟩⟩⟩⟩⟩⟩⟩⟩⟩⟩⟩
theorem hl_be1_1 : ∀ q ∈ hl_bc1_1, hl_bev1 hl_bY hl_bna "HymnLamps" q.2.1 q.2.2 := by
  refine hl_kall ?_
  have h : hl_bc1_1.filter (fun q => !hl_free q.2.1) = [(168, (.getfield 28), 2), (171, (.invokespecial 87), 11), (174, (.putfield 88), 10)] := by decide +kernel
  rw [h]
  exact List.forall_mem_cons.mpr ⟨hl_bf1_168, List.forall_mem_cons.mpr ⟨hl_bf1_171, List.forall_mem_cons.mpr ⟨hl_bf1_174, fun _ h => absurd h (List.not_mem_nil)⟩⟩⟩
theorem hl_bg1 {pc : Nat} {i : Instr} {op : Nat} (h : hl_find hl_bl1 pc = some (i, op)) : decode (hl_bY 1).2.1 pc = .ok (i, hl_len i) ∧ hl_bev1 hl_bY hl_bna (hl_bY 1).1.cls i op := by
  rw [show (hl_bY 1).1.cls = "HymnLamps" from rfl]
  have h := hl_find_mem h
  unfold hl_bl1 at h
  rcases List.mem_append.mp h with h | h
  · exact ⟨hl_bda_of (q := (pc, i, op)) hl_bd1_0 h, hl_be1_0 (pc, i, op) h⟩
  exact ⟨hl_bda_of (q := (pc, i, op)) hl_bd1_1 h, hl_be1_1 (pc, i, op) h⟩
def hl_bc2_0 : hl_bcode := [(0, (.aload_n 0), 0), (1, (.invokespecial 3), 0), (4, (.aload_n 0), 0), (5, (.sipush 1600), 0), (8, (.newarray .byte), 0), (10, (.putfield 9), 256), (13, .return_, 0)]
theorem hl_bd2_0 : hl_bda (hl_bY 2).2.1 hl_bc2_0 = true := by decide +kernel
def hl_bl2 : hl_bcode := hl_bc2_0
theorem hl_bf2_1 : hl_bev1 hl_bY hl_bna "HymnLamps$Tape" (.invokespecial 3) 0 := hl_k0 (hl_in1 34 rfl rfl)
theorem hl_bf2_10 : hl_bev1 hl_bY hl_bna "HymnLamps$Tape" (.putfield 9) 256 := hl_kp (c := 1) (k := 0) (ty := .array .byte) rfl rfl hl_CL1 (by decide) rfl (hl_in1 35 rfl rfl) rfl (by decide +kernel) (fun _ => rfl) (fun h => absurd h (by decide))
theorem hl_be2_0 : ∀ q ∈ hl_bc2_0, hl_bev1 hl_bY hl_bna "HymnLamps$Tape" q.2.1 q.2.2 := by
  refine hl_kall ?_
  have h : hl_bc2_0.filter (fun q => !hl_free q.2.1) = [(1, (.invokespecial 3), 0), (10, (.putfield 9), 256)] := by decide +kernel
  rw [h]
  exact List.forall_mem_cons.mpr ⟨hl_bf2_1, List.forall_mem_cons.mpr ⟨hl_bf2_10, fun _ h => absurd h (List.not_mem_nil)⟩⟩
theorem hl_bg2 {pc : Nat} {i : Instr} {op : Nat} (h : hl_find hl_bl2 pc = some (i, op)) : decode (hl_bY 2).2.1 pc = .ok (i, hl_len i) ∧ hl_bev1 hl_bY hl_bna (hl_bY 2).1.cls i op := by
  rw [show (hl_bY 2).1.cls = "HymnLamps$Tape" from rfl]
  have h := hl_find_mem h
  unfold hl_bl2 at h
  exact ⟨hl_bda_of (q := (pc, i, op)) hl_bd2_0 h, hl_be2_0 (pc, i, op) h⟩
def hl_bc3_0 : hl_bcode := [(0, (.aload_n 0), 0), (1, (.invokespecial 3), 0), (4, (.aload_n 0), 0), (5, (.iconst (-1)), 0), (6, (.putfield 9), 517), (9, (.aload_n 0), 0), (10, (.aload_n 1), 0), (11, (.putfield 15), 512), (14, .return_, 0)]
theorem hl_bd3_0 : hl_bda (hl_bY 3).2.1 hl_bc3_0 = true := by decide +kernel
def hl_bl3 : hl_bcode := hl_bc3_0
theorem hl_bf3_1 : hl_bev1 hl_bY hl_bna "HymnLamps$Reader" (.invokespecial 3) 0 := hl_k0 (hl_in1 51 rfl rfl)
theorem hl_bf3_6 : hl_bev1 hl_bY hl_bna "HymnLamps$Reader" (.putfield 9) 517 := hl_kp (c := 2) (k := 5) (ty := .int) rfl rfl hl_CL2 (by decide) rfl (hl_in1 62 rfl rfl) rfl (by decide +kernel) (fun h => absurd h (by decide)) (fun _ => rfl)
theorem hl_bf3_11 : hl_bev1 hl_bY hl_bna "HymnLamps$Reader" (.putfield 15) 512 := hl_kp (c := 2) (k := 0) (ty := .object "HymnLamps$Tape") rfl rfl hl_CL2 (by decide) rfl (hl_in1 52 rfl rfl) rfl (by decide +kernel) (fun _ => rfl) (fun h => absurd h (by decide))
theorem hl_be3_0 : ∀ q ∈ hl_bc3_0, hl_bev1 hl_bY hl_bna "HymnLamps$Reader" q.2.1 q.2.2 := by
  refine hl_kall ?_
  have h : hl_bc3_0.filter (fun q => !hl_free q.2.1) = [(1, (.invokespecial 3), 0), (6, (.putfield 9), 517), (11, (.putfield 15), 512)] := by decide +kernel
  rw [h]
  exact List.forall_mem_cons.mpr ⟨hl_bf3_1, List.forall_mem_cons.mpr ⟨hl_bf3_6, List.forall_mem_cons.mpr ⟨hl_bf3_11, fun _ h => absurd h (List.not_mem_nil)⟩⟩⟩
theorem hl_bg3 {pc : Nat} {i : Instr} {op : Nat} (h : hl_find hl_bl3 pc = some (i, op)) : decode (hl_bY 3).2.1 pc = .ok (i, hl_len i) ∧ hl_bev1 hl_bY hl_bna (hl_bY 3).1.cls i op := by
  rw [show (hl_bY 3).1.cls = "HymnLamps$Reader" from rfl]
  have h := hl_find_mem h
  unfold hl_bl3 at h
  exact ⟨hl_bda_of (q := (pc, i, op)) hl_bd3_0 h, hl_be3_0 (pc, i, op) h⟩
def hl_bc4_0 : hl_bcode := [(0, (.aload_n 0), 0), (1, (.invokespecial 3), 0), (4, (.aload_n 0), 0), (5, (.bipush 10), 0), (7, (.newarray .int), 0), (9, (.putfield 9), 772), (12, (.aload_n 0), 0), (13, (.bipush 10), 0), (15, (.newarray .int), 0), (17, (.putfield 15), 773), (20, (.aload_n 0), 0), (21, (.bipush 10), 0), (23, (.newarray .int), 0), (25, (.putfield 18), 774), (28, (.aload_n 0), 0), (29, (.bipush 10), 0), (31, (.newarray .long), 0), (33, (.putfield 21), 775), (36, (.aload_n 0), 0), (37, (.bipush 8), 0), (39, (.newarray .int), 0), (41, (.putfield 25), 777), (44, (.aload_n 0), 0), (45, (.bipush 8), 0), (47, (.newarray .long), 0), (49, (.putfield 28), 778), (52, (.aload_n 0), 0), (53, (.bipush 8), 0), (55, (.newarray .long), 0), (57, (.putfield 31), 779), (60, (.aload_n 0), 0), (61, (.bipush 10), 0), (63, (.newarray .int), 0), (65, (.putfield 34), 781), (68, (.aload_n 0), 0), (69, (.bipush 10), 0), (71, (.newarray .int), 0), (73, (.putfield 37), 782), (76, .return_, 0)]
theorem hl_bd4_0 : hl_bda (hl_bY 4).2.1 hl_bc4_0 = true := by decide +kernel
def hl_bl4 : hl_bcode := hl_bc4_0
theorem hl_bf4_1 : hl_bev1 hl_bY hl_bna "HymnLamps$Ground" (.invokespecial 3) 0 := hl_k0 (hl_in1 86 rfl rfl)
theorem hl_bf4_9 : hl_bev1 hl_bY hl_bna "HymnLamps$Ground" (.putfield 9) 772 := hl_kp (c := 3) (k := 4) (ty := .array .int) rfl rfl hl_CL3 (by decide) rfl (hl_in1 106 rfl rfl) rfl (by decide +kernel) (fun _ => rfl) (fun h => absurd h (by decide))
theorem hl_bf4_17 : hl_bev1 hl_bY hl_bna "HymnLamps$Ground" (.putfield 15) 773 := hl_kp (c := 3) (k := 5) (ty := .array .int) rfl rfl hl_CL3 (by decide) rfl (hl_in1 109 rfl rfl) rfl (by decide +kernel) (fun _ => rfl) (fun h => absurd h (by decide))
theorem hl_bf4_25 : hl_bev1 hl_bY hl_bna "HymnLamps$Ground" (.putfield 18) 774 := hl_kp (c := 3) (k := 6) (ty := .array .int) rfl rfl hl_CL3 (by decide) rfl (hl_in1 113 rfl rfl) rfl (by decide +kernel) (fun _ => rfl) (fun h => absurd h (by decide))
theorem hl_bf4_33 : hl_bev1 hl_bY hl_bna "HymnLamps$Ground" (.putfield 21) 775 := hl_kp (c := 3) (k := 7) (ty := .array .long) rfl rfl hl_CL3 (by decide) rfl (hl_in1 119 rfl rfl) rfl (by decide +kernel) (fun _ => rfl) (fun h => absurd h (by decide))
theorem hl_bf4_41 : hl_bev1 hl_bY hl_bna "HymnLamps$Ground" (.putfield 25) 777 := hl_kp (c := 3) (k := 9) (ty := .array .int) rfl rfl hl_CL3 (by decide) rfl (hl_in1 129 rfl rfl) rfl (by decide +kernel) (fun _ => rfl) (fun h => absurd h (by decide))
theorem hl_bf4_49 : hl_bev1 hl_bY hl_bna "HymnLamps$Ground" (.putfield 28) 778 := hl_kp (c := 3) (k := 10) (ty := .array .long) rfl rfl hl_CL3 (by decide) rfl (hl_in1 132 rfl rfl) rfl (by decide +kernel) (fun _ => rfl) (fun h => absurd h (by decide))
theorem hl_bf4_57 : hl_bev1 hl_bY hl_bna "HymnLamps$Ground" (.putfield 31) 779 := hl_kp (c := 3) (k := 11) (ty := .array .long) rfl rfl hl_CL3 (by decide) rfl (hl_in1 137 rfl rfl) rfl (by decide +kernel) (fun _ => rfl) (fun h => absurd h (by decide))
theorem hl_bf4_65 : hl_bev1 hl_bY hl_bna "HymnLamps$Ground" (.putfield 34) 781 := hl_kp (c := 3) (k := 13) (ty := .array .int) rfl rfl hl_CL3 (by decide) rfl (hl_in1 145 rfl rfl) rfl (by decide +kernel) (fun _ => rfl) (fun h => absurd h (by decide))
theorem hl_bf4_73 : hl_bev1 hl_bY hl_bna "HymnLamps$Ground" (.putfield 37) 782 := hl_kp (c := 3) (k := 14) (ty := .array .int) rfl rfl hl_CL3 (by decide) rfl (hl_in1 148 rfl rfl) rfl (by decide +kernel) (fun _ => rfl) (fun h => absurd h (by decide))
theorem hl_be4_0 : ∀ q ∈ hl_bc4_0, hl_bev1 hl_bY hl_bna "HymnLamps$Ground" q.2.1 q.2.2 := by
  refine hl_kall ?_
  have h : hl_bc4_0.filter (fun q => !hl_free q.2.1) = [(1, (.invokespecial 3), 0), (9, (.putfield 9), 772), (17, (.putfield 15), 773), (25, (.putfield 18), 774), (33, (.putfield 21), 775), (41, (.putfield 25), 777), (49, (.putfield 28), 778), (57, (.putfield 31), 779), (65, (.putfield 34), 781), (73, (.putfield 37), 782)] := by decide +kernel
  rw [h]
  exact List.forall_mem_cons.mpr ⟨hl_bf4_1, List.forall_mem_cons.mpr ⟨hl_bf4_9, List.forall_mem_cons.mpr ⟨hl_bf4_17, List.forall_mem_cons.mpr ⟨hl_bf4_25, List.forall_mem_cons.mpr ⟨hl_bf4_33, List.forall_mem_cons.mpr ⟨hl_bf4_41, List.forall_mem_cons.mpr ⟨hl_bf4_49, List.forall_mem_cons.mpr ⟨hl_bf4_57, List.forall_mem_cons.mpr ⟨hl_bf4_65, List.forall_mem_cons.mpr ⟨hl_bf4_73, fun _ h => absurd h (List.not_mem_nil)⟩⟩⟩⟩⟩⟩⟩⟩⟩⟩
theorem hl_bg4 {pc : Nat} {i : Instr} {op : Nat} (h : hl_find hl_bl4 pc = some (i, op)) : decode (hl_bY 4).2.1 pc = .ok (i, hl_len i) ∧ hl_bev1 hl_bY hl_bna (hl_bY 4).1.cls i op := by
  rw [show (hl_bY 4).1.cls = "HymnLamps$Ground" from rfl]
  have h := hl_find_mem h
  unfold hl_bl4 at h
  exact ⟨hl_bda_of (q := (pc, i, op)) hl_bd4_0 h, hl_be4_0 (pc, i, op) h⟩
def hl_bc5_0 : hl_bcode := [(0, (.aload_n 0), 0), (1, (.invokespecial 3), 0), (4, (.aload_n 0), 0), (5, (.aload_n 1), 0), (6, (.putfield 9), 1024), (9, (.aload_n 0), 0), (10, (.aload_n 2), 0), (11, (.putfield 15), 1025), (14, .return_, 0)]
theorem hl_bd5_0 : hl_bda (hl_bY 5).2.1 hl_bc5_0 = true := by decide +kernel
def hl_bl5 : hl_bcode := hl_bc5_0
theorem hl_bf5_1 : hl_bev1 hl_bY hl_bna "HymnLamps$Teller" (.invokespecial 3) 0 := hl_k0 (hl_in1 189 rfl rfl)
theorem hl_bf5_6 : hl_bev1 hl_bY hl_bna "HymnLamps$Teller" (.putfield 9) 1024 := hl_kp (c := 4) (k := 0) (ty := .object "HymnLamps$Reader") rfl rfl hl_CL4 (by decide) rfl (hl_in1 190 rfl rfl) rfl (by decide +kernel) (fun _ => rfl) (fun h => absurd h (by decide))
theorem hl_bf5_11 : hl_bev1 hl_bY hl_bna "HymnLamps$Teller" (.putfield 15) 1025 := hl_kp (c := 4) (k := 1) (ty := .object "HymnLamps$Ground") rfl rfl hl_CL4 (by decide) rfl (hl_in1 191 rfl rfl) rfl (by decide +kernel) (fun _ => rfl) (fun h => absurd h (by decide))
theorem hl_be5_0 : ∀ q ∈ hl_bc5_0, hl_bev1 hl_bY hl_bna "HymnLamps$Teller" q.2.1 q.2.2 := by
  refine hl_kall ?_
  have h : hl_bc5_0.filter (fun q => !hl_free q.2.1) = [(1, (.invokespecial 3), 0), (6, (.putfield 9), 1024), (11, (.putfield 15), 1025)] := by decide +kernel
  rw [h]
  exact List.forall_mem_cons.mpr ⟨hl_bf5_1, List.forall_mem_cons.mpr ⟨hl_bf5_6, List.forall_mem_cons.mpr ⟨hl_bf5_11, fun _ h => absurd h (List.not_mem_nil)⟩⟩⟩
theorem hl_bg5 {pc : Nat} {i : Instr} {op : Nat} (h : hl_find hl_bl5 pc = some (i, op)) : decode (hl_bY 5).2.1 pc = .ok (i, hl_len i) ∧ hl_bev1 hl_bY hl_bna (hl_bY 5).1.cls i op := by
  rw [show (hl_bY 5).1.cls = "HymnLamps$Teller" from rfl]
  have h := hl_find_mem h
  unfold hl_bl5 at h
  exact ⟨hl_bda_of (q := (pc, i, op)) hl_bd5_0 h, hl_be5_0 (pc, i, op) h⟩
def hl_bc6_0 : hl_bcode := [(0, (.aload_n 0), 0), (1, (.invokespecial 3), 0), (4, (.aload_n 0), 0), (5, (.bipush 10), 0), (7, (.bipush 100), 0), (9, (.multianewarray 9 2), 0), (13, (.putfield 11), 1281), (16, (.aload_n 0), 0), (17, (.aload_n 1), 0), (18, (.putfield 16), 1280), (21, .return_, 0)]
theorem hl_bd6_0 : hl_bda (hl_bY 6).2.1 hl_bc6_0 = true := by decide +kernel
def hl_bl6 : hl_bcode := hl_bc6_0
theorem hl_bf6_1 : hl_bev1 hl_bY hl_bna "HymnLamps$Walks" (.invokespecial 3) 0 := hl_k0 (hl_in1 205 rfl rfl)
theorem hl_bf6_9 : hl_bev1 hl_bY hl_bna "HymnLamps$Walks" (.multianewarray 9 2) 0 := hl_km (hl_in1 206 rfl rfl)
theorem hl_bf6_13 : hl_bev1 hl_bY hl_bna "HymnLamps$Walks" (.putfield 11) 1281 := hl_kp (c := 5) (k := 1) (ty := .array (.array .int)) rfl rfl hl_CL5 (by decide) rfl (hl_in1 209 rfl rfl) rfl (by decide +kernel) (fun _ => rfl) (fun h => absurd h (by decide))
theorem hl_bf6_18 : hl_bev1 hl_bY hl_bna "HymnLamps$Walks" (.putfield 16) 1280 := hl_kp (c := 5) (k := 0) (ty := .object "HymnLamps$Ground") rfl rfl hl_CL5 (by decide) rfl (hl_in1 208 rfl rfl) rfl (by decide +kernel) (fun _ => rfl) (fun h => absurd h (by decide))
theorem hl_be6_0 : ∀ q ∈ hl_bc6_0, hl_bev1 hl_bY hl_bna "HymnLamps$Walks" q.2.1 q.2.2 := by
  refine hl_kall ?_
  have h : hl_bc6_0.filter (fun q => !hl_free q.2.1) = [(1, (.invokespecial 3), 0), (9, (.multianewarray 9 2), 0), (13, (.putfield 11), 1281), (18, (.putfield 16), 1280)] := by decide +kernel
  rw [h]
  exact List.forall_mem_cons.mpr ⟨hl_bf6_1, List.forall_mem_cons.mpr ⟨hl_bf6_9, List.forall_mem_cons.mpr ⟨hl_bf6_13, List.forall_mem_cons.mpr ⟨hl_bf6_18, fun _ h => absurd h (List.not_mem_nil)⟩⟩⟩⟩
theorem hl_bg6 {pc : Nat} {i : Instr} {op : Nat} (h : hl_find hl_bl6 pc = some (i, op)) : decode (hl_bY 6).2.1 pc = .ok (i, hl_len i) ∧ hl_bev1 hl_bY hl_bna (hl_bY 6).1.cls i op := by
  rw [show (hl_bY 6).1.cls = "HymnLamps$Walks" from rfl]
  have h := hl_find_mem h
  unfold hl_bl6 at h
  exact ⟨hl_bda_of (q := (pc, i, op)) hl_bd6_0 h, hl_be6_0 (pc, i, op) h⟩
def hl_bc7_0 : hl_bcode := [(0, (.aload_n 0), 0), (1, (.invokespecial 3), 0), (4, (.aload_n 0), 0), (5, (.aload_n 1), 0), (6, (.putfield 9), 1536), (9, (.aload_n 0), 0), (10, (.aload_n 2), 0), (11, (.putfield 15), 1537), (14, .return_, 0)]
theorem hl_bd7_0 : hl_bda (hl_bY 7).2.1 hl_bc7_0 = true := by decide +kernel
def hl_bl7 : hl_bcode := hl_bc7_0
theorem hl_bf7_1 : hl_bev1 hl_bY hl_bna "HymnLamps$View" (.invokespecial 3) 0 := hl_k0 (hl_in1 220 rfl rfl)
theorem hl_bf7_6 : hl_bev1 hl_bY hl_bna "HymnLamps$View" (.putfield 9) 1536 := hl_kp (c := 6) (k := 0) (ty := .object "HymnLamps$Ground") rfl rfl hl_CL6 (by decide) rfl (hl_in1 221 rfl rfl) rfl (by decide +kernel) (fun _ => rfl) (fun h => absurd h (by decide))
theorem hl_bf7_11 : hl_bev1 hl_bY hl_bna "HymnLamps$View" (.putfield 15) 1537 := hl_kp (c := 6) (k := 1) (ty := .object "HymnLamps$Walks") rfl rfl hl_CL6 (by decide) rfl (hl_in1 222 rfl rfl) rfl (by decide +kernel) (fun _ => rfl) (fun h => absurd h (by decide))
theorem hl_be7_0 : ∀ q ∈ hl_bc7_0, hl_bev1 hl_bY hl_bna "HymnLamps$View" q.2.1 q.2.2 := by
  refine hl_kall ?_
  have h : hl_bc7_0.filter (fun q => !hl_free q.2.1) = [(1, (.invokespecial 3), 0), (6, (.putfield 9), 1536), (11, (.putfield 15), 1537)] := by decide +kernel
  rw [h]
  exact List.forall_mem_cons.mpr ⟨hl_bf7_1, List.forall_mem_cons.mpr ⟨hl_bf7_6, List.forall_mem_cons.mpr ⟨hl_bf7_11, fun _ h => absurd h (List.not_mem_nil)⟩⟩⟩
theorem hl_bg7 {pc : Nat} {i : Instr} {op : Nat} (h : hl_find hl_bl7 pc = some (i, op)) : decode (hl_bY 7).2.1 pc = .ok (i, hl_len i) ∧ hl_bev1 hl_bY hl_bna (hl_bY 7).1.cls i op := by
  rw [show (hl_bY 7).1.cls = "HymnLamps$View" from rfl]
  have h := hl_find_mem h
  unfold hl_bl7 at h
  exact ⟨hl_bda_of (q := (pc, i, op)) hl_bd7_0 h, hl_be7_0 (pc, i, op) h⟩
def hl_bc8_0 : hl_bcode := [(0, (.aload_n 0), 0), (1, (.invokespecial 3), 0), (4, (.aload_n 0), 0), (5, (.bipush 54), 0), (7, (.newarray .int), 0), (9, (.putfield 9), 1794), (12, (.aload_n 0), 0), (13, (.bipush 54), 0), (15, (.newarray .int), 0), (17, (.putfield 15), 1795), (20, (.aload_n 0), 0), (21, (.bipush 8), 0), (23, (.newarray .int), 0), (25, (.putfield 18), 1797), (28, (.aload_n 0), 0), (29, (.bipush 8), 0), (31, (.newarray .int), 0), (33, (.putfield 21), 1798), (36, (.aload_n 0), 0), (37, (.bipush 8), 0), (39, (.bipush 8), 0), (41, (.multianewarray 24 2), 0), (45, (.putfield 26), 1799), (48, (.aload_n 0), 0), (49, (.sipush 256), 0), (52, (.newarray .int), 0), (54, (.putfield 29), 1800), (57, (.aload_n 0), 0), (58, (.sipush 256), 0), (61, (.newarray .int), 0), (63, (.putfield 32), 1801), (66, (.aload_n 0), 0), (67, (.bipush 8), 0), (69, (.newarray .int), 0), (71, (.putfield 35), 1802), (74, (.aload_n 0), 0), (75, (.aload_n 1), 0), (76, (.putfield 38), 1792), (79, (.aload_n 0), 0), (80, (.aload_n 2), 0), (81, (.putfield 42), 1793), (84, .return_, 0)]
theorem hl_bd8_0 : hl_bda (hl_bY 8).2.1 hl_bc8_0 = true := by decide +kernel
def hl_bl8 : hl_bcode := hl_bc8_0
theorem hl_bf8_1 : hl_bev1 hl_bY hl_bna "HymnLamps$Paths" (.invokespecial 3) 0 := hl_k0 (hl_in2 1 rfl rfl)
theorem hl_bf8_9 : hl_bev1 hl_bY hl_bna "HymnLamps$Paths" (.putfield 9) 1794 := hl_kp (c := 7) (k := 2) (ty := .array .int) rfl rfl hl_CL7 (by decide) rfl (hl_in2 5 rfl rfl) rfl (by decide +kernel) (fun _ => rfl) (fun h => absurd h (by decide))
theorem hl_bf8_17 : hl_bev1 hl_bY hl_bna "HymnLamps$Paths" (.putfield 15) 1795 := hl_kp (c := 7) (k := 3) (ty := .array .int) rfl rfl hl_CL7 (by decide) rfl (hl_in2 6 rfl rfl) rfl (by decide +kernel) (fun _ => rfl) (fun h => absurd h (by decide))
theorem hl_bf8_25 : hl_bev1 hl_bY hl_bna "HymnLamps$Paths" (.putfield 18) 1797 := hl_kp (c := 7) (k := 5) (ty := .array .int) rfl rfl hl_CL7 (by decide) rfl (hl_in2 9 rfl rfl) rfl (by decide +kernel) (fun _ => rfl) (fun h => absurd h (by decide))
theorem hl_bf8_33 : hl_bev1 hl_bY hl_bna "HymnLamps$Paths" (.putfield 21) 1798 := hl_kp (c := 7) (k := 6) (ty := .array .int) rfl rfl hl_CL7 (by decide) rfl (hl_in2 10 rfl rfl) rfl (by decide +kernel) (fun _ => rfl) (fun h => absurd h (by decide))
theorem hl_bf8_41 : hl_bev1 hl_bY hl_bna "HymnLamps$Paths" (.multianewarray 24 2) 0 := hl_km (hl_in2 2 rfl rfl)
theorem hl_bf8_45 : hl_bev1 hl_bY hl_bna "HymnLamps$Paths" (.putfield 26) 1799 := hl_kp (c := 7) (k := 7) (ty := .array (.array .int)) rfl rfl hl_CL7 (by decide) rfl (hl_in2 11 rfl rfl) rfl (by decide +kernel) (fun _ => rfl) (fun h => absurd h (by decide))
theorem hl_bf8_54 : hl_bev1 hl_bY hl_bna "HymnLamps$Paths" (.putfield 29) 1800 := hl_kp (c := 7) (k := 8) (ty := .array .int) rfl rfl hl_CL7 (by decide) rfl (hl_in2 12 rfl rfl) rfl (by decide +kernel) (fun _ => rfl) (fun h => absurd h (by decide))
theorem hl_bf8_63 : hl_bev1 hl_bY hl_bna "HymnLamps$Paths" (.putfield 32) 1801 := hl_kp (c := 7) (k := 9) (ty := .array .int) rfl rfl hl_CL7 (by decide) rfl (hl_in2 13 rfl rfl) rfl (by decide +kernel) (fun _ => rfl) (fun h => absurd h (by decide))
theorem hl_bf8_71 : hl_bev1 hl_bY hl_bna "HymnLamps$Paths" (.putfield 35) 1802 := hl_kp (c := 7) (k := 10) (ty := .array .int) rfl rfl hl_CL7 (by decide) rfl (hl_in2 14 rfl rfl) rfl (by decide +kernel) (fun _ => rfl) (fun h => absurd h (by decide))
theorem hl_bf8_76 : hl_bev1 hl_bY hl_bna "HymnLamps$Paths" (.putfield 38) 1792 := hl_kp (c := 7) (k := 0) (ty := .object "HymnLamps$Ground") rfl rfl hl_CL7 (by decide) rfl (hl_in2 3 rfl rfl) rfl (by decide +kernel) (fun _ => rfl) (fun h => absurd h (by decide))
theorem hl_bf8_81 : hl_bev1 hl_bY hl_bna "HymnLamps$Paths" (.putfield 42) 1793 := hl_kp (c := 7) (k := 1) (ty := .object "HymnLamps$Walks") rfl rfl hl_CL7 (by decide) rfl (hl_in2 4 rfl rfl) rfl (by decide +kernel) (fun _ => rfl) (fun h => absurd h (by decide))
theorem hl_be8_0 : ∀ q ∈ hl_bc8_0, hl_bev1 hl_bY hl_bna "HymnLamps$Paths" q.2.1 q.2.2 := by
  refine hl_kall ?_
  have h : hl_bc8_0.filter (fun q => !hl_free q.2.1) = [(1, (.invokespecial 3), 0), (9, (.putfield 9), 1794), (17, (.putfield 15), 1795), (25, (.putfield 18), 1797), (33, (.putfield 21), 1798), (41, (.multianewarray 24 2), 0), (45, (.putfield 26), 1799), (54, (.putfield 29), 1800), (63, (.putfield 32), 1801), (71, (.putfield 35), 1802), (76, (.putfield 38), 1792), (81, (.putfield 42), 1793)] := by decide +kernel
  rw [h]
  exact List.forall_mem_cons.mpr ⟨hl_bf8_1, List.forall_mem_cons.mpr ⟨hl_bf8_9, List.forall_mem_cons.mpr ⟨hl_bf8_17, List.forall_mem_cons.mpr ⟨hl_bf8_25, List.forall_mem_cons.mpr ⟨hl_bf8_33, List.forall_mem_cons.mpr ⟨hl_bf8_41, List.forall_mem_cons.mpr ⟨hl_bf8_45, List.forall_mem_cons.mpr ⟨hl_bf8_54, List.forall_mem_cons.mpr ⟨hl_bf8_63, List.forall_mem_cons.mpr ⟨hl_bf8_71, List.forall_mem_cons.mpr ⟨hl_bf8_76, List.forall_mem_cons.mpr ⟨hl_bf8_81, fun _ h => absurd h (List.not_mem_nil)⟩⟩⟩⟩⟩⟩⟩⟩⟩⟩⟩⟩
theorem hl_bg8 {pc : Nat} {i : Instr} {op : Nat} (h : hl_find hl_bl8 pc = some (i, op)) : decode (hl_bY 8).2.1 pc = .ok (i, hl_len i) ∧ hl_bev1 hl_bY hl_bna (hl_bY 8).1.cls i op := by
  rw [show (hl_bY 8).1.cls = "HymnLamps$Paths" from rfl]
  have h := hl_find_mem h
  unfold hl_bl8 at h
  exact ⟨hl_bda_of (q := (pc, i, op)) hl_bd8_0 h, hl_be8_0 (pc, i, op) h⟩
def hl_bc9_0 : hl_bcode := [(0, (.aload_n 0), 0), (1, (.invokespecial 3), 0), (4, (.aload_n 0), 0), (5, (.sipush 1600), 0), (8, (.newarray .int), 0), (10, (.putfield 9), 2052), (13, (.aload_n 0), 0), (14, (.bipush 64), 0), (16, (.newarray .long), 0), (18, (.putfield 15), 2053), (21, (.aload_n 0), 0), (22, (.aload_n 1), 0), (23, (.putfield 19), 2048), (26, (.aload_n 0), 0), (27, (.aload_n 2), 0), (28, (.putfield 23), 2049), (31, (.aload_n 0), 0), (32, (.aload_n 3), 0), (33, (.putfield 27), 2050), (36, (.aload_n 0), 0), (37, (.aload 4), 0), (39, (.putfield 31), 2051), (42, .return_, 0)]
theorem hl_bd9_0 : hl_bda (hl_bY 9).2.1 hl_bc9_0 = true := by decide +kernel
def hl_bl9 : hl_bcode := hl_bc9_0
theorem hl_bf9_1 : hl_bev1 hl_bY hl_bna "HymnLamps$Question" (.invokespecial 3) 0 := hl_k0 (hl_in2 44 rfl rfl)
theorem hl_bf9_10 : hl_bev1 hl_bY hl_bna "HymnLamps$Question" (.putfield 9) 2052 := hl_kp (c := 8) (k := 4) (ty := .array .int) rfl rfl hl_CL8 (by decide) rfl (hl_in2 49 rfl rfl) rfl (by decide +kernel) (fun _ => rfl) (fun h => absurd h (by decide))
theorem hl_bf9_18 : hl_bev1 hl_bY hl_bna "HymnLamps$Question" (.putfield 15) 2053 := hl_kp (c := 8) (k := 5) (ty := .array .long) rfl rfl hl_CL8 (by decide) rfl (hl_in2 50 rfl rfl) rfl (by decide +kernel) (fun _ => rfl) (fun h => absurd h (by decide))
theorem hl_bf9_23 : hl_bev1 hl_bY hl_bna "HymnLamps$Question" (.putfield 19) 2048 := hl_kp (c := 8) (k := 0) (ty := .object "HymnLamps$Reader") rfl rfl hl_CL8 (by decide) rfl (hl_in2 45 rfl rfl) rfl (by decide +kernel) (fun _ => rfl) (fun h => absurd h (by decide))
theorem hl_bf9_28 : hl_bev1 hl_bY hl_bna "HymnLamps$Question" (.putfield 23) 2049 := hl_kp (c := 8) (k := 1) (ty := .object "HymnLamps$Ground") rfl rfl hl_CL8 (by decide) rfl (hl_in2 46 rfl rfl) rfl (by decide +kernel) (fun _ => rfl) (fun h => absurd h (by decide))
theorem hl_bf9_33 : hl_bev1 hl_bY hl_bna "HymnLamps$Question" (.putfield 27) 2050 := hl_kp (c := 8) (k := 2) (ty := .object "HymnLamps$Walks") rfl rfl hl_CL8 (by decide) rfl (hl_in2 47 rfl rfl) rfl (by decide +kernel) (fun _ => rfl) (fun h => absurd h (by decide))
theorem hl_bf9_39 : hl_bev1 hl_bY hl_bna "HymnLamps$Question" (.putfield 31) 2051 := hl_kp (c := 8) (k := 3) (ty := .object "HymnLamps$View") rfl rfl hl_CL8 (by decide) rfl (hl_in2 48 rfl rfl) rfl (by decide +kernel) (fun _ => rfl) (fun h => absurd h (by decide))
theorem hl_be9_0 : ∀ q ∈ hl_bc9_0, hl_bev1 hl_bY hl_bna "HymnLamps$Question" q.2.1 q.2.2 := by
  refine hl_kall ?_
  have h : hl_bc9_0.filter (fun q => !hl_free q.2.1) = [(1, (.invokespecial 3), 0), (10, (.putfield 9), 2052), (18, (.putfield 15), 2053), (23, (.putfield 19), 2048), (28, (.putfield 23), 2049), (33, (.putfield 27), 2050), (39, (.putfield 31), 2051)] := by decide +kernel
  rw [h]
  exact List.forall_mem_cons.mpr ⟨hl_bf9_1, List.forall_mem_cons.mpr ⟨hl_bf9_10, List.forall_mem_cons.mpr ⟨hl_bf9_18, List.forall_mem_cons.mpr ⟨hl_bf9_23, List.forall_mem_cons.mpr ⟨hl_bf9_28, List.forall_mem_cons.mpr ⟨hl_bf9_33, List.forall_mem_cons.mpr ⟨hl_bf9_39, fun _ h => absurd h (List.not_mem_nil)⟩⟩⟩⟩⟩⟩⟩
theorem hl_bg9 {pc : Nat} {i : Instr} {op : Nat} (h : hl_find hl_bl9 pc = some (i, op)) : decode (hl_bY 9).2.1 pc = .ok (i, hl_len i) ∧ hl_bev1 hl_bY hl_bna (hl_bY 9).1.cls i op := by
  rw [show (hl_bY 9).1.cls = "HymnLamps$Question" from rfl]
  have h := hl_find_mem h
  unfold hl_bl9 at h
  exact ⟨hl_bda_of (q := (pc, i, op)) hl_bd9_0 h, hl_be9_0 (pc, i, op) h⟩
def hl_bc10_0 : hl_bcode := [(0, (.aload_n 0), 0), (1, (.invokespecial 3), 0), (4, (.aload_n 0), 0), (5, (.bipush 20), 0), (7, (.newarray .int), 0), (9, (.putfield 9), 2304), (12, (.aload_n 0), 0), (13, (.bipush 20), 0), (15, (.newarray .int), 0), (17, (.putfield 15), 2305), (20, (.aload_n 0), 0), (21, (.bipush 20), 0), (23, (.newarray .long), 0), (25, (.putfield 18), 2306), (28, .return_, 0)]
theorem hl_bd10_0 : hl_bda (hl_bY 10).2.1 hl_bc10_0 = true := by decide +kernel
def hl_bl10 : hl_bcode := hl_bc10_0
theorem hl_bf10_1 : hl_bev1 hl_bY hl_bna "HymnLamps$Acts" (.invokespecial 3) 0 := hl_k0 (hl_in2 81 rfl rfl)
theorem hl_bf10_9 : hl_bev1 hl_bY hl_bna "HymnLamps$Acts" (.putfield 9) 2304 := hl_kp (c := 9) (k := 0) (ty := .array .int) rfl rfl hl_CL9 (by decide) rfl (hl_in2 82 rfl rfl) rfl (by decide +kernel) (fun _ => rfl) (fun h => absurd h (by decide))
theorem hl_bf10_17 : hl_bev1 hl_bY hl_bna "HymnLamps$Acts" (.putfield 15) 2305 := hl_kp (c := 9) (k := 1) (ty := .array .int) rfl rfl hl_CL9 (by decide) rfl (hl_in2 84 rfl rfl) rfl (by decide +kernel) (fun _ => rfl) (fun h => absurd h (by decide))
theorem hl_bf10_25 : hl_bev1 hl_bY hl_bna "HymnLamps$Acts" (.putfield 18) 2306 := hl_kp (c := 9) (k := 2) (ty := .array .long) rfl rfl hl_CL9 (by decide) rfl (hl_in2 86 rfl rfl) rfl (by decide +kernel) (fun _ => rfl) (fun h => absurd h (by decide))
theorem hl_be10_0 : ∀ q ∈ hl_bc10_0, hl_bev1 hl_bY hl_bna "HymnLamps$Acts" q.2.1 q.2.2 := by
  refine hl_kall ?_
  have h : hl_bc10_0.filter (fun q => !hl_free q.2.1) = [(1, (.invokespecial 3), 0), (9, (.putfield 9), 2304), (17, (.putfield 15), 2305), (25, (.putfield 18), 2306)] := by decide +kernel
  rw [h]
  exact List.forall_mem_cons.mpr ⟨hl_bf10_1, List.forall_mem_cons.mpr ⟨hl_bf10_9, List.forall_mem_cons.mpr ⟨hl_bf10_17, List.forall_mem_cons.mpr ⟨hl_bf10_25, fun _ h => absurd h (List.not_mem_nil)⟩⟩⟩⟩
theorem hl_bg10 {pc : Nat} {i : Instr} {op : Nat} (h : hl_find hl_bl10 pc = some (i, op)) : decode (hl_bY 10).2.1 pc = .ok (i, hl_len i) ∧ hl_bev1 hl_bY hl_bna (hl_bY 10).1.cls i op := by
  rw [show (hl_bY 10).1.cls = "HymnLamps$Acts" from rfl]
  have h := hl_find_mem h
  unfold hl_bl10 at h
  exact ⟨hl_bda_of (q := (pc, i, op)) hl_bd10_0 h, hl_be10_0 (pc, i, op) h⟩
def hl_bc11_0 : hl_bcode := [(0, (.aload_n 0), 0), (1, (.invokespecial 3), 0), (4, (.aload_n 0), 0), (5, (.sipush 141), 0), (8, (.newarray .int), 0), (10, (.putfield 9), 2561), (13, (.aload_n 0), 0), (14, (.aload_n 1), 0), (15, (.putfield 15), 2560), (18, .return_, 0)]
theorem hl_bd11_0 : hl_bda (hl_bY 11).2.1 hl_bc11_0 = true := by decide +kernel
def hl_bl11 : hl_bcode := hl_bc11_0
theorem hl_bf11_1 : hl_bev1 hl_bY hl_bna "HymnLamps$Images" (.invokespecial 3) 0 := hl_k0 (hl_in2 104 rfl rfl)
theorem hl_bf11_10 : hl_bev1 hl_bY hl_bna "HymnLamps$Images" (.putfield 9) 2561 := hl_kp (c := 10) (k := 1) (ty := .array .int) rfl rfl hl_CL10 (by decide) rfl (hl_in2 106 rfl rfl) rfl (by decide +kernel) (fun _ => rfl) (fun h => absurd h (by decide))
theorem hl_bf11_15 : hl_bev1 hl_bY hl_bna "HymnLamps$Images" (.putfield 15) 2560 := hl_kp (c := 10) (k := 0) (ty := .object "HymnLamps$Ground") rfl rfl hl_CL10 (by decide) rfl (hl_in2 105 rfl rfl) rfl (by decide +kernel) (fun _ => rfl) (fun h => absurd h (by decide))
theorem hl_be11_0 : ∀ q ∈ hl_bc11_0, hl_bev1 hl_bY hl_bna "HymnLamps$Images" q.2.1 q.2.2 := by
  refine hl_kall ?_
  have h : hl_bc11_0.filter (fun q => !hl_free q.2.1) = [(1, (.invokespecial 3), 0), (10, (.putfield 9), 2561), (15, (.putfield 15), 2560)] := by decide +kernel
  rw [h]
  exact List.forall_mem_cons.mpr ⟨hl_bf11_1, List.forall_mem_cons.mpr ⟨hl_bf11_10, List.forall_mem_cons.mpr ⟨hl_bf11_15, fun _ h => absurd h (List.not_mem_nil)⟩⟩⟩
theorem hl_bg11 {pc : Nat} {i : Instr} {op : Nat} (h : hl_find hl_bl11 pc = some (i, op)) : decode (hl_bY 11).2.1 pc = .ok (i, hl_len i) ∧ hl_bev1 hl_bY hl_bna (hl_bY 11).1.cls i op := by
  rw [show (hl_bY 11).1.cls = "HymnLamps$Images" from rfl]
  have h := hl_find_mem h
  unfold hl_bl11 at h
  exact ⟨hl_bda_of (q := (pc, i, op)) hl_bd11_0 h, hl_be11_0 (pc, i, op) h⟩
def hl_bc12_0 : hl_bcode := [(0, (.aload_n 0), 0), (1, (.invokespecial 1), 0), (4, (.aload_n 0), 0), (5, (.sipush 1600), 0), (8, (.newarray .int), 0), (10, (.putfield 7), 2816), (13, (.aload_n 0), 0), (14, (.iconst (-1)), 0), (15, (.putfield 13), 2824), (18, (.aload_n 0), 0), (19, (.bipush 6), 0), (21, (.newarray .char), 0), (23, .dup, 0), (24, (.iconst 0), 0), (25, (.bipush 103), 0), (27, .castore, 0), (28, .dup, 0), (29, (.iconst 1), 0), (30, (.bipush 114), 0), (32, .castore, 0), (33, .dup, 0), (34, (.iconst 2), 0), (35, (.bipush 111), 0), (37, .castore, 0), (38, .dup, 0), (39, (.iconst 3), 0), (40, (.bipush 117), 0), (42, .castore, 0), (43, .dup, 0), (44, (.iconst 4), 0), (45, (.bipush 110), 0), (47, .castore, 0), (48, .dup, 0), (49, (.iconst 5), 0), (50, (.bipush 100), 0), (52, .castore, 0), (53, (.putfield 17), 2826), (56, (.aload_n 0), 0), (57, (.iconst 4), 0), (58, (.newarray .char), 0), (60, .dup, 0), (61, (.iconst 0), 0), (62, (.bipush 119), 0), (64, .castore, 0), (65, .dup, 0), (66, (.iconst 1), 0), (67, (.bipush 97), 0), (69, .castore, 0), (70, .dup, 0), (71, (.iconst 2), 0), (72, (.bipush 108), 0), (74, .castore, 0), (75, .dup, 0), (76, (.iconst 3), 0), (77, (.bipush 108), 0), (79, .castore, 0), (80, (.putfield 21), 2827), (83, (.aload_n 0), 0), (84, (.bipush 6), 0), (86, (.newarray .char), 0), (88, .dup, 0), (89, (.iconst 0), 0), (90, (.bipush 112), 0), (92, .castore, 0), (93, .dup, 0), (94, (.iconst 1), 0), (95, (.bipush 101), 0), (97, .castore, 0), (98, .dup, 0), (99, (.iconst 2), 0), (100, (.bipush 114), 0), (102, .castore, 0), (103, .dup, 0), (104, (.iconst 3), 0), (105, (.bipush 115), 0), (107, .castore, 0), (108, .dup, 0), (109, (.iconst 4), 0), (110, (.bipush 111), 0), (112, .castore, 0)]
theorem hl_bd12_0 : hl_bda (hl_bY 12).2.1 hl_bc12_0 = true := by decide +kernel
def hl_bc12_1 : hl_bcode := [(113, .dup, 0), (114, (.iconst 5), 0), (115, (.bipush 110), 0), (117, .castore, 0), (118, (.putfield 24), 2828), (121, (.aload_n 0), 0), (122, (.iconst 2), 0), (123, (.newarray .char), 0), (125, .dup, 0), (126, (.iconst 0), 0), (127, (.bipush 97), 0), (129, .castore, 0), (130, .dup, 0), (131, (.iconst 1), 0), (132, (.bipush 116), 0), (134, .castore, 0), (135, (.putfield 27), 2829), (138, (.aload_n 0), 0), (139, (.iconst 4), 0), (140, (.newarray .char), 0), (142, .dup, 0), (143, (.iconst 0), 0), (144, (.bipush 108), 0), (146, .castore, 0), (147, .dup, 0), (148, (.iconst 1), 0), (149, (.bipush 97), 0), (151, .castore, 0), (152, .dup, 0), (153, (.iconst 2), 0), (154, (.bipush 109), 0), (156, .castore, 0), (157, .dup, 0), (158, (.iconst 3), 0), (159, (.bipush 112), 0), (161, .castore, 0), (162, (.putfield 30), 2830), (165, (.aload_n 0), 0), (166, (.iconst 5), 0), (167, (.newarray .char), 0), (169, .dup, 0), (170, (.iconst 0), 0), (171, (.bipush 119), 0), (173, .castore, 0), (174, .dup, 0), (175, (.iconst 1), 0), (176, (.bipush 97), 0), (178, .castore, 0), (179, .dup, 0), (180, (.iconst 2), 0), (181, (.bipush 108), 0), (183, .castore, 0), (184, .dup, 0), (185, (.iconst 3), 0), (186, (.bipush 107), 0), (188, .castore, 0), (189, .dup, 0), (190, (.iconst 4), 0), (191, (.bipush 115), 0), (193, .castore, 0), (194, (.putfield 33), 2831), (197, (.aload_n 0), 0), (198, (.iconst 4), 0), (199, (.newarray .char), 0), (201, .dup, 0), (202, (.iconst 0), 0), (203, (.bipush 119), 0), (205, .castore, 0), (206, .dup, 0), (207, (.iconst 1), 0), (208, (.bipush 111), 0), (210, .castore, 0), (211, .dup, 0), (212, (.iconst 2), 0), (213, (.bipush 114), 0), (215, .castore, 0), (216, .dup, 0), (217, (.iconst 3), 0), (218, (.bipush 100), 0), (220, .castore, 0)]
theorem hl_bd12_1 : hl_bda (hl_bY 12).2.1 hl_bc12_1 = true := by decide +kernel
def hl_bc12_2 : hl_bcode := [(221, (.putfield 36), 2832), (224, (.aload_n 0), 0), (225, (.iconst 4), 0), (226, (.newarray .char), 0), (228, .dup, 0), (229, (.iconst 0), 0), (230, (.bipush 104), 0), (232, .castore, 0), (233, .dup, 0), (234, (.iconst 1), 0), (235, (.bipush 121), 0), (237, .castore, 0), (238, .dup, 0), (239, (.iconst 2), 0), (240, (.bipush 109), 0), (242, .castore, 0), (243, .dup, 0), (244, (.iconst 3), 0), (245, (.bipush 110), 0), (247, .castore, 0), (248, (.putfield 39), 2833), (251, (.aload_n 0), 0), (252, (.iconst 4), 0), (253, (.newarray .char), 0), (255, .dup, 0), (256, (.iconst 0), 0), (257, (.bipush 98), 0), (259, .castore, 0), (260, .dup, 0), (261, (.iconst 1), 0), (262, (.bipush 101), 0), (264, .castore, 0), (265, .dup, 0), (266, (.iconst 2), 0), (267, (.bipush 97), 0), (269, .castore, 0), (270, .dup, 0), (271, (.iconst 3), 0), (272, (.bipush 116), 0), (274, .castore, 0), (275, (.putfield 42), 2834), (278, (.aload_n 0), 0), (279, (.bipush 6), 0), (281, (.newarray .int), 0), (283, (.putfield 45), 2839), (286, (.aload_n 0), 0), (287, (.bipush 108), 0), (289, (.newarray .boolean), 0), (291, (.putfield 48), 2840), (294, (.aload_n 0), 0), (295, (.bipush 40), 0), (297, (.newarray .long), 0), (299, (.putfield 52), 2841), (302, (.aload_n 0), 0), (303, (.sipush 300), 0), (306, (.newarray .int), 0), (308, (.putfield 56), 2842), (311, (.aload_n 0), 0), (312, (.sipush 864), 0), (315, (.newarray .int), 0), (317, (.putfield 59), 2843), (320, (.aload_n 0), 0), (321, (.bipush 40), 0), (323, (.newarray .int), 0), (325, (.putfield 62), 2844), (328, (.aload_n 0), 0), (329, (.sipush 2916), 0), (332, (.newarray .int), 0), (334, (.putfield 65), 2848), (337, (.aload_n 0), 0), (338, (.bipush 54), 0), (340, (.newarray .int), 0), (342, (.putfield 68), 2849), (345, (.aload_n 0), 0), (346, (.sipush 1000), 0), (349, (.newarray .int), 0), (351, (.putfield 71), 2850), (354, (.aload_n 0), 0), (355, (.iconst (-1)), 0), (356, (.putfield 74), 2851)]
theorem hl_bd12_2 : hl_bda (hl_bY 12).2.1 hl_bc12_2 = true := by decide +kernel
def hl_bc12_3 : hl_bcode := [(359, (.aload_n 0), 0), (360, (.iconst (-1)), 0), (361, (.putfield 77), 2852), (364, (.aload_n 0), 0), (365, (.bipush 10), 0), (367, (.newarray .int), 0), (369, (.putfield 80), 2856), (372, (.aload_n 0), 0), (373, (.bipush 8), 0), (375, (.newarray .int), 0), (377, (.putfield 83), 2858), (380, (.aload_n 0), 0), (381, (.sipush 2304), 0), (384, (.newarray .int), 0), (386, (.putfield 86), 2860), (389, (.aload_n 0), 0), (390, (.sipush 2304), 0), (393, (.newarray .int), 0), (395, (.putfield 89), 2861), (398, (.aload_n 0), 0), (399, (.bipush 10), 0), (401, (.newarray .int), 0), (403, (.putfield 92), 2862), (406, (.aload_n 0), 0), (407, (.bipush 54), 0), (409, (.newarray .int), 0), (411, (.putfield 95), 2864), (414, (.aload_n 0), 0), (415, (.sipush 3000), 0), (418, (.newarray .int), 0), (420, (.putfield 98), 2865), (423, (.aload_n 0), 0), (424, (.iconst 5), 0), (425, (.newarray .char), 0), (427, .dup, 0), (428, (.iconst 0), 0), (429, (.bipush 102), 0), (431, .castore, 0), (432, .dup, 0), (433, (.iconst 1), 0), (434, (.bipush 105), 0), (436, .castore, 0), (437, .dup, 0), (438, (.iconst 2), 0), (439, (.bipush 114), 0), (441, .castore, 0), (442, .dup, 0), (443, (.iconst 3), 0), (444, (.bipush 115), 0), (446, .castore, 0), (447, .dup, 0), (448, (.iconst 4), 0), (449, (.bipush 116), 0), (451, .castore, 0), (452, (.putfield 101), 2868), (455, (.aload_n 0), 0), (456, (.iconst 4), 0), (457, (.newarray .char), 0), (459, .dup, 0), (460, (.iconst 0), 0), (461, (.bipush 108), 0), (463, .castore, 0), (464, .dup, 0), (465, (.iconst 1), 0), (466, (.bipush 97), 0), (468, .castore, 0), (469, .dup, 0), (470, (.iconst 2), 0), (471, (.bipush 115), 0), (473, .castore, 0), (474, .dup, 0), (475, (.iconst 3), 0), (476, (.bipush 116), 0), (478, .castore, 0), (479, (.putfield 104), 2869), (482, (.aload_n 0), 0), (483, (.iconst 5), 0), (484, (.newarray .char), 0), (486, .dup, 0), (487, (.iconst 0), 0)]
theorem hl_bd12_3 : hl_bda (hl_bY 12).2.1 hl_bc12_3 = true := by decide +kernel
def hl_bc12_4 : hl_bcode := [(488, (.bipush 111), 0), (490, .castore, 0), (491, .dup, 0), (492, (.iconst 1), 0), (493, (.bipush 102), 0), (495, .castore, 0), (496, .dup, 0), (497, (.iconst 2), 0), (498, (.bipush 116), 0), (500, .castore, 0), (501, .dup, 0), (502, (.iconst 3), 0), (503, (.bipush 101), 0), (505, .castore, 0), (506, .dup, 0), (507, (.iconst 4), 0), (508, (.bipush 110), 0), (510, .castore, 0), (511, (.putfield 107), 2870), (514, (.aload_n 0), 0), (515, (.iconst 5), 0), (516, (.newarray .char), 0), (518, .dup, 0), (519, (.iconst 0), 0), (520, (.bipush 116), 0), (522, .castore, 0), (523, .dup, 0), (524, (.iconst 1), 0), (525, (.bipush 111), 0), (527, .castore, 0), (528, .dup, 0), (529, (.iconst 2), 0), (530, (.bipush 116), 0), (532, .castore, 0), (533, .dup, 0), (534, (.iconst 3), 0), (535, (.bipush 97), 0), (537, .castore, 0), (538, .dup, 0), (539, (.iconst 4), 0), (540, (.bipush 108), 0), (542, .castore, 0), (543, (.putfield 110), 2871), (546, (.aload_n 0), 0), (547, (.iconst 4), 0), (548, (.newarray .char), 0), (550, .dup, 0), (551, (.iconst 0), 0), (552, (.bipush 109), 0), (554, .castore, 0), (555, .dup, 0), (556, (.iconst 1), 0), (557, (.bipush 111), 0), (559, .castore, 0), (560, .dup, 0), (561, (.iconst 2), 0), (562, (.bipush 115), 0), (564, .castore, 0), (565, .dup, 0), (566, (.iconst 3), 0), (567, (.bipush 116), 0), (569, .castore, 0), (570, (.putfield 113), 2872), (573, (.aload_n 0), 0), (574, (.iconst 5), 0), (575, (.newarray .char), 0), (577, .dup, 0), (578, (.iconst 0), 0), (579, (.bipush 108), 0), (581, .castore, 0), (582, .dup, 0), (583, (.iconst 1), 0), (584, (.bipush 101), 0), (586, .castore, 0), (587, .dup, 0), (588, (.iconst 2), 0), (589, (.bipush 97), 0), (591, .castore, 0), (592, .dup, 0), (593, (.iconst 3), 0)]
theorem hl_bd12_4 : hl_bda (hl_bY 12).2.1 hl_bc12_4 = true := by decide +kernel
def hl_bc12_5 : hl_bcode := [(594, (.bipush 115), 0), (596, .castore, 0), (597, .dup, 0), (598, (.iconst 4), 0), (599, (.bipush 116), 0), (601, .castore, 0), (602, (.putfield 116), 2873), (605, (.aload_n 0), 0), (606, (.iconst 3), 0), (607, (.newarray .char), 0), (609, .dup, 0), (610, (.iconst 0), 0), (611, (.bipush 110), 0), (613, .castore, 0), (614, .dup, 0), (615, (.iconst 1), 0), (616, (.bipush 111), 0), (618, .castore, 0), (619, .dup, 0), (620, (.iconst 2), 0), (621, (.bipush 116), 0), (623, .castore, 0), (624, (.putfield 119), 2874), (627, (.aload_n 0), 0), (628, (.iconst 3), 0), (629, (.newarray .char), 0), (631, .dup, 0), (632, (.iconst 0), 0), (633, (.bipush 97), 0), (635, .castore, 0), (636, .dup, 0), (637, (.iconst 1), 0), (638, (.bipush 110), 0), (640, .castore, 0), (641, .dup, 0), (642, (.iconst 2), 0), (643, (.bipush 100), 0), (645, .castore, 0), (646, (.putfield 122), 2875), (649, (.aload_n 0), 0), (650, (.iconst 2), 0), (651, (.newarray .char), 0), (653, .dup, 0), (654, (.iconst 0), 0), (655, (.bipush 111), 0), (657, .castore, 0), (658, .dup, 0), (659, (.iconst 1), 0), (660, (.bipush 114), 0), (662, .castore, 0), (663, (.putfield 125), 2876), (666, (.aload_n 0), 0), (667, (.iconst 3), 0), (668, (.newarray .char), 0), (670, .dup, 0), (671, (.iconst 0), 0), (672, (.bipush 97), 0), (674, .castore, 0), (675, .dup, 0), (676, (.iconst 1), 0), (677, (.bipush 108), 0), (679, .castore, 0), (680, .dup, 0), (681, (.iconst 2), 0), (682, (.bipush 108), 0), (684, .castore, 0), (685, (.putfield 128), 2877), (688, (.aload_n 0), 0), (689, (.iconst 3), 0), (690, (.newarray .char), 0), (692, .dup, 0), (693, (.iconst 0), 0), (694, (.bipush 109), 0), (696, .castore, 0), (697, .dup, 0), (698, (.iconst 1), 0), (699, (.bipush 105), 0), (701, .castore, 0), (702, .dup, 0), (703, (.iconst 2), 0)]
theorem hl_bd12_5 : hl_bda (hl_bY 12).2.1 hl_bc12_5 = true := by decide +kernel
def hl_bc12_6 : hl_bcode := [(704, (.bipush 110), 0), (706, .castore, 0), (707, (.putfield 131), 2878), (710, (.aload_n 0), 0), (711, (.iconst 3), 0), (712, (.newarray .char), 0), (714, .dup, 0), (715, (.iconst 0), 0), (716, (.bipush 109), 0), (718, .castore, 0), (719, .dup, 0), (720, (.iconst 1), 0), (721, (.bipush 97), 0), (723, .castore, 0), (724, .dup, 0), (725, (.iconst 2), 0), (726, (.bipush 120), 0), (728, .castore, 0), (729, (.putfield 134), 2879), (732, (.aload_n 0), 0), (733, (.iconst 4), 0), (734, (.newarray .char), 0), (736, .dup, 0), (737, (.iconst 0), 0), (738, (.bipush 98), 0), (740, .castore, 0), (741, .dup, 0), (742, (.iconst 1), 0), (743, (.bipush 101), 0), (745, .castore, 0), (746, .dup, 0), (747, (.iconst 2), 0), (748, (.bipush 97), 0), (750, .castore, 0), (751, .dup, 0), (752, (.iconst 3), 0), (753, (.bipush 116), 0), (755, .castore, 0), (756, (.putfield 137), 2880), (759, (.aload_n 0), 0), (760, (.iconst 5), 0), (761, (.newarray .char), 0), (763, .dup, 0), (764, (.iconst 0), 0), (765, (.bipush 99), 0), (767, .castore, 0), (768, .dup, 0), (769, (.iconst 1), 0), (770, (.bipush 108), 0), (772, .castore, 0), (773, .dup, 0), (774, (.iconst 2), 0), (775, (.bipush 97), 0), (777, .castore, 0), (778, .dup, 0), (779, (.iconst 3), 0), (780, (.bipush 115), 0), (782, .castore, 0), (783, .dup, 0), (784, (.iconst 4), 0), (785, (.bipush 104), 0), (787, .castore, 0), (788, (.putfield 140), 2881), (791, (.aload_n 0), 0), (792, (.iconst 3), 0), (793, (.newarray .char), 0), (795, .dup, 0), (796, (.iconst 0), 0), (797, (.bipush 108), 0), (799, .castore, 0), (800, .dup, 0), (801, (.iconst 1), 0), (802, (.bipush 105), 0), (804, .castore, 0), (805, .dup, 0), (806, (.iconst 2), 0), (807, (.bipush 116), 0), (809, .castore, 0), (810, (.putfield 143), 2882), (813, (.aload_n 0), 0)]
theorem hl_bd12_6 : hl_bda (hl_bY 12).2.1 hl_bc12_6 = true := by decide +kernel
def hl_bc12_7 : hl_bcode := [(814, (.iconst 4), 0), (815, (.newarray .char), 0), (817, .dup, 0), (818, (.iconst 0), 0), (819, (.bipush 114), 0), (821, .castore, 0), (822, .dup, 0), (823, (.iconst 1), 0), (824, (.bipush 101), 0), (826, .castore, 0), (827, .dup, 0), (828, (.iconst 2), 0), (829, (.bipush 97), 0), (831, .castore, 0), (832, .dup, 0), (833, (.iconst 3), 0), (834, (.bipush 100), 0), (836, .castore, 0), (837, (.putfield 146), 2883), (840, (.aload_n 0), 0), (841, (.iconst 2), 0), (842, (.newarray .char), 0), (844, .dup, 0), (845, (.iconst 0), 0), (846, (.bipush 97), 0), (848, .castore, 0), (849, .dup, 0), (850, (.iconst 1), 0), (851, (.bipush 116), 0), (853, .castore, 0), (854, (.putfield 149), 2884), (857, (.aload_n 0), 0), (858, (.iconst 3), 0), (859, (.newarray .char), 0), (861, .dup, 0), (862, (.iconst 0), 0), (863, (.bipush 102), 0), (865, .castore, 0), (866, .dup, 0), (867, (.iconst 1), 0), (868, (.bipush 97), 0), (870, .castore, 0), (871, .dup, 0), (872, (.iconst 2), 0), (873, (.bipush 114), 0), (875, .castore, 0), (876, (.putfield 152), 2885), (879, (.aload_n 0), 0), (880, (.iconst 4), 0), (881, (.newarray .char), 0), (883, .dup, 0), (884, (.iconst 0), 0), (885, (.bipush 103), 0), (887, .castore, 0), (888, .dup, 0), (889, (.iconst 1), 0), (890, (.bipush 108), 0), (892, .castore, 0), (893, .dup, 0), (894, (.iconst 2), 0), (895, (.bipush 111), 0), (897, .castore, 0), (898, .dup, 0), (899, (.iconst 3), 0), (900, (.bipush 119), 0), (902, .castore, 0), (903, (.putfield 155), 2886), (906, (.aload_n 0), 0), (907, (.sipush 1700), 0), (910, (.newarray .int), 0), (912, (.putfield 158), 2887), (915, (.aload_n 0), 0), (916, (.sipush 1700), 0), (919, (.newarray .int), 0), (921, (.putfield 161), 2889), (924, (.aload_n 0), 0), (925, (.sipush 1700), 0), (928, (.newarray .long), 0), (930, (.putfield 164), 2893), (933, (.aload_n 0), 0)]
theorem hl_bd12_7 : hl_bda (hl_bY 12).2.1 hl_bc12_7 = true := by decide +kernel
def hl_bc12_8 : hl_bcode := [(934, (.sipush 142), 0), (937, (.newarray .int), 0), (939, (.putfield 167), 2897), (942, .return_, 0)]
theorem hl_bd12_8 : hl_bda (hl_bY 12).2.1 hl_bc12_8 = true := by decide +kernel
def hl_bl12 : hl_bcode := hl_bc12_0 ++ (hl_bc12_1 ++ (hl_bc12_2 ++ (hl_bc12_3 ++ (hl_bc12_4 ++ (hl_bc12_5 ++ (hl_bc12_6 ++ (hl_bc12_7 ++ (hl_bc12_8))))))))
theorem hl_bf12_1 : hl_bev1 hl_bY hl_bna "HymnLampsModel" (.invokespecial 1) 0 := hl_k0 (hl_in5 239 rfl rfl)
theorem hl_bf12_10 : hl_bev1 hl_bY hl_bna "HymnLampsModel" (.putfield 7) 2816 := hl_kp (c := 11) (k := 0) (ty := .array .int) rfl rfl hl_CL11 (by decide) rfl (hl_in6 0 rfl rfl) rfl (by decide +kernel) (fun _ => rfl) (fun h => absurd h (by decide))
theorem hl_bf12_15 : hl_bev1 hl_bY hl_bna "HymnLampsModel" (.putfield 13) 2824 := hl_kp (c := 11) (k := 8) (ty := .int) rfl rfl hl_CL11 (by decide) rfl (hl_in6 8 rfl rfl) rfl (by decide +kernel) (fun h => absurd h (by decide)) (fun _ => rfl)
theorem hl_bf12_53 : hl_bev1 hl_bY hl_bna "HymnLampsModel" (.putfield 17) 2826 := hl_kp (c := 11) (k := 10) (ty := .array .char) rfl rfl hl_CL11 (by decide) rfl (hl_in6 10 rfl rfl) rfl (by decide +kernel) (fun _ => rfl) (fun h => absurd h (by decide))
theorem hl_bf12_80 : hl_bev1 hl_bY hl_bna "HymnLampsModel" (.putfield 21) 2827 := hl_kp (c := 11) (k := 11) (ty := .array .char) rfl rfl hl_CL11 (by decide) rfl (hl_in6 11 rfl rfl) rfl (by decide +kernel) (fun _ => rfl) (fun h => absurd h (by decide))
theorem hl_bf12_118 : hl_bev1 hl_bY hl_bna "HymnLampsModel" (.putfield 24) 2828 := hl_kp (c := 11) (k := 12) (ty := .array .char) rfl rfl hl_CL11 (by decide) rfl (hl_in6 12 rfl rfl) rfl (by decide +kernel) (fun _ => rfl) (fun h => absurd h (by decide))
theorem hl_bf12_135 : hl_bev1 hl_bY hl_bna "HymnLampsModel" (.putfield 27) 2829 := hl_kp (c := 11) (k := 13) (ty := .array .char) rfl rfl hl_CL11 (by decide) rfl (hl_in6 13 rfl rfl) rfl (by decide +kernel) (fun _ => rfl) (fun h => absurd h (by decide))
theorem hl_bf12_162 : hl_bev1 hl_bY hl_bna "HymnLampsModel" (.putfield 30) 2830 := hl_kp (c := 11) (k := 14) (ty := .array .char) rfl rfl hl_CL11 (by decide) rfl (hl_in6 14 rfl rfl) rfl (by decide +kernel) (fun _ => rfl) (fun h => absurd h (by decide))
theorem hl_bf12_194 : hl_bev1 hl_bY hl_bna "HymnLampsModel" (.putfield 33) 2831 := hl_kp (c := 11) (k := 15) (ty := .array .char) rfl rfl hl_CL11 (by decide) rfl (hl_in6 15 rfl rfl) rfl (by decide +kernel) (fun _ => rfl) (fun h => absurd h (by decide))
theorem hl_bf12_221 : hl_bev1 hl_bY hl_bna "HymnLampsModel" (.putfield 36) 2832 := hl_kp (c := 11) (k := 16) (ty := .array .char) rfl rfl hl_CL11 (by decide) rfl (hl_in6 16 rfl rfl) rfl (by decide +kernel) (fun _ => rfl) (fun h => absurd h (by decide))
theorem hl_bf12_248 : hl_bev1 hl_bY hl_bna "HymnLampsModel" (.putfield 39) 2833 := hl_kp (c := 11) (k := 17) (ty := .array .char) rfl rfl hl_CL11 (by decide) rfl (hl_in6 17 rfl rfl) rfl (by decide +kernel) (fun _ => rfl) (fun h => absurd h (by decide))
theorem hl_bf12_275 : hl_bev1 hl_bY hl_bna "HymnLampsModel" (.putfield 42) 2834 := hl_kp (c := 11) (k := 18) (ty := .array .char) rfl rfl hl_CL11 (by decide) rfl (hl_in6 18 rfl rfl) rfl (by decide +kernel) (fun _ => rfl) (fun h => absurd h (by decide))
theorem hl_bf12_283 : hl_bev1 hl_bY hl_bna "HymnLampsModel" (.putfield 45) 2839 := hl_kp (c := 11) (k := 23) (ty := .array .int) rfl rfl hl_CL11 (by decide) rfl (hl_in6 23 rfl rfl) rfl (by decide +kernel) (fun _ => rfl) (fun h => absurd h (by decide))
theorem hl_bf12_291 : hl_bev1 hl_bY hl_bna "HymnLampsModel" (.putfield 48) 2840 := hl_kp (c := 11) (k := 24) (ty := .array .boolean) rfl rfl hl_CL11 (by decide) rfl (hl_in6 24 rfl rfl) rfl (by decide +kernel) (fun _ => rfl) (fun h => absurd h (by decide))
theorem hl_bf12_299 : hl_bev1 hl_bY hl_bna "HymnLampsModel" (.putfield 52) 2841 := hl_kp (c := 11) (k := 25) (ty := .array .long) rfl rfl hl_CL11 (by decide) rfl (hl_in6 25 rfl rfl) rfl (by decide +kernel) (fun _ => rfl) (fun h => absurd h (by decide))
theorem hl_bf12_308 : hl_bev1 hl_bY hl_bna "HymnLampsModel" (.putfield 56) 2842 := hl_kp (c := 11) (k := 26) (ty := .array .int) rfl rfl hl_CL11 (by decide) rfl (hl_in6 26 rfl rfl) rfl (by decide +kernel) (fun _ => rfl) (fun h => absurd h (by decide))
theorem hl_bf12_317 : hl_bev1 hl_bY hl_bna "HymnLampsModel" (.putfield 59) 2843 := hl_kp (c := 11) (k := 27) (ty := .array .int) rfl rfl hl_CL11 (by decide) rfl (hl_in6 27 rfl rfl) rfl (by decide +kernel) (fun _ => rfl) (fun h => absurd h (by decide))
theorem hl_bf12_325 : hl_bev1 hl_bY hl_bna "HymnLampsModel" (.putfield 62) 2844 := hl_kp (c := 11) (k := 28) (ty := .array .int) rfl rfl hl_CL11 (by decide) rfl (hl_in6 28 rfl rfl) rfl (by decide +kernel) (fun _ => rfl) (fun h => absurd h (by decide))
theorem hl_bf12_334 : hl_bev1 hl_bY hl_bna "HymnLampsModel" (.putfield 65) 2848 := hl_kp (c := 11) (k := 32) (ty := .array .int) rfl rfl hl_CL11 (by decide) rfl (hl_in6 32 rfl rfl) rfl (by decide +kernel) (fun _ => rfl) (fun h => absurd h (by decide))
theorem hl_bf12_342 : hl_bev1 hl_bY hl_bna "HymnLampsModel" (.putfield 68) 2849 := hl_kp (c := 11) (k := 33) (ty := .array .int) rfl rfl hl_CL11 (by decide) rfl (hl_in6 33 rfl rfl) rfl (by decide +kernel) (fun _ => rfl) (fun h => absurd h (by decide))
theorem hl_bf12_351 : hl_bev1 hl_bY hl_bna "HymnLampsModel" (.putfield 71) 2850 := hl_kp (c := 11) (k := 34) (ty := .array .int) rfl rfl hl_CL11 (by decide) rfl (hl_in6 34 rfl rfl) rfl (by decide +kernel) (fun _ => rfl) (fun h => absurd h (by decide))
theorem hl_bf12_356 : hl_bev1 hl_bY hl_bna "HymnLampsModel" (.putfield 74) 2851 := hl_kp (c := 11) (k := 35) (ty := .int) rfl rfl hl_CL11 (by decide) rfl (hl_in6 35 rfl rfl) rfl (by decide +kernel) (fun h => absurd h (by decide)) (fun _ => rfl)
theorem hl_bf12_361 : hl_bev1 hl_bY hl_bna "HymnLampsModel" (.putfield 77) 2852 := hl_kp (c := 11) (k := 36) (ty := .int) rfl rfl hl_CL11 (by decide) rfl (hl_in6 36 rfl rfl) rfl (by decide +kernel) (fun h => absurd h (by decide)) (fun _ => rfl)
theorem hl_bf12_369 : hl_bev1 hl_bY hl_bna "HymnLampsModel" (.putfield 80) 2856 := hl_kp (c := 11) (k := 40) (ty := .array .int) rfl rfl hl_CL11 (by decide) rfl (hl_in6 40 rfl rfl) rfl (by decide +kernel) (fun _ => rfl) (fun h => absurd h (by decide))
theorem hl_bf12_377 : hl_bev1 hl_bY hl_bna "HymnLampsModel" (.putfield 83) 2858 := hl_kp (c := 11) (k := 42) (ty := .array .int) rfl rfl hl_CL11 (by decide) rfl (hl_in6 42 rfl rfl) rfl (by decide +kernel) (fun _ => rfl) (fun h => absurd h (by decide))
theorem hl_bf12_386 : hl_bev1 hl_bY hl_bna "HymnLampsModel" (.putfield 86) 2860 := hl_kp (c := 11) (k := 44) (ty := .array .int) rfl rfl hl_CL11 (by decide) rfl (hl_in6 44 rfl rfl) rfl (by decide +kernel) (fun _ => rfl) (fun h => absurd h (by decide))
theorem hl_bf12_395 : hl_bev1 hl_bY hl_bna "HymnLampsModel" (.putfield 89) 2861 := hl_kp (c := 11) (k := 45) (ty := .array .int) rfl rfl hl_CL11 (by decide) rfl (hl_in6 45 rfl rfl) rfl (by decide +kernel) (fun _ => rfl) (fun h => absurd h (by decide))
theorem hl_bf12_403 : hl_bev1 hl_bY hl_bna "HymnLampsModel" (.putfield 92) 2862 := hl_kp (c := 11) (k := 46) (ty := .array .int) rfl rfl hl_CL11 (by decide) rfl (hl_in6 46 rfl rfl) rfl (by decide +kernel) (fun _ => rfl) (fun h => absurd h (by decide))
theorem hl_bf12_411 : hl_bev1 hl_bY hl_bna "HymnLampsModel" (.putfield 95) 2864 := hl_kp (c := 11) (k := 48) (ty := .array .int) rfl rfl hl_CL11 (by decide) rfl (hl_in6 48 rfl rfl) rfl (by decide +kernel) (fun _ => rfl) (fun h => absurd h (by decide))
theorem hl_bf12_420 : hl_bev1 hl_bY hl_bna "HymnLampsModel" (.putfield 98) 2865 := hl_kp (c := 11) (k := 49) (ty := .array .int) rfl rfl hl_CL11 (by decide) rfl (hl_in6 49 rfl rfl) rfl (by decide +kernel) (fun _ => rfl) (fun h => absurd h (by decide))
theorem hl_bf12_452 : hl_bev1 hl_bY hl_bna "HymnLampsModel" (.putfield 101) 2868 := hl_kp (c := 11) (k := 52) (ty := .array .char) rfl rfl hl_CL11 (by decide) rfl (hl_in6 52 rfl rfl) rfl (by decide +kernel) (fun _ => rfl) (fun h => absurd h (by decide))
theorem hl_bf12_479 : hl_bev1 hl_bY hl_bna "HymnLampsModel" (.putfield 104) 2869 := hl_kp (c := 11) (k := 53) (ty := .array .char) rfl rfl hl_CL11 (by decide) rfl (hl_in6 53 rfl rfl) rfl (by decide +kernel) (fun _ => rfl) (fun h => absurd h (by decide))
theorem hl_bf12_511 : hl_bev1 hl_bY hl_bna "HymnLampsModel" (.putfield 107) 2870 := hl_kp (c := 11) (k := 54) (ty := .array .char) rfl rfl hl_CL11 (by decide) rfl (hl_in6 54 rfl rfl) rfl (by decide +kernel) (fun _ => rfl) (fun h => absurd h (by decide))
theorem hl_bf12_543 : hl_bev1 hl_bY hl_bna "HymnLampsModel" (.putfield 110) 2871 := hl_kp (c := 11) (k := 55) (ty := .array .char) rfl rfl hl_CL11 (by decide) rfl (hl_in6 55 rfl rfl) rfl (by decide +kernel) (fun _ => rfl) (fun h => absurd h (by decide))
theorem hl_bf12_570 : hl_bev1 hl_bY hl_bna "HymnLampsModel" (.putfield 113) 2872 := hl_kp (c := 11) (k := 56) (ty := .array .char) rfl rfl hl_CL11 (by decide) rfl (hl_in6 56 rfl rfl) rfl (by decide +kernel) (fun _ => rfl) (fun h => absurd h (by decide))
theorem hl_bf12_602 : hl_bev1 hl_bY hl_bna "HymnLampsModel" (.putfield 116) 2873 := hl_kp (c := 11) (k := 57) (ty := .array .char) rfl rfl hl_CL11 (by decide) rfl (hl_in6 57 rfl rfl) rfl (by decide +kernel) (fun _ => rfl) (fun h => absurd h (by decide))
theorem hl_bf12_624 : hl_bev1 hl_bY hl_bna "HymnLampsModel" (.putfield 119) 2874 := hl_kp (c := 11) (k := 58) (ty := .array .char) rfl rfl hl_CL11 (by decide) rfl (hl_in6 58 rfl rfl) rfl (by decide +kernel) (fun _ => rfl) (fun h => absurd h (by decide))
theorem hl_bf12_646 : hl_bev1 hl_bY hl_bna "HymnLampsModel" (.putfield 122) 2875 := hl_kp (c := 11) (k := 59) (ty := .array .char) rfl rfl hl_CL11 (by decide) rfl (hl_in6 59 rfl rfl) rfl (by decide +kernel) (fun _ => rfl) (fun h => absurd h (by decide))
theorem hl_bf12_663 : hl_bev1 hl_bY hl_bna "HymnLampsModel" (.putfield 125) 2876 := hl_kp (c := 11) (k := 60) (ty := .array .char) rfl rfl hl_CL11 (by decide) rfl (hl_in6 60 rfl rfl) rfl (by decide +kernel) (fun _ => rfl) (fun h => absurd h (by decide))
theorem hl_bf12_685 : hl_bev1 hl_bY hl_bna "HymnLampsModel" (.putfield 128) 2877 := hl_kp (c := 11) (k := 61) (ty := .array .char) rfl rfl hl_CL11 (by decide) rfl (hl_in6 61 rfl rfl) rfl (by decide +kernel) (fun _ => rfl) (fun h => absurd h (by decide))
theorem hl_bf12_707 : hl_bev1 hl_bY hl_bna "HymnLampsModel" (.putfield 131) 2878 := hl_kp (c := 11) (k := 62) (ty := .array .char) rfl rfl hl_CL11 (by decide) rfl (hl_in6 62 rfl rfl) rfl (by decide +kernel) (fun _ => rfl) (fun h => absurd h (by decide))
theorem hl_bf12_729 : hl_bev1 hl_bY hl_bna "HymnLampsModel" (.putfield 134) 2879 := hl_kp (c := 11) (k := 63) (ty := .array .char) rfl rfl hl_CL11 (by decide) rfl (hl_in6 63 rfl rfl) rfl (by decide +kernel) (fun _ => rfl) (fun h => absurd h (by decide))
theorem hl_bf12_756 : hl_bev1 hl_bY hl_bna "HymnLampsModel" (.putfield 137) 2880 := hl_kp (c := 11) (k := 64) (ty := .array .char) rfl rfl hl_CL11 (by decide) rfl (hl_in6 64 rfl rfl) rfl (by decide +kernel) (fun _ => rfl) (fun h => absurd h (by decide))
theorem hl_bf12_788 : hl_bev1 hl_bY hl_bna "HymnLampsModel" (.putfield 140) 2881 := hl_kp (c := 11) (k := 65) (ty := .array .char) rfl rfl hl_CL11 (by decide) rfl (hl_in6 65 rfl rfl) rfl (by decide +kernel) (fun _ => rfl) (fun h => absurd h (by decide))
theorem hl_bf12_810 : hl_bev1 hl_bY hl_bna "HymnLampsModel" (.putfield 143) 2882 := hl_kp (c := 11) (k := 66) (ty := .array .char) rfl rfl hl_CL11 (by decide) rfl (hl_in6 66 rfl rfl) rfl (by decide +kernel) (fun _ => rfl) (fun h => absurd h (by decide))
theorem hl_bf12_837 : hl_bev1 hl_bY hl_bna "HymnLampsModel" (.putfield 146) 2883 := hl_kp (c := 11) (k := 67) (ty := .array .char) rfl rfl hl_CL11 (by decide) rfl (hl_in6 67 rfl rfl) rfl (by decide +kernel) (fun _ => rfl) (fun h => absurd h (by decide))
theorem hl_bf12_854 : hl_bev1 hl_bY hl_bna "HymnLampsModel" (.putfield 149) 2884 := hl_kp (c := 11) (k := 68) (ty := .array .char) rfl rfl hl_CL11 (by decide) rfl (hl_in6 68 rfl rfl) rfl (by decide +kernel) (fun _ => rfl) (fun h => absurd h (by decide))
theorem hl_bf12_876 : hl_bev1 hl_bY hl_bna "HymnLampsModel" (.putfield 152) 2885 := hl_kp (c := 11) (k := 69) (ty := .array .char) rfl rfl hl_CL11 (by decide) rfl (hl_in6 69 rfl rfl) rfl (by decide +kernel) (fun _ => rfl) (fun h => absurd h (by decide))
theorem hl_bf12_903 : hl_bev1 hl_bY hl_bna "HymnLampsModel" (.putfield 155) 2886 := hl_kp (c := 11) (k := 70) (ty := .array .char) rfl rfl hl_CL11 (by decide) rfl (hl_in6 70 rfl rfl) rfl (by decide +kernel) (fun _ => rfl) (fun h => absurd h (by decide))
theorem hl_bf12_912 : hl_bev1 hl_bY hl_bna "HymnLampsModel" (.putfield 158) 2887 := hl_kp (c := 11) (k := 71) (ty := .array .int) rfl rfl hl_CL11 (by decide) rfl (hl_in6 71 rfl rfl) rfl (by decide +kernel) (fun _ => rfl) (fun h => absurd h (by decide))
theorem hl_bf12_921 : hl_bev1 hl_bY hl_bna "HymnLampsModel" (.putfield 161) 2889 := hl_kp (c := 11) (k := 73) (ty := .array .int) rfl rfl hl_CL11 (by decide) rfl (hl_in6 73 rfl rfl) rfl (by decide +kernel) (fun _ => rfl) (fun h => absurd h (by decide))
theorem hl_bf12_930 : hl_bev1 hl_bY hl_bna "HymnLampsModel" (.putfield 164) 2893 := hl_kp (c := 11) (k := 77) (ty := .array .long) rfl rfl hl_CL11 (by decide) rfl (hl_in6 77 rfl rfl) rfl (by decide +kernel) (fun _ => rfl) (fun h => absurd h (by decide))
theorem hl_bf12_939 : hl_bev1 hl_bY hl_bna "HymnLampsModel" (.putfield 167) 2897 := hl_kp (c := 11) (k := 81) (ty := .array .int) rfl rfl hl_CL11 (by decide) rfl (hl_in6 81 rfl rfl) rfl (by decide +kernel) (fun _ => rfl) (fun h => absurd h (by decide))
theorem hl_be12_0 : ∀ q ∈ hl_bc12_0, hl_bev1 hl_bY hl_bna "HymnLampsModel" q.2.1 q.2.2 := by
  refine hl_kall ?_
  have h : hl_bc12_0.filter (fun q => !hl_free q.2.1) = [(1, (.invokespecial 1), 0), (10, (.putfield 7), 2816), (15, (.putfield 13), 2824), (53, (.putfield 17), 2826), (80, (.putfield 21), 2827)] := by decide +kernel
  rw [h]
  exact List.forall_mem_cons.mpr ⟨hl_bf12_1, List.forall_mem_cons.mpr ⟨hl_bf12_10, List.forall_mem_cons.mpr ⟨hl_bf12_15, List.forall_mem_cons.mpr ⟨hl_bf12_53, List.forall_mem_cons.mpr ⟨hl_bf12_80, fun _ h => absurd h (List.not_mem_nil)⟩⟩⟩⟩⟩
theorem hl_be12_1 : ∀ q ∈ hl_bc12_1, hl_bev1 hl_bY hl_bna "HymnLampsModel" q.2.1 q.2.2 := by
  refine hl_kall ?_
  have h : hl_bc12_1.filter (fun q => !hl_free q.2.1) = [(118, (.putfield 24), 2828), (135, (.putfield 27), 2829), (162, (.putfield 30), 2830), (194, (.putfield 33), 2831)] := by decide +kernel
  rw [h]
  exact List.forall_mem_cons.mpr ⟨hl_bf12_118, List.forall_mem_cons.mpr ⟨hl_bf12_135, List.forall_mem_cons.mpr ⟨hl_bf12_162, List.forall_mem_cons.mpr ⟨hl_bf12_194, fun _ h => absurd h (List.not_mem_nil)⟩⟩⟩⟩
theorem hl_be12_2 : ∀ q ∈ hl_bc12_2, hl_bev1 hl_bY hl_bna "HymnLampsModel" q.2.1 q.2.2 := by
  refine hl_kall ?_
  have h : hl_bc12_2.filter (fun q => !hl_free q.2.1) = [(221, (.putfield 36), 2832), (248, (.putfield 39), 2833), (275, (.putfield 42), 2834), (283, (.putfield 45), 2839), (291, (.putfield 48), 2840), (299, (.putfield 52), 2841), (308, (.putfield 56), 2842), (317, (.putfield 59), 2843), (325, (.putfield 62), 2844), (334, (.putfield 65), 2848), (342, (.putfield 68), 2849), (351, (.putfield 71), 2850), (356, (.putfield 74), 2851)] := by decide +kernel
  rw [h]
  exact List.forall_mem_cons.mpr ⟨hl_bf12_221, List.forall_mem_cons.mpr ⟨hl_bf12_248, List.forall_mem_cons.mpr ⟨hl_bf12_275, List.forall_mem_cons.mpr ⟨hl_bf12_283, List.forall_mem_cons.mpr ⟨hl_bf12_291, List.forall_mem_cons.mpr ⟨hl_bf12_299, List.forall_mem_cons.mpr ⟨hl_bf12_308, List.forall_mem_cons.mpr ⟨hl_bf12_317, List.forall_mem_cons.mpr ⟨hl_bf12_325, List.forall_mem_cons.mpr ⟨hl_bf12_334, List.forall_mem_cons.mpr ⟨hl_bf12_342, List.forall_mem_cons.mpr ⟨hl_bf12_351, List.forall_mem_cons.mpr ⟨hl_bf12_356, fun _ h => absurd h (List.not_mem_nil)⟩⟩⟩⟩⟩⟩⟩⟩⟩⟩⟩⟩⟩
theorem hl_be12_3 : ∀ q ∈ hl_bc12_3, hl_bev1 hl_bY hl_bna "HymnLampsModel" q.2.1 q.2.2 := by
  refine hl_kall ?_
  have h : hl_bc12_3.filter (fun q => !hl_free q.2.1) = [(361, (.putfield 77), 2852), (369, (.putfield 80), 2856), (377, (.putfield 83), 2858), (386, (.putfield 86), 2860), (395, (.putfield 89), 2861), (403, (.putfield 92), 2862), (411, (.putfield 95), 2864), (420, (.putfield 98), 2865), (452, (.putfield 101), 2868), (479, (.putfield 104), 2869)] := by decide +kernel
  rw [h]
  exact List.forall_mem_cons.mpr ⟨hl_bf12_361, List.forall_mem_cons.mpr ⟨hl_bf12_369, List.forall_mem_cons.mpr ⟨hl_bf12_377, List.forall_mem_cons.mpr ⟨hl_bf12_386, List.forall_mem_cons.mpr ⟨hl_bf12_395, List.forall_mem_cons.mpr ⟨hl_bf12_403, List.forall_mem_cons.mpr ⟨hl_bf12_411, List.forall_mem_cons.mpr ⟨hl_bf12_420, List.forall_mem_cons.mpr ⟨hl_bf12_452, List.forall_mem_cons.mpr ⟨hl_bf12_479, fun _ h => absurd h (List.not_mem_nil)⟩⟩⟩⟩⟩⟩⟩⟩⟩⟩
theorem hl_be12_4 : ∀ q ∈ hl_bc12_4, hl_bev1 hl_bY hl_bna "HymnLampsModel" q.2.1 q.2.2 := by
  refine hl_kall ?_
  have h : hl_bc12_4.filter (fun q => !hl_free q.2.1) = [(511, (.putfield 107), 2870), (543, (.putfield 110), 2871), (570, (.putfield 113), 2872)] := by decide +kernel
  rw [h]
  exact List.forall_mem_cons.mpr ⟨hl_bf12_511, List.forall_mem_cons.mpr ⟨hl_bf12_543, List.forall_mem_cons.mpr ⟨hl_bf12_570, fun _ h => absurd h (List.not_mem_nil)⟩⟩⟩
theorem hl_be12_5 : ∀ q ∈ hl_bc12_5, hl_bev1 hl_bY hl_bna "HymnLampsModel" q.2.1 q.2.2 := by
  refine hl_kall ?_
  have h : hl_bc12_5.filter (fun q => !hl_free q.2.1) = [(602, (.putfield 116), 2873), (624, (.putfield 119), 2874), (646, (.putfield 122), 2875), (663, (.putfield 125), 2876), (685, (.putfield 128), 2877)] := by decide +kernel
  rw [h]
  exact List.forall_mem_cons.mpr ⟨hl_bf12_602, List.forall_mem_cons.mpr ⟨hl_bf12_624, List.forall_mem_cons.mpr ⟨hl_bf12_646, List.forall_mem_cons.mpr ⟨hl_bf12_663, List.forall_mem_cons.mpr ⟨hl_bf12_685, fun _ h => absurd h (List.not_mem_nil)⟩⟩⟩⟩⟩
theorem hl_be12_6 : ∀ q ∈ hl_bc12_6, hl_bev1 hl_bY hl_bna "HymnLampsModel" q.2.1 q.2.2 := by
  refine hl_kall ?_
  have h : hl_bc12_6.filter (fun q => !hl_free q.2.1) = [(707, (.putfield 131), 2878), (729, (.putfield 134), 2879), (756, (.putfield 137), 2880), (788, (.putfield 140), 2881), (810, (.putfield 143), 2882)] := by decide +kernel
  rw [h]
  exact List.forall_mem_cons.mpr ⟨hl_bf12_707, List.forall_mem_cons.mpr ⟨hl_bf12_729, List.forall_mem_cons.mpr ⟨hl_bf12_756, List.forall_mem_cons.mpr ⟨hl_bf12_788, List.forall_mem_cons.mpr ⟨hl_bf12_810, fun _ h => absurd h (List.not_mem_nil)⟩⟩⟩⟩⟩
theorem hl_be12_7 : ∀ q ∈ hl_bc12_7, hl_bev1 hl_bY hl_bna "HymnLampsModel" q.2.1 q.2.2 := by
  refine hl_kall ?_
  have h : hl_bc12_7.filter (fun q => !hl_free q.2.1) = [(837, (.putfield 146), 2883), (854, (.putfield 149), 2884), (876, (.putfield 152), 2885), (903, (.putfield 155), 2886), (912, (.putfield 158), 2887), (921, (.putfield 161), 2889), (930, (.putfield 164), 2893)] := by decide +kernel
  rw [h]
  exact List.forall_mem_cons.mpr ⟨hl_bf12_837, List.forall_mem_cons.mpr ⟨hl_bf12_854, List.forall_mem_cons.mpr ⟨hl_bf12_876, List.forall_mem_cons.mpr ⟨hl_bf12_903, List.forall_mem_cons.mpr ⟨hl_bf12_912, List.forall_mem_cons.mpr ⟨hl_bf12_921, List.forall_mem_cons.mpr ⟨hl_bf12_930, fun _ h => absurd h (List.not_mem_nil)⟩⟩⟩⟩⟩⟩⟩
theorem hl_be12_8 : ∀ q ∈ hl_bc12_8, hl_bev1 hl_bY hl_bna "HymnLampsModel" q.2.1 q.2.2 := by
  refine hl_kall ?_
  have h : hl_bc12_8.filter (fun q => !hl_free q.2.1) = [(939, (.putfield 167), 2897)] := by decide +kernel
  rw [h]
  exact List.forall_mem_cons.mpr ⟨hl_bf12_939, fun _ h => absurd h (List.not_mem_nil)⟩
theorem hl_bg12 {pc : Nat} {i : Instr} {op : Nat} (h : hl_find hl_bl12 pc = some (i, op)) : decode (hl_bY 12).2.1 pc = .ok (i, hl_len i) ∧ hl_bev1 hl_bY hl_bna (hl_bY 12).1.cls i op := by
  rw [show (hl_bY 12).1.cls = "HymnLampsModel" from rfl]
  have h := hl_find_mem h
  unfold hl_bl12 at h
  rcases List.mem_append.mp h with h | h
  · exact ⟨hl_bda_of (q := (pc, i, op)) hl_bd12_0 h, hl_be12_0 (pc, i, op) h⟩
  rcases List.mem_append.mp h with h | h
  · exact ⟨hl_bda_of (q := (pc, i, op)) hl_bd12_1 h, hl_be12_1 (pc, i, op) h⟩
  rcases List.mem_append.mp h with h | h
  · exact ⟨hl_bda_of (q := (pc, i, op)) hl_bd12_2 h, hl_be12_2 (pc, i, op) h⟩
  rcases List.mem_append.mp h with h | h
  · exact ⟨hl_bda_of (q := (pc, i, op)) hl_bd12_3 h, hl_be12_3 (pc, i, op) h⟩
  rcases List.mem_append.mp h with h | h
  · exact ⟨hl_bda_of (q := (pc, i, op)) hl_bd12_4 h, hl_be12_4 (pc, i, op) h⟩
  rcases List.mem_append.mp h with h | h
  · exact ⟨hl_bda_of (q := (pc, i, op)) hl_bd12_5 h, hl_be12_5 (pc, i, op) h⟩
  rcases List.mem_append.mp h with h | h
  · exact ⟨hl_bda_of (q := (pc, i, op)) hl_bd12_6 h, hl_be12_6 (pc, i, op) h⟩
  rcases List.mem_append.mp h with h | h
  · exact ⟨hl_bda_of (q := (pc, i, op)) hl_bd12_7 h, hl_be12_7 (pc, i, op) h⟩
  exact ⟨hl_bda_of (q := (pc, i, op)) hl_bd12_8 h, hl_be12_8 (pc, i, op) h⟩
def hl_bcs : Nat → hl_bcode := fun k => match k with
  | 1 => hl_bl1
  | 2 => hl_bl2
  | 3 => hl_bl3
  | 4 => hl_bl4
  | 5 => hl_bl5
  | 6 => hl_bl6
  | 7 => hl_bl7
  | 8 => hl_bl8
  | 9 => hl_bl9
  | 10 => hl_bl10
  | 11 => hl_bl11
  | 12 => hl_bl12
  | _ => []
theorem hl_bcs_ok : hl_bcd hl_bY hl_bcs hl_bna := by
  refine ⟨fun z pc i op h => ?_, fun ty h => ?_, hl_in1 27 rfl rfl, hl_in1 28 rfl rfl⟩
  · unfold hl_bcs at h
    split at h
    · exact hl_bg1 h
    · exact hl_bg2 h
    · exact hl_bg3 h
    · exact hl_bg4 h
    · exact hl_bg5 h
    · exact hl_bg6 h
    · exact hl_bg7 h
    · exact hl_bg8 h
    · exact hl_bg9 h
    · exact hl_bg10 h
    · exact hl_bg11 h
    · exact hl_bg12 h
    · cases h
  · rcases h with rfl | rfl | rfl | rfl | rfl
    · exact hl_in1 182 rfl rfl
    · exact hl_in1 45 rfl rfl
    · exact hl_in7 11 rfl rfl
    · exact hl_in7 10 rfl rfl
    · exact hl_in1 183 rfl rfl
