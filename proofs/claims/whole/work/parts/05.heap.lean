/-! rules of fields, arrays, returns, calls -/
/-- class number c: its tables -/
def hl_CL (c : Nat) (C : String) (T : u_T) (N : Nat) : Prop := hl_cl[c]? = some (C, T, N) ∧ (∀ w ∈ u_ws C T N, w ∈ hl_T) ∧ (∃ ty0 : Nat → FieldType, ∀ k, k < N → parseFieldDescriptor (T k).2.2.1 = some (ty0 k)) ∧ (∀ a, a < N → ∀ b, b < N → a ≠ b → (T a).2.1 ≠ (T b).2.1) ∧ (hl_ftl c).length = N
/-- own's entry idx is field k of class c -/
def hl_FL (own : String) (idx c k : Nat) : Prop := ∃ (C : String) (T : u_T) (N : Nat), hl_CL c C T N ∧ k < N ∧ (T k).1 = C ∧ Cond.fieldLink own idx C (T k).2.1 (T k).2.2.1 ∈ hl_T
/-- the same, and it may be written -/
def hl_FP (own : String) (idx c k : Nat) (ty : FieldType) : Prop := ∃ (C : String) (T : u_T) (N : Nat), hl_CL c C T N ∧ k < N ∧ (T k).1 = C ∧ Cond.fieldLink own idx C (T k).2.1 (T k).2.2.1 ∈ hl_T ∧ (T k).2.2.2 = false ∧ parseFieldDescriptor (T k).2.2.1 = some ty
section HLH
variable {X : hl_X} {D : Nat} {y : hl_Y} {pc nx tg : Nat} {ls : List (Nat × Value)} {st : List Value} {σ τ : hl_M} {v : Option Value}
theorem hl_get {i c k t q z : Nat} {w : Value} (hd : hl_d y.2.1 pc (.getfield i) 3 nx) (hf : hl_FL y.1.cls i c k) (hs : hl_shp q = (c, z)) (hc : c < 100) (ht : (hl_ftl c)[k]? = some t) (hw : ∀ g, hl_fv g σ q k t = hl_cv g w) (kk : hl_R X D y nx ls (w :: st) σ v τ) : hl_R X D y pc ls (.ref q :: st) σ v τ := by
  obtain ⟨hd, rfl⟩ := hd
  obtain ⟨C, T, N, ⟨h1, h2, -, -, h5⟩, hk, ho, hl⟩ := hf
  intro g p l e R s m args below meth c' H locs cells slots Q la hC hI hL hret
  have hq : q < hl_n := hl_n_of hs (by omega)
  have hk2 := kk g p l e R s m args below meth c' H locs cells slots Q la hC hI hL hret
  rw [List.map_cons, hl_cv_ref (by have : hl_n = 114 := rfl; omega)]
  refine va_get (C := C) (T := T) (N := N) (ref := C) (tys := hl_ty g) hC.1 hC.2.1 hC.2.2.2.2.1 h2 hC.2.2.2.1 hI.2.1 hI.1 q (by rw [hl_ws_get hq, hl_ent_o hs hc]) h1 k hk (hC.2.2.2.2.1 _ hl) (fun _ h => by rw [ho] at h; exact h) (hl_fs_get ht) hd ?_
  rw [hw g]
  exact hk2
theorem hl_geti {i c k q z : Nat} (hd : hl_d y.2.1 pc (.getfield i) 3 nx) (hf : hl_FL y.1.cls i c k) (hs : hl_shp q = (c, z)) (hc : c < 100) (ht : (hl_ftl c)[k]? = some 0) (kk : hl_R X D y nx ls (.int (σ.1 q k) :: st) σ v τ) : hl_R X D y pc ls (.ref q :: st) σ v τ :=
  hl_get hd hf hs hc ht (fun _ => rfl) kk
theorem hl_getz {i c k q z : Nat} (hd : hl_d y.2.1 pc (.getfield i) 3 nx) (hf : hl_FL y.1.cls i c k) (hs : hl_shp q = (c, z)) (hc : c < 100) (ht : (hl_ftl c)[k]? = some 3) (kk : hl_R X D y nx ls (.int (σ.1 q k) :: st) σ v τ) : hl_R X D y pc ls (.ref q :: st) σ v τ :=
  hl_get hd hf hs hc ht (fun _ => rfl) kk
theorem hl_getl {i c k q z : Nat} (hd : hl_d y.2.1 pc (.getfield i) 3 nx) (hf : hl_FL y.1.cls i c k) (hs : hl_shp q = (c, z)) (hc : c < 100) (ht : (hl_ftl c)[k]? = some 1) (kk : hl_R X D y nx ls (.long (σ.2 q k) :: st) σ v τ) : hl_R X D y pc ls (.ref q :: st) σ v τ :=
  hl_get hd hf hs hc ht (fun _ => rfl) kk
theorem hl_getr {i c k q z r : Nat} (hd : hl_d y.2.1 pc (.getfield i) 3 nx) (hf : hl_FL y.1.cls i c k) (hs : hl_shp q = (c, z)) (hc : c < 100) (ht : (hl_ftl c)[k]? = some 2) (hr : hl_rf q k = r) (hr2 : r < 900) (kk : hl_R X D y nx ls (.ref r :: st) σ v τ) : hl_R X D y pc ls (.ref q :: st) σ v τ :=
  hl_get hd hf hs hc ht (fun g => by rw [hl_cv_ref (by omega), ← hr]; rfl) kk
theorem hl_put {i c k t q z : Nat} {ty : FieldType} {w : Value} {σ2 : hl_M} (hd : hl_d y.2.1 pc (.putfield i) 3 nx) (hf : hl_FP y.1.cls i c k ty) (hs : hl_shp q = (c, z)) (hc : c < 100) (ht : (hl_ftl c)[k]? = some t) (hn : narrow ty w = w) (hfit : fits ty w = true) (hcv : ∀ g, hl_cv g w = w)
    (h1 : ∀ g, hl_fv g σ2 q k t = w) (h2 : ∀ g j u, (hl_ftl c)[j]? = some u → j ≠ k → hl_fv g σ2 q j u = hl_fv g σ q j u) (h3 : ∀ a, a ≠ q → σ2.1 a = σ.1 a ∧ σ2.2 a = σ.2 a) (kk : hl_R X D y nx ls st σ2 v τ) : hl_R X D y pc ls (w :: .ref q :: st) σ v τ := by
  obtain ⟨hd, rfl⟩ := hd
  obtain ⟨C, T, N, ⟨g1, g2, ⟨ty0, g3⟩, g4, g5⟩, hk, ho, hl, hfin, hpf⟩ := hf
  intro g p l e R s m args below meth c' H locs cells slots Q la hC hI hL hret
  have hq : q < hl_n := hl_n_of hs (by omega)
  rw [List.map_cons, List.map_cons, hl_cv_ref (by have : hl_n = 114 := rfl; omega), hcv]
  refine va_put (C := C) (T := T) (N := N) (ref := C) (tys := hl_ty g) hC.1 hC.2.1 hC.2.2.2.2.1 g2 ty0 g3 g4 hC.2.2.2.1 hI.2.1 hI.1 hI.2.2.1 hI.2.2.2.1 q (by rw [hl_ws_get hq, hl_ent_o hs hc]) g1 k hk (hC.2.2.2.2.1 _ hl) (fun _ h => by rw [ho] at h; exact h) hfin hpf hn hfit (by rw [hl_fs_len, g5]; exact hk) hd ?_
  intro H1 locs1 hP hD hS
  rw [hl_fs_set ht (h1 g) (h2 g), ← hl_ent_o (g := g) (σ := σ2) hs hc, hl_ws_set hq rfl (fun a ha => hl_ent_ne (h3 a ha).1 (h3 a ha).2)] at hP hD
  exact kk g p l e R s m args below meth c' H1 locs1 cells slots Q la hC ⟨hP, hI.2.1, hD, hS, hI.2.2.2.2⟩ hL hret
theorem hl_fv_si {g : hl_G} {q k j t : Nat} {x : Int32} (h : j ≠ k) : hl_fv g (hl_si σ q k x) q j t = hl_fv g σ q j t := by
  simp only [hl_fv, hl_si_eq, pk_un h]
  rfl
theorem hl_fv_sl {g : hl_G} {q k j t : Nat} {x : Int64} (h : j ≠ k) : hl_fv g (hl_sl σ q k x) q j t = hl_fv g σ q j t := by
  simp only [hl_fv, hl_sl_eq, pk_uLn h]
  rfl
theorem hl_puti {i c k q z : Nat} {x : Int32} (hd : hl_d y.2.1 pc (.putfield i) 3 nx) (hf : hl_FP y.1.cls i c k .int) (hs : hl_shp q = (c, z)) (hc : c < 100) (ht : (hl_ftl c)[k]? = some 0) (kk : hl_R X D y nx ls st (hl_si σ q k x) v τ) : hl_R X D y pc ls (.int x :: .ref q :: st) σ v τ :=
  hl_put hd hf hs hc ht rfl rfl (fun _ => rfl) (fun g => by simp [hl_fv, hl_si_eq, pk_us]) (fun g j u _ hj => hl_fv_si hj) (fun a ha => ⟨hl_si_ne ha, rfl⟩) kk
theorem hl_putz {i c k q z : Nat} {x : Int32} (hd : hl_d y.2.1 pc (.putfield i) 3 nx) (hf : hl_FP y.1.cls i c k .boolean) (hs : hl_shp q = (c, z)) (hc : c < 100) (ht : (hl_ftl c)[k]? = some 3) (hx : x = 0 ∨ x = 1) (kk : hl_R X D y nx ls st (hl_si σ q k x) v τ) : hl_R X D y pc ls (.int x :: .ref q :: st) σ v τ :=
  hl_put hd hf hs hc ht (by rcases hx with rfl | rfl <;> decide) (by rcases hx with rfl | rfl <;> decide) (fun _ => rfl) (fun g => by simp [hl_fv, hl_si_eq, pk_us]) (fun g j u _ hj => hl_fv_si hj) (fun a ha => ⟨hl_si_ne ha, rfl⟩) kk
theorem hl_putl {i c k q z : Nat} {x : Int64} (hd : hl_d y.2.1 pc (.putfield i) 3 nx) (hf : hl_FP y.1.cls i c k .long) (hs : hl_shp q = (c, z)) (hc : c < 100) (ht : (hl_ftl c)[k]? = some 1) (kk : hl_R X D y nx ls st (hl_sl σ q k x) v τ) : hl_R X D y pc ls (.long x :: .ref q :: st) σ v τ :=
  hl_put hd hf hs hc ht rfl rfl (fun _ => rfl) (fun g => by simp [hl_fv, hl_sl_eq, pk_uLs]) (fun g j u _ hj => hl_fv_sl hj) (fun a ha => ⟨rfl, hl_sl_ne ha⟩) kk
/-! arrays of the world -/
theorem hl_iald {q n : Nat} {a : Int32} (hd : hl_d y.2.1 pc .iaload 1 nx) (hs : hl_shp q = (100, n)) (hb : vp_in a n) (kk : hl_R X D y nx ls (.int (σ.1 q a.toNatClampNeg) :: st) σ v τ) : hl_R X D y pc ls (.int a :: .ref q :: st) σ v τ := by
  obtain ⟨hd, rfl⟩ := hd
  intro g p l e R s m args below meth c H locs cells slots Q la hC hI hL hret
  have hq : q < hl_n := hl_n_of hs (by omega)
  rw [List.map_cons, List.map_cons, hl_cv_ref (by have : hl_n = 114 := rfl; omega)]
  exact va_iald (cl := hl_cl) (D := g.2.1) hC.1 hC.2.1 hI.2.1 hI.1 q 0 (by rw [hl_ws_get hq, hl_ent_i hs (by omega) (by omega)]) rfl hb hd (kk g p l e R s m args below meth c H locs cells slots Q la hC hI hL hret)
theorem hl_bald {q n : Nat} {a : Int32} (hd : hl_d y.2.1 pc .baload 1 nx) (hs : hl_shp q = (101, n)) (hb : vp_in a n) (kk : hl_R X D y nx ls (.int (σ.1 q a.toNatClampNeg) :: st) σ v τ) : hl_R X D y pc ls (.int a :: .ref q :: st) σ v τ := by
  obtain ⟨hd, rfl⟩ := hd
  intro g p l e R s m args below meth c H locs cells slots Q la hC hI hL hret
  have hq : q < hl_n := hl_n_of hs (by omega)
  rw [List.map_cons, List.map_cons, hl_cv_ref (by have : hl_n = 114 := rfl; omega)]
  exact va_bald (cl := hl_cl) (D := g.2.1) hC.1 hC.2.1 hI.2.1 hI.1 q 1 (by rw [hl_ws_get hq, hl_ent_i hs (by omega) (by omega)]) rfl hb hd (kk g p l e R s m args below meth c H locs cells slots Q la hC hI hL hret)
theorem hl_zald {q n : Nat} {a : Int32} (hd : hl_d y.2.1 pc .baload 1 nx) (hs : hl_shp q = (102, n)) (hb : vp_in a n) (kk : hl_R X D y nx ls (.int (σ.1 q a.toNatClampNeg) :: st) σ v τ) : hl_R X D y pc ls (.int a :: .ref q :: st) σ v τ := by
  obtain ⟨hd, rfl⟩ := hd
  intro g p l e R s m args below meth c H locs cells slots Q la hC hI hL hret
  have hq : q < hl_n := hl_n_of hs (by omega)
  rw [List.map_cons, List.map_cons, hl_cv_ref (by have : hl_n = 114 := rfl; omega)]
  exact va_zald (cl := hl_cl) (D := g.2.1) hC.1 hC.2.1 hI.2.1 hI.1 q 2 (by rw [hl_ws_get hq, hl_ent_i hs (by omega) (by omega)]) rfl hb hd (kk g p l e R s m args below meth c H locs cells slots Q la hC hI hL hret)
theorem hl_cald {q n : Nat} {a : Int32} (hd : hl_d y.2.1 pc .caload 1 nx) (hs : hl_shp q = (103, n)) (hb : vp_in a n) (kk : hl_R X D y nx ls (.int (σ.1 q a.toNatClampNeg) :: st) σ v τ) : hl_R X D y pc ls (.int a :: .ref q :: st) σ v τ := by
  obtain ⟨hd, rfl⟩ := hd
  intro g p l e R s m args below meth c H locs cells slots Q la hC hI hL hret
  have hq : q < hl_n := hl_n_of hs (by omega)
  rw [List.map_cons, List.map_cons, hl_cv_ref (by have : hl_n = 114 := rfl; omega)]
  exact va_cald (cl := hl_cl) (D := g.2.1) hC.1 hC.2.1 hI.2.1 hI.1 q 3 (by rw [hl_ws_get hq, hl_ent_i hs (by omega) (by omega)]) rfl hb hd (kk g p l e R s m args below meth c H locs cells slots Q la hC hI hL hret)
theorem hl_lald {q n : Nat} {a : Int32} (hd : hl_d y.2.1 pc .laload 1 nx) (hs : hl_shp q = (104, n)) (hb : vp_in a n) (kk : hl_R X D y nx ls (.long (σ.2 q a.toNatClampNeg) :: st) σ v τ) : hl_R X D y pc ls (.int a :: .ref q :: st) σ v τ := by
  obtain ⟨hd, rfl⟩ := hd
  intro g p l e R s m args below meth c H locs cells slots Q la hC hI hL hret
  have hq : q < hl_n := hl_n_of hs (by omega)
  rw [List.map_cons, List.map_cons, hl_cv_ref (by have : hl_n = 114 := rfl; omega)]
  exact va_lald (cl := hl_cl) (D := g.2.1) hC.1 hC.2.1 hI.2.1 hI.1 q 4 (by rw [hl_ws_get hq, hl_ent_l hs]) rfl hb hd (kk g p l e R s m args below meth c H locs cells slots Q la hC hI hL hret)
theorem hl_aald {q n : Nat} {a : Int32} (hd : hl_d y.2.1 pc .aaload 1 nx) (hs : hl_shp q = (105, n)) (hb : vp_in a n) (hm : q + n < 900) (kk : hl_R X D y nx ls (.ref (q + 1 + a.toNatClampNeg) :: st) σ v τ) : hl_R X D y pc ls (.int a :: .ref q :: st) σ v τ := by
  obtain ⟨hd, rfl⟩ := hd
  intro g p l e R s m args below meth c H locs cells slots Q la hC hI hL hret
  have hq : q < hl_n := hl_n_of hs (by omega)
  have hlt : a.toNatClampNeg < n := Nat.not_le.mp fun z => hb (Or.inr z)
  have hk := kk g p l e R s m args below meth c H locs cells slots Q la hC hI hL hret
  rw [List.map_cons, hl_cv_ref (by omega)] at hk
  rw [List.map_cons, List.map_cons, hl_cv_ref (by have : hl_n = 114 := rfl; omega)]
  have ha : (hl_ws g σ)[q]? = some (g.1 q, .inl (g.2.2.1 5, n, .inr (.inr (.inr (.inr (fun j => some (g.1 (q + 1 + j)))))))) := by rw [hl_ws_get hq, hl_ent_r hs]
  have ht : (hl_ty g)[5]? = some (g.2.2.1 5, .array .int) := rfl
  exact W.aald (v := .ref (g.1 (q + 1 + a.toNatClampNeg))) (ty := .array .int) hC.1 hC.2.1 (hI.1 q _ ha) ((hI.2.1.2 5 _ ht).1 n (fun j => va_rf (some (g.1 (q + 1 + j))))) rfl (fun z => by cases z) (by show ¬ (a < 0 ∨ (arrV _ _ _).slots.size ≤ _); rw [arrV_size]; exact hb) (by show (arrV _ _ _).slots[_]? = _; rw [arrV_read _ _ hlt]; rfl) rfl rfl hd hk
theorem hl_ent_set {g : hl_G} {σ2 : hl_M} {q : Nat} (hq : q < hl_n) {e : va_E} (he : hl_ent g σ2 q = e) (h3 : ∀ a, a ≠ q → σ2.1 a = σ.1 a ∧ σ2.2 a = σ.2 a) : (hl_ws g σ).set q (g.1 q, e) = hl_ws g σ2 := hl_ws_set hq he (fun a ha => hl_ent_ne (h3 a ha).1 (h3 a ha).2)
theorem hl_iast {q n : Nat} {a x : Int32} (hd : hl_d y.2.1 pc .iastore 1 nx) (hs : hl_shp q = (100, n)) (hb : vp_in a n) (kk : hl_R X D y nx ls st (hl_si σ q a.toNatClampNeg x) v τ) : hl_R X D y pc ls (.int x :: .int a :: .ref q :: st) σ v τ := by
  obtain ⟨hd, rfl⟩ := hd
  intro g p l e R s m args below meth c H locs cells slots Q la hC hI hL hret
  have hq : q < hl_n := hl_n_of hs (by omega)
  rw [List.map_cons, List.map_cons, List.map_cons, hl_cv_ref (by have : hl_n = 114 := rfl; omega)]
  refine va_iast (cl := hl_cl) (D := g.2.1) hC.1 hC.2.1 hI.2.1 hI.1 hI.2.2.1 hI.2.2.2.1 q 0 (by rw [hl_ws_get hq, hl_ent_i hs (by omega) (by omega)]) rfl hb hd ?_
  intro H1 locs1 hP hD hS
  rw [hl_ent_set (σ2 := hl_si σ q a.toNatClampNeg x) hq (by rw [hl_ent_i hs (by omega) (by omega), hl_si_eq]) (fun b hb => ⟨hl_si_ne hb, rfl⟩)] at hP hD
  exact kk g p l e R s m args below meth c H1 locs1 cells slots Q la hC ⟨hP, hI.2.1, hD, hS, hI.2.2.2.2⟩ hL hret
theorem hl_bast {q n : Nat} {a x : Int32} (hd : hl_d y.2.1 pc .bastore 1 nx) (hs : hl_shp q = (101, n)) (hb : vp_in a n) (kk : hl_R X D y nx ls st (hl_si σ q a.toNatClampNeg (vp_nar .byte x)) v τ) : hl_R X D y pc ls (.int x :: .int a :: .ref q :: st) σ v τ := by
  obtain ⟨hd, rfl⟩ := hd
  intro g p l e R s m args below meth c H locs cells slots Q la hC hI hL hret
  have hq : q < hl_n := hl_n_of hs (by omega)
  rw [List.map_cons, List.map_cons, List.map_cons, hl_cv_ref (by have : hl_n = 114 := rfl; omega)]
  refine va_bast (cl := hl_cl) (D := g.2.1) hC.1 hC.2.1 hI.2.1 hI.1 hI.2.2.1 hI.2.2.2.1 q 1 (by rw [hl_ws_get hq, hl_ent_i hs (by omega) (by omega)]) rfl hb hd ?_
  intro H1 locs1 hP hD hS
  rw [hl_ent_set (σ2 := hl_si σ q a.toNatClampNeg (vp_nar .byte x)) hq (by rw [hl_ent_i hs (by omega) (by omega), hl_si_eq]) (fun b hb => ⟨hl_si_ne hb, rfl⟩)] at hP hD
  exact kk g p l e R s m args below meth c H1 locs1 cells slots Q la hC ⟨hP, hI.2.1, hD, hS, hI.2.2.2.2⟩ hL hret
theorem hl_zast {q n : Nat} {a x : Int32} (hd : hl_d y.2.1 pc .bastore 1 nx) (hs : hl_shp q = (102, n)) (hb : vp_in a n) (kk : hl_R X D y nx ls st (hl_si σ q a.toNatClampNeg (vp_nar .boolean x)) v τ) : hl_R X D y pc ls (.int x :: .int a :: .ref q :: st) σ v τ := by
  obtain ⟨hd, rfl⟩ := hd
  intro g p l e R s m args below meth c H locs cells slots Q la hC hI hL hret
  have hq : q < hl_n := hl_n_of hs (by omega)
  rw [List.map_cons, List.map_cons, List.map_cons, hl_cv_ref (by have : hl_n = 114 := rfl; omega)]
  refine va_zast (cl := hl_cl) (D := g.2.1) hC.1 hC.2.1 hI.2.1 hI.1 hI.2.2.1 hI.2.2.2.1 q 2 (by rw [hl_ws_get hq, hl_ent_i hs (by omega) (by omega)]) rfl hb hd ?_
  intro H1 locs1 hP hD hS
  rw [hl_ent_set (σ2 := hl_si σ q a.toNatClampNeg (vp_nar .boolean x)) hq (by rw [hl_ent_i hs (by omega) (by omega), hl_si_eq]) (fun b hb => ⟨hl_si_ne hb, rfl⟩)] at hP hD
  exact kk g p l e R s m args below meth c H1 locs1 cells slots Q la hC ⟨hP, hI.2.1, hD, hS, hI.2.2.2.2⟩ hL hret
theorem hl_last {q n : Nat} {a : Int32} {x : Int64} (hd : hl_d y.2.1 pc .lastore 1 nx) (hs : hl_shp q = (104, n)) (hb : vp_in a n) (kk : hl_R X D y nx ls st (hl_sl σ q a.toNatClampNeg x) v τ) : hl_R X D y pc ls (.long x :: .int a :: .ref q :: st) σ v τ := by
  obtain ⟨hd, rfl⟩ := hd
  intro g p l e R s m args below meth c H locs cells slots Q la hC hI hL hret
  have hq : q < hl_n := hl_n_of hs (by omega)
  rw [List.map_cons, List.map_cons, List.map_cons, hl_cv_ref (by have : hl_n = 114 := rfl; omega)]
  refine va_last (cl := hl_cl) (D := g.2.1) hC.1 hC.2.1 hI.2.1 hI.1 hI.2.2.1 hI.2.2.2.1 q 4 (by rw [hl_ws_get hq, hl_ent_l hs]) rfl hb hd ?_
  intro H1 locs1 hP hD hS
  rw [hl_ent_set (g := g) (σ := σ) (σ2 := hl_sl σ q a.toNatClampNeg x) hq (by rw [hl_ent_l hs, hl_sl_eq]) (fun b hb => ⟨rfl, hl_sl_ne hb⟩)] at hP hD
  exact kk g p l e R s m args below meth c H1 locs1 cells slots Q la hC ⟨hP, hI.2.1, hD, hS, hI.2.2.2.2⟩ hL hret
theorem hl_alen {q k n : Nat} {x : Int32} (hd : hl_d y.2.1 pc .arraylength 1 nx) (hs : hl_shp q = (k, n)) (hk : 100 ≤ k ∧ k ≤ 103) (hx : Int32.ofNat n = x) (kk : hl_R X D y nx ls (.int x :: st) σ v τ) : hl_R X D y pc ls (.ref q :: st) σ v τ := by
  obtain ⟨hd, rfl⟩ := hd
  intro g p l e R s m args below meth c H locs cells slots Q la hC hI hL hret
  have hq : q < hl_n := hl_n_of hs (by omega)
  rw [List.map_cons, hl_cv_ref (by have : hl_n = 114 := rfl; omega)]
  have ht : (hl_ty g)[k - 100]? = some (g.2.2.1 (k - 100), [FieldType.int, .byte, .boolean, .char].getD (k - 100) .int) := by
    rcases (by omega : k = 100 ∨ k = 101 ∨ k = 102 ∨ k = 103) with rfl | rfl | rfl | rfl <;> rfl
  exact va_alen (cl := hl_cl) (D := g.2.1) hC.1 hC.2.1 hI.2.1 hI.1 q (k - 100) (by rw [hl_ws_get hq, hl_ent_i hs hk.1 hk.2]) ht hx hd (kk g p l e R s m args below meth c H locs cells slots Q la hC hI hL hret)
theorem hl_alenl {q n : Nat} {x : Int32} (hd : hl_d y.2.1 pc .arraylength 1 nx) (hs : hl_shp q = (104, n)) (hx : Int32.ofNat n = x) (kk : hl_R X D y nx ls (.int x :: st) σ v τ) : hl_R X D y pc ls (.ref q :: st) σ v τ := by
  obtain ⟨hd, rfl⟩ := hd
  intro g p l e R s m args below meth c H locs cells slots Q la hC hI hL hret
  have hq : q < hl_n := hl_n_of hs (by omega)
  rw [List.map_cons, hl_cv_ref (by have : hl_n = 114 := rfl; omega)]
  exact va_alen (cl := hl_cl) (D := g.2.1) (ty := .long) hC.1 hC.2.1 hI.2.1 hI.1 q 4 (by rw [hl_ws_get hq, hl_ent_l hs]) rfl hx hd (kk g p l e R s m args below meth c H locs cells slots Q la hC hI hL hret)
/-! arrays that nobody writes -/
theorem hl_ra_lt {q : Nat} {ty : FieldType} {n : Nat} {f : Nat → Int32} (h : hl_ra X q = some (ty, n, f)) : q < 900 := by
  have : hl_nS = 38 := rfl
  unfold hl_ra at h
  split at h
  · omega
  · split at h
    · omega
    · split at h
      · omega
      · split at h
        · omega
        · cases h
theorem hl_ialR {q n : Nat} {f : Nat → Int32} {a : Int32} (hd : hl_d y.2.1 pc .iaload 1 nx) (hs : hl_ra X q = some (.int, n, f)) (hb : vp_in a n) (kk : hl_R X D y nx ls (.int (f a.toNatClampNeg) :: st) σ v τ) : hl_R X D y pc ls (.int a :: .ref q :: st) σ v τ := by
  obtain ⟨hd, rfl⟩ := hd
  intro g p l e R s m args below meth c H locs cells slots Q la hC hI hL hret
  rw [List.map_cons, List.map_cons, hl_cv_ref (by have := hl_ra_lt hs; omega)]
  exact va_ti (f := fun j => .int (f j)) hC.1 hC.2.1 (hI.2.2.2.2.1.2.2.1 q _ _ _ hs) hI.2.2.2.1 hb rfl hd (kk g p l e R s m args below meth c H locs cells slots Q la hC hI hL hret)
theorem hl_balR {q n : Nat} {f : Nat → Int32} {a : Int32} (hd : hl_d y.2.1 pc .baload 1 nx) (hs : hl_ra X q = some (.byte, n, f)) (hb : vp_in a n) (kk : hl_R X D y nx ls (.int (f a.toNatClampNeg) :: st) σ v τ) : hl_R X D y pc ls (.int a :: .ref q :: st) σ v τ := by
  obtain ⟨hd, rfl⟩ := hd
  intro g p l e R s m args below meth c H locs cells slots Q la hC hI hL hret
  rw [List.map_cons, List.map_cons, hl_cv_ref (by have := hl_ra_lt hs; omega)]
  exact va_tb (f := fun j => .int (f j)) hC.1 hC.2.1 (hI.2.2.2.2.1.2.2.1 q _ _ _ hs) hI.2.2.2.1 hb rfl hd (kk g p l e R s m args below meth c H locs cells slots Q la hC hI hL hret)
theorem hl_alenR {q n : Nat} {ty : FieldType} {f : Nat → Int32} {x : Int32} (hd : hl_d y.2.1 pc .arraylength 1 nx) (hs : hl_ra X q = some (ty, n, f)) (hx : Int32.ofNat n = x) (kk : hl_R X D y nx ls (.int x :: st) σ v τ) : hl_R X D y pc ls (.ref q :: st) σ v τ := by
  obtain ⟨hd, rfl⟩ := hd
  intro g p l e R s m args below meth c H locs cells slots Q la hC hI hL hret
  rw [List.map_cons, hl_cv_ref (by have := hl_ra_lt hs; omega)]
  exact va_tlen (f := fun j => .int (f j)) hC.1 hC.2.1 (hI.2.2.2.2.1.2.2.1 q _ _ _ hs) hI.2.2.2.1 hx hd (kk g p l e R s m args below meth c H locs cells slots Q la hC hI hL hret)
/-! strings and statics -/
theorem hl_getSC {i j : Nat} (hd : hl_d y.2.1 pc (.getfield i) 3 nx) (hf : Cond.fieldLink y.1.cls i "java/lang/String" "coder" "B" ∈ hl_T) (hj : j < hl_nS) (kk : hl_R X D y nx ls (.int 0 :: st) σ v τ) : hl_R X D y pc ls (.ref (200 + j) :: st) σ v τ := by
  obtain ⟨hd, rfl⟩ := hd
  intro g p l e R s m args below meth c H locs cells slots Q la hC hI hL hret
  rw [List.map_cons, hl_cv_ref (by have : hl_nS = 38 := rfl; omega)]
  exact vk_getf hC.1 hC.2.1 (hI.2.2.2.2.1.2.1 j hj).2.2.1 hI.2.2.2.1 hC.2.2.2.1 (hC.2.2.2.2.1 _ hf) (fun _ h => h) hd (kk g p l e R s m args below meth c H locs cells slots Q la hC hI hL hret)
theorem hl_getSV {i j : Nat} (hd : hl_d y.2.1 pc (.getfield i) 3 nx) (hf : Cond.fieldLink y.1.cls i "java/lang/String" "value" "[B" ∈ hl_T) (hj : j < hl_nS) (kk : hl_R X D y nx ls (.ref (300 + j) :: st) σ v τ) : hl_R X D y pc ls (.ref (200 + j) :: st) σ v τ := by
  obtain ⟨hd, rfl⟩ := hd
  intro g p l e R s m args below meth c H locs cells slots Q la hC hI hL hret
  have hk := kk g p l e R s m args below meth c H locs cells slots Q la hC hI hL hret
  rw [List.map_cons, hl_cv_ref (by have : hl_nS = 38 := rfl; omega)] at hk ⊢
  exact vk_getf hC.1 hC.2.1 (hI.2.2.2.2.1.2.1 j hj).2.2.2 hI.2.2.2.1 hC.2.2.2.1 (hC.2.2.2.2.1 _ hf) (fun _ h => h) hd hk
theorem hl_gsA {i : Nat} (hd : hl_d y.2.1 pc (.getstatic i) 3 nx) (hf : Cond.fieldLink y.1.cls i "HymnLamps$Ground" "ACROSS" "[I" ∈ hl_T) (kk : hl_R X D y nx ls (.ref 400 :: st) σ v τ) : hl_R X D y pc ls st σ v τ := by
  obtain ⟨hd, rfl⟩ := hd
  intro g p l e R s m args below meth c H locs cells slots Q la hC hI hL hret
  exact va_gets hC.1 hC.2.1 hI.2.2.2.2.1.2.2.2.1 hI.2.2.2.1 hC.2.2.2.1 (hC.2.2.2.2.1 _ hf) (fun _ h => h) hd (kk g p l e R s m args below meth c H locs cells slots Q la hC hI hL hret)
theorem hl_gsD {i : Nat} (hd : hl_d y.2.1 pc (.getstatic i) 3 nx) (hf : Cond.fieldLink y.1.cls i "HymnLamps$Ground" "DOWN" "[I" ∈ hl_T) (kk : hl_R X D y nx ls (.ref 401 :: st) σ v τ) : hl_R X D y pc ls st σ v τ := by
  obtain ⟨hd, rfl⟩ := hd
  intro g p l e R s m args below meth c H locs cells slots Q la hC hI hL hret
  exact va_gets hC.1 hC.2.1 hI.2.2.2.2.1.2.2.2.2.1 hI.2.2.2.1 hC.2.2.2.1 (hC.2.2.2.2.1 _ hf) (fun _ h => h) hd (kk g p l e R s m args below meth c H locs cells slots Q la hC hI hL hret)
theorem hl_gsC {i : Nat} (hd : hl_d y.2.1 pc (.getstatic i) 3 nx) (hf : Cond.fieldLink y.1.cls i "java/lang/String" "COMPACT_STRINGS" "Z" ∈ hl_T) (kk : hl_R X D y nx ls (.int 1 :: st) σ v τ) : hl_R X D y pc ls st σ v τ := by
  obtain ⟨hd, rfl⟩ := hd
  intro g p l e R s m args below meth c H locs cells slots Q la hC hI hL hret
  exact va_gets hC.1 hC.2.1 hI.2.2.2.2.1.2.2.2.2.2.1 hI.2.2.2.1 hC.2.2.2.1 (hC.2.2.2.2.1 _ hf) (fun _ h => h) hd (kk g p l e R s m args below meth c H locs cells slots Q la hC hI hL hret)
theorem hl_gsF {i : Nat} (hd : hl_d y.2.1 pc (.getstatic i) 3 nx) (hf : Cond.fieldLink y.1.cls i "jdk/internal/util/Preconditions" "SIOOBE_FORMATTER" "Ljava/util/function/BiFunction;" ∈ hl_T) (kk : hl_R X D y nx ls (.ref 999 :: st) σ v τ) : hl_R X D y pc ls st σ v τ := by
  obtain ⟨hd, rfl⟩ := hd
  intro g p l e R s m args below meth c H locs cells slots Q la hC hI hL hret
  exact va_gets hC.1 hC.2.1 hI.2.2.2.2.1.2.2.2.2.2.2.1 hI.2.2.2.1 hC.2.2.2.1 (hC.2.2.2.2.1 _ hf) (fun _ h => h) hd (kk g p l e R s m args below meth c H locs cells slots Q la hC hI hL hret)
/-! ends -/
theorem hl_vret (hd : hl_d y.2.1 pc .return_ 1 nx) (hy : y.2.2.2 = none) : hl_R X D y pc ls [] σ none σ := by
  obtain ⟨hd, rfl⟩ := hd
  intro g p l e R s m args below meth c H locs cells slots Q la hC hI hL hret
  exact hret pc [] H locs la (Or.inl ⟨hy, hd, rfl, rfl⟩) hI
theorem hl_lret {x : Int64} (hd : hl_d y.2.1 pc .lreturn 1 nx) (hy : y.2.2.2 = some .long) : hl_R X D y pc ls [.long x] σ (some (.long x)) σ := by
  obtain ⟨hd, rfl⟩ := hd
  intro g p l e R s m args below meth c H locs cells slots Q la hC hI hL hret
  exact hret pc [.long x] H locs la (Or.inr (Or.inl ⟨x, hy, hd, rfl, rfl⟩)) hI
theorem hl_iret {x : Int32} (hd : hl_d y.2.1 pc .ireturn 1 nx) (hy : y.2.2.2 = some .int) : hl_R X D y pc ls [.int x] σ (some (.int x)) σ := by
  obtain ⟨hd, rfl⟩ := hd
  intro g p l e R s m args below meth c H locs cells slots Q la hC hI hL hret
  exact hret pc [.int x] H locs la (Or.inr (Or.inr ⟨x, .int, hy, Or.inl rfl, hd, rfl, rfl⟩)) hI
theorem hl_zret {x z : Int32} (hd : hl_d y.2.1 pc .ireturn 1 nx) (hy : y.2.2.2 = some .boolean) (hz : vp_nar .boolean x = z) : hl_R X D y pc ls [.int x] σ (some (.int z)) σ := by
  obtain ⟨hd, rfl⟩ := hd
  subst hz
  intro g p l e R s m args below meth c H locs cells slots Q la hC hI hL hret
  exact hret pc [.int x] H locs la (Or.inr (Or.inr ⟨x, .boolean, hy, Or.inr (Or.inl rfl), hd, rfl, rfl⟩)) hI
theorem hl_bret {x z : Int32} (hd : hl_d y.2.1 pc .ireturn 1 nx) (hy : y.2.2.2 = some .byte) (hz : vp_nar .byte x = z) : hl_R X D y pc ls [.int x] σ (some (.int z)) σ := by
  obtain ⟨hd, rfl⟩ := hd
  subst hz
  intro g p l e R s m args below meth c H locs cells slots Q la hC hI hL hret
  exact hret pc [.int x] H locs la (Or.inr (Or.inr ⟨x, .byte, hy, Or.inr (Or.inr (Or.inl rfl)), hd, rfl, rfl⟩)) hI
theorem hl_cret {x z : Int32} (hd : hl_d y.2.1 pc .ireturn 1 nx) (hy : y.2.2.2 = some .char) (hz : vp_nar .char x = z) : hl_R X D y pc ls [.int x] σ (some (.int z)) σ := by
  obtain ⟨hd, rfl⟩ := hd
  subst hz
  intro g p l e R s m args below meth c H locs cells slots Q la hC hI hL hret
  exact hret pc [.int x] H locs la (Or.inr (Or.inr ⟨x, .char, hy, Or.inr (Or.inr (Or.inr rfl)), hd, rfl, rfl⟩)) hI
end HLH
/-! calls -/
section HLN
variable {p : Program} {l : Launch} {e : Env} {R : Room} {s : State} {m : MethodId} {args : Array Value} {below : List Frame} {meth : Method} {c : Code} {H : Heap} {locs : List Loc} {cells slots : Nat}
theorem hl_nret {cc : ByteArray} {Qc : Array Value → State → Outcome → State → Prop} {free : Addr → Prop} {x : Int32} {w : Value} {ty : FieldType} (hexec : p.tables.exec = Jvm.exec) (hb : c.code = cc) (hr : meth.sig.returnType = some ty) (hn : narrow ty (.int x) = w)
    (hq : ∀ t : State, t.heap = H → s.WarmedH t.vm → Qc args s (.returned (some w)) t) (hf : ∀ q ∈ locs, free q.base)
    {pc : Nat} {ls : Array Slot} (hdg : decode cc pc = .ok (.ireturn, 1)) (hlocks : meth.locks = false) : W p l e R s m args below meth c H locs cells slots (MQ below Qc args s cells slots free) (F0 m pc ls [.int x]) := by
  intro T hT X
  obtain ⟨fs, hret, hrun, hended, hW, hframe⟩ := X.leave (v := some w) (hlocks := hlocks) (fun h => by rw [hr] at h; cases h)
  have hmeth' : T.vm.method? m = some meth := X.method'
  refine ⟨T.setFrames fs, ?_, .returned (some w), hrun, hended, hq _ hT hW, locs, ⟨⟨_, rfl⟩, hW, hframe⟩, hf⟩
  jvm_step X.here [X.here.top, hexec, hb, hdg, hmeth', hr, hn]
  (try refine ⟨rfl, ?_⟩); (try refine ⟨rfl, ?_⟩)
  first | (intro acts; rw [hret _ acts rfl rfl rfl]) | rw [hret _ _ rfl rfl rfl]
  exact Steps.refl _
end HLN
/-- method z, of n parameters: what calls ask of it -/
def hl_Z (z : hl_Y) (n : Nat) : Prop := Cond.code z.1 z.2.1 z.2.2.1 z.2.2.2 ∈ hl_T ∧ plainFor z.1 = true ∧ z.1.cls ≠ "java/lang/invoke/MethodHandle" ∧ z.1.cls ≠ "java/lang/invoke/VarHandle" ∧ (parseMethodDescriptor z.1.desc).map (fun d => d.parameters.length) = some n ∧ z.2.2.1 ≤ 45 ∧ Cond.initialized z.1.cls ∈ hl_T
def hl_rm (D : Nat) : Room := { frames := D, cells := 0, slots := 0, locals := (D + 1) * 64 }
def hl_W (z : hl_Y) : List Cond := Cond.code z.1 z.2.1 z.2.2.1 z.2.2.2 :: hl_T
def hl_at (X : hl_X) (g : hl_G) (σ : hl_M) (U : State) : Prop := va_P g.2.1 hl_cl (hl_ws g σ) U.heap ∧ va_K g.2.1 hl_cl (hl_ty g) U ∧ va_D (hl_A g) (hl_ws g σ) ∧ hl_RO X g U U.heap
def hl_Qc (g : hl_G) (τ : hl_M) (v : Option Value) : Array Value → State → Outcome → State → Prop := fun _ st oc t => oc = .returned v ∧ va_P g.2.1 hl_cl (hl_ws g τ) t.heap ∧ va_F (hl_A g) st t
theorem hl_args_cv {g : hl_G} (hg : g.2.2.2.category = 1) : ∀ (av : List Value) (i : Nat), lv_args i (av.map (hl_cv g)) = hl_cvl g (lv_args i av) := by
  intro av
  induction av with
  | nil => intro i; rfl
  | cons a r ih =>
    intro i
    simp only [List.map_cons, lv_args, hl_cv_cat hg, ih]
theorem hl_sl_cv {g : hl_G} (hg : g.2.2.2.category = 1) (av : List Value) : (lg_sl (av.map (hl_cv g))).length = (lg_sl av).length := by
  induction av with
  | nil => rfl
  | cons a r ih =>
    have h1 : lg_sl ((a :: r).map (hl_cv g)) = (if (hl_cv g a).category = 2 then [Slot.val (hl_cv g a), .second] else [.val (hl_cv g a)]) ++ lg_sl (r.map (hl_cv g)) := by simp [lg_sl]
    have h2 : lg_sl (a :: r) = (if a.category = 2 then [Slot.val a, .second] else [.val a]) ++ lg_sl r := by simp [lg_sl]
    rw [h1, h2, hl_cv_cat hg, List.length_append, List.length_append, ih]
    split <;> rfl
theorem hl_goodIn {ws : List Cond} (h : ∀ w ∈ ws, w ∈ hl_T) : GoodIn hl_T ws := fun w hw => ⟨h w hw, good_of_word (List.mem_filter.mp (h w hw)).2⟩
theorem hl_met {X : hl_X} {D n : Nat} {z : hl_Y} {av : List Value} {σ τ : hl_M} {v : Option Value} (l : Launch) (g : hl_G) (hz : hl_Z z n) (hav : (lg_sl av).length ≤ z.2.2.1) (k : hl_R X D z 0 (lv_args 0 av) [] σ v τ) :
    Met l z.1 (hl_W z) (hl_rm D) (va_Pc (av.map (hl_cv g)) (hl_at X g σ)) (hl_Qc g τ v) 0 0 (hl_A g) := by
  refine va_MetF (cc := z.2.1) (maxL := z.2.2.1) (ret := z.2.2.2) hz.2.1 rfl ?_
  intro p e s m args below meth c s₁ B hml hv
  obtain ⟨rfl, hP, hK, hD, hRO⟩ := hv
  have hg := hRO.1
  have hts := atoms_spec (ws := hl_W z) B.pre
  have hown : s.vm.findClass z.1.cls = some m.cls := findClass_of_methodNamed B.named
  rw [lg_entry_eq]
  have hl := lv_entry (av.map (hl_cv g)) (n := z.2.2.1) (by rw [hl_sl_cv hg]; exact hav)
  rw [hl_args_cv hg] at hl
  refine k g p l e _ s m _ below meth c s.heap [] 0 0 _ _ ⟨B.exec, B.bytes, hml, hown, fun w hw => hts w (List.mem_cons_of_mem _ hw), Nat.le_refl _, Nat.le_refl _⟩ ⟨hP, hK, hD, va_S.rf, hRO, Nat.le_refl _, Nat.le_refl _⟩ hl ?_
  intro pc' st' H' locs' la' hrt hI
  have post : ∀ t : State, t.heap = H' → hl_Qc g τ v (av.map (hl_cv g)).toArray s (.returned v) t := fun t ht => ⟨rfl, by rw [ht]; exact hI.1, hI.2.2.2.1.F ht⟩
  rcases hrt with ⟨h1, h2, h3, h4⟩ | ⟨x, h1, h2, h3, h4⟩ | ⟨x, ty, h1, h0, h2, h3, h4⟩
  · subst h3; subst h4
    exact W.vret B.exec B.bytes (B.returns.trans h1) (fun t ht _ => post t ht) hI.2.2.2.1.2.2 h2 B.notSynchronized
  · subst h3; subst h4
    exact W.lret B.exec B.bytes (B.returns.trans h1) (fun t ht _ => post t ht) hI.2.2.2.1.2.2 h2 B.notSynchronized
  · subst h3; subst h4
    refine hl_nret B.exec B.bytes (B.returns.trans h1) ?_ (fun t ht _ => post t ht) hI.2.2.2.1.2.2 h2 B.notSynchronized
    rcases h0 with rfl | rfl | rfl | rfl <;> rfl
section HLK
variable {X : hl_X} {D : Nat} {y z : hl_Y} {pc nx : Nat} {ls : List (Nat × Value)} {st av : List Value} {σ σ1 τ : hl_M} {v v1 : Option Value}
theorem hl_ofrun {p : Program} {l : Launch} {e : Env} {R : Room} {s : State} {m : MethodId} {args : Array Value} {below : List Frame} {meth : Method} {c : Code} {H : Heap} {locs : List Loc} {cells slots : Nat} {Q : State → Prop} {g : hl_G} {la : Array Slot} {st0 rest : List Value} {a : Array Value}
    (hr : va_Run p l e R s m args below meth c H locs cells slots 0 0 (F0 m pc la st0) rest (hl_Qc g σ1 v1 a) (hl_A g)) (hI : hl_I X g σ R s H locs cells slots)
    (kk : ∀ (H1 : Heap) (locs1 : List Loc), hl_I X g σ1 R s H1 locs1 cells slots → W p l e R s m args below meth c H1 locs1 cells slots Q (F0 m (pc + 3) la (v1.toList ++ rest))) : W p l e R s m args below meth c H locs cells slots Q (F0 m pc la st0) := by
  intro T hT Y
  obtain ⟨w, st₀, t, T', L, h0, Y', hL, e1, e2, ⟨hv, hp, hz, hk⟩, stp⟩ := hr T hT Y
  cases hv
  rw [h0] at hz hk
  obtain ⟨hP, hK, hD, hS, hRO, hc⟩ := hI
  have hD1 : va_D (hl_A g) (hl_ws g σ1) := hl_ws_ref.mpr (hl_ws_ref.mp hD)
  obtain ⟨t2, a1, b1⟩ := kk T'.heap (locs ++ L) ⟨by rw [e1]; exact hp, hK, hD1, ⟨Nat.le_trans hS.1 (by rw [e1]; exact hz), fun q h1 h2 => by rw [e1, hk q (Nat.lt_of_lt_of_le h1 hS.1) h2]; exact hS.2.1 q h1 h2, fun q hq => by
      rcases List.mem_append.mp hq with h | h
      · exact hS.2.2 q h
      · exact hL q h⟩, hRO, hc⟩ T' rfl Y'
  exact ⟨t2, stp t2 a1, b1⟩
theorem hl_at_of {p : Program} {R : Room} {s : State} {H : Heap} {locs : List Loc} {cells slots : Nat} {g : hl_G} (hI : hl_I X g σ R s H locs cells slots) : ∀ U : State, U.heap = H → s.WarmedH U.vm → hl_at X g σ U := by
  intro U hU hW
  obtain ⟨hP, hK, hD, hS, hRO, hc⟩ := hI
  exact ⟨by rw [hU]; exact hP, va_K.moved hW.alike hK, hD, by rw [hU]; exact (hRO.moved hW).kept hS.2.1⟩
theorem hl_at_calling {g : hl_G} {U : State} {f : JFrame} {mk : MethodId} {a : Array Value} (h : hl_at X g σ U) : hl_at X g σ (U.calling f mk a) :=
  ⟨h.1, va_K.moved (u := U) (U := U.calling f mk a) (Vm.Alike.refl U.vm) h.2.1, h.2.2.1, by
    have h1 : hl_RO X g U U.heap := h.2.2.2
    obtain ⟨h0, h1, h2, h3, h4, h5, h6, h7⟩ := h1
    have ha : U.vm.Alike (U.calling f mk a).vm := Vm.Alike.refl U.vm
    refine ⟨h0, fun j hj => ?_, fun q ty N f hq => (h2 q ty N f hq).moved ha, h3.moved ha, h4.moved ha, h5.moved ha, h6.moved ha, fun o i x h hw => va_Nw.same rfl rfl (h7 o i x h hw)⟩
    obtain ⟨b1, b2, b3, b4⟩ := h1 j hj
    exact ⟨b1.same rfl, b2.moved ha, b3.moved ha, b4.moved ha⟩⟩
theorem hl_callS {i n : Nat} (hd : hl_d y.2.1 pc (.invokestatic i) 3 nx) (hl : Cond.methodLink y.1.cls i z.1 ∈ hl_T) (hs : Cond.static z.1 ∈ hl_T) (hz : hl_Z z n) (hn : av.length = n) (hav : (lg_sl av).length ≤ z.2.2.1) (hst : (st.map fun v => v.category).sum ≤ 8) (k1 : hl_R X D z 0 (lv_args 0 av) [] σ v1 σ1) (hv : ∀ g, v1.toList.map (hl_cv g) = v1.toList) (kk : hl_R X (D + 1) y nx ls (v1.toList ++ st) σ1 v τ) : hl_R X (D + 1) y pc ls (av.reverse ++ st) σ v τ := by
  obtain ⟨hd, rfl⟩ := hd
  intro g p l e R s m args below meth c H locs cells slots Q la hC hI hL hret
  have hg := hI.2.2.2.2.1.1
  have hts := hC.2.2.2.2.1
  refine hl_ofrun (g := g) (va_runS (As := av.map (hl_cv g)) (rest := st.map (hl_cv g)) ⟨hC.1, hC.2.1, hC.2.2.1, hC.2.2.2.1, hts⟩ (hl_met l g hz hav k1)
    ⟨callB_of (ws' := hl_T) n hts (hl_goodIn (fun w hw => by rcases List.mem_cons.mp hw with rfl | hw; exact hz.1; exact hw)) rfl rfl rfl (hts _ hz.2.2.2.2.2.2) (hts _ hl) ⟨hz.2.2.1, hz.2.2.2.1, hz.2.2.2.2.1⟩ ⟨hC.2.2.2.2.2.1, by have := hC.2.2.2.2.2.2; have := hz.2.2.2.2.2.1; show 8 + (z.2.2.1 + 11) + (D + 1) * 64 ≤ R.locals; omega⟩, hts _ hs⟩
    ⟨fun a U f mk q => ⟨q.1, hl_at_calling q.2⟩, fun U hU hW => ⟨rfl, hl_at_of (p := p) hI U hU hW⟩⟩ rfl (by rw [List.length_map]; exact hn) hL.1 (by simp [List.map_append]) (lv_room (by rw [List.map_map]; simp only [Function.comp_def, hl_cv_cat hg]; exact hst)) hd ⟨hI.2.2.2.2.2.1, hI.2.2.2.2.2.2⟩) hI ?_
  intro H1 locs1 hI1
  have h2 := kk g p l e R s m args below meth c H1 locs1 cells slots Q la hC hI1 hL hret
  rw [List.map_append, hv] at h2
  exact h2
theorem hl_callN {i n : Nat} {host : String} (hd : hl_d y.2.1 pc (.invokestatic i) 3 nx) (hl : Cond.methodLinkNest y.1.cls i z.1 host ∈ tables_1) (hs : Cond.static z.1 ∈ hl_T) (hz : hl_Z z n) (hn : av.length = n) (hav : (lg_sl av).length ≤ z.2.2.1) (hst : (st.map fun v => v.category).sum ≤ 8) (k1 : hl_R X D z 0 (lv_args 0 av) [] σ v1 σ1) (hv : ∀ g, v1.toList.map (hl_cv g) = v1.toList) (kk : hl_R X (D + 1) y nx ls (v1.toList ++ st) σ1 v τ) : hl_R X (D + 1) y pc ls (av.reverse ++ st) σ v τ := by
  obtain ⟨hd, rfl⟩ := hd
  intro g p l e R s m args below meth c H locs cells slots Q la hC hI hL hret
  have hg := hI.2.2.2.2.1.1
  have hts := hC.2.2.2.2.1
  refine hl_ofrun (g := g) (va_runSN (As := av.map (hl_cv g)) (rest := st.map (hl_cv g)) ⟨hC.1, hC.2.1, hC.2.2.1, hC.2.2.2.1, hts⟩ (hl_met l g hz hav k1)
    ⟨va_cnB (host := host) (ws' := hl_T) n hts (hl_goodIn (fun w hw => by rcases List.mem_cons.mp hw with rfl | hw; exact hz.1; exact hw)) rfl rfl rfl (hI.2.2.2.2.1.2.2.2.2.2.2.2 _ _ _ _ hl) (hts _ hz.2.2.2.2.2.2) ⟨hz.2.2.1, hz.2.2.2.1, hz.2.2.2.2.1⟩ ⟨hC.2.2.2.2.2.1, by have := hC.2.2.2.2.2.2; have := hz.2.2.2.2.2.1; show 8 + (z.2.2.1 + 11) + (D + 1) * 64 ≤ R.locals; omega⟩, hts _ hs, trivial⟩
    ⟨fun a U f mk q => ⟨q.1, hl_at_calling q.2⟩, fun U hU hW => ⟨rfl, hl_at_of (p := p) hI U hU hW⟩⟩ rfl (by rw [List.length_map]; exact hn) hL.1 (by simp [List.map_append]) (lv_room (by rw [List.map_map]; simp only [Function.comp_def, hl_cv_cat hg]; exact hst)) hd ⟨hI.2.2.2.2.2.1, hI.2.2.2.2.2.2⟩) hI ?_
  intro H1 locs1 hI1
  have h2 := kk g p l e R s m args below meth c H1 locs1 cells slots Q la hC hI1 hL hret
  rw [List.map_append, hv] at h2
  exact h2
/-- the receiver: an object of the world, or a string constant -/
def hl_rc (q : Nat) (C : String) : Prop := (∃ (c z : Nat) (T : u_T) (N : Nat), hl_shp q = (c, z) ∧ c < 100 ∧ hl_cl[c]? = some (C, T, N)) ∨ (∃ j, j < hl_nS ∧ q = 200 + j ∧ C = "java/lang/String")
theorem hl_recv {R : Room} {s : State} {H : Heap} {locs : List Loc} {cells slots : Nat} {g : hl_G} {q : Nat} {C : String} (hr : hl_rc q C) (hI : hl_I X g σ R s H locs cells slots) : ¬ q = 999 ∧ ∃ cellB : Cell, H[g.1 q]? = some cellB ∧ cellB.vm.isStatics = false ∧ s.vm.findClass C = some cellB.cls := by
  rcases hr with ⟨c, z, T, N, h1, h2, h3⟩ | ⟨j, h1, rfl, rfl⟩
  · have hq : q < hl_n := hl_n_of h1 (by omega)
    exact ⟨by have : hl_n = 114 := rfl; omega, va_recv (q := (C, T, N)) hI.2.1 hI.1 h3 (by rw [hl_ws_get hq, hl_ent_o h1 h2])⟩
  · refine ⟨by have : hl_nS = 38 := rfl; omega, ?_⟩
    obtain ⟨cell, a1, a2, a3, a4⟩ := ((hI.2.2.2.2.1.2.1 j h1).2.1).kept hI.2.2.2.1.2.1
    exact ⟨cell, a1, a2, a3⟩
theorem hl_callV {i n q : Nat} (hd : hl_d y.2.1 pc (.invokevirtual i) 3 nx) (hl : Cond.methodLink y.1.cls i z.1 ∈ hl_T) (hi : Cond.instanceMethod z.1 ∈ hl_T) (hse : Cond.selects z.1.cls z.1 z.1 ∈ hl_T) (hz : hl_Z z n) (hn : av.length = n) (hav : (lg_sl (.ref q :: av)).length ≤ z.2.2.1) (hst : (st.map fun v => v.category).sum ≤ 8) (hrc : hl_rc q z.1.cls) (k1 : hl_R X D z 0 (lv_args 0 (.ref q :: av)) [] σ v1 σ1) (hv : ∀ g, v1.toList.map (hl_cv g) = v1.toList) (kk : hl_R X (D + 1) y nx ls (v1.toList ++ st) σ1 v τ) : hl_R X (D + 1) y pc ls (av.reverse ++ .ref q :: st) σ v τ := by
  obtain ⟨hd, rfl⟩ := hd
  intro g p l e R s m args below meth c H locs cells slots Q la hC hI hL hret
  have hg := hI.2.2.2.2.1.1
  have hts := hC.2.2.2.2.1
  obtain ⟨hq9, hcell⟩ := hl_recv hrc hI
  have hm := hl_met l g hz hav k1
  rw [List.map_cons, hl_cv_ref hq9] at hm
  refine hl_ofrun (g := g) (va_runV (C := z.1.cls) (b := g.1 q) (As := av.map (hl_cv g)) (rest := st.map (hl_cv g)) ⟨hC.1, hC.2.1, hC.2.2.1, hC.2.2.2.1, hts⟩ hm
    ⟨callB_of (ws' := hl_T) n hts (hl_goodIn (fun w hw => by rcases List.mem_cons.mp hw with rfl | hw; exact hz.1; exact hw)) rfl rfl rfl (hts _ hz.2.2.2.2.2.2) (hts _ hl) ⟨hz.2.2.1, hz.2.2.2.1, hz.2.2.2.2.1⟩ ⟨hC.2.2.2.2.2.1, by have := hC.2.2.2.2.2.2; have := hz.2.2.2.2.2.1; show 8 + (z.2.2.1 + 11) + (D + 1) * 64 ≤ R.locals; omega⟩, hts _ hi, hts _ hse⟩
    ⟨fun a U f mk q => ⟨q.1, hl_at_calling q.2⟩, hcell, fun U hU hW => ⟨rfl, hl_at_of (p := p) hI U hU hW⟩⟩ rfl (by rw [List.length_map]; exact hn) hL.1 (by simp [List.map_append, hl_cv_ref hq9]) (lv_room (by rw [List.map_map]; simp only [Function.comp_def, hl_cv_cat hg]; exact hst)) hd ⟨hI.2.2.2.2.2.1, hI.2.2.2.2.2.2⟩) hI ?_
  intro H1 locs1 hI1
  have h2 := kk g p l e R s m args below meth c H1 locs1 cells slots Q la hC hI1 hL hret
  rw [List.map_append, hv] at h2
  exact h2
end HLK
