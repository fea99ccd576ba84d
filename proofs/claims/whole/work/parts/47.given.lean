/-! what the Statement gives of the start: strings, the two tables, statics -/
def hl_gst (q : String × Nat × String × List Int32) : List Cond :=
  Cond.exactly (Term.string q.1 q.2.1) "java/lang/String" :: Cond.eq (.field (.string q.1 q.2.1) "java/lang/String" "coder" "B") (.int 0) :: Cond.arrayOf (.field (.string q.1 q.2.1) "java/lang/String" "value" "[B") .byte ::
  Cond.eq (.length (.field (.string q.1 q.2.1) "java/lang/String" "value" "[B")) (.int (Int32.ofNat q.2.2.2.length)) :: (List.range q.2.2.2.length).map (fun i => Cond.eq (.elem (.field (.string q.1 q.2.1) "java/lang/String" "value" "[B") (.int (Int32.ofNat i))) (.int (q.2.2.2.getD i 0)))
def hl_gta (n : String) (l : List Int32) : List Cond :=
  Cond.arrayOf (.static "HymnLamps$Ground" n "[I") .int :: Cond.eq (.length (.static "HymnLamps$Ground" n "[I")) (.int 5) :: (List.range 5).map (fun i => Cond.eq (.elem (.static "HymnLamps$Ground" n "[I") (.int (Int32.ofNat i))) (.int (l.getD i 0)))
def hl_gws : List Cond := Cond.eq (.static "java/lang/String" "COMPACT_STRINGS" "Z") (.int 1) :: Cond.isRef (.static "jdk/internal/util/Preconditions" "SIOOBE_FORMATTER" "Ljava/util/function/BiFunction;") :: (hl_gta "ACROSS" [0, 1, 0, -1, 0] ++ (hl_gta "DOWN" [-1, 0, 1, 0, 0] ++ hl_str.flatMap hl_gst))
def hl_gfl : List Cond := flatC (Cond.and given_1 narrow_1)

def hl_gix : List Nat := [4, 5, 10, 11, 12, 13, 14, 15, 16, 18, 19, 20, 21, 22, 23, 24, 25, 26, 27, 28, 29, 30, 31, 32, 33, 34, 35, 36, 37, 38, 39, 40, 41, 42, 43, 44, 45, 46, 47, 48, 49, 50, 51, 52, 53, 54, 55, 56, 57, 58, 59, 60, 61, 62, 64, 65, 66, 67, 68, 69, 70, 71, 73, 74, 75, 76, 77, 78, 79, 80, 81, 82, 84, 85, 86, 87, 88, 89, 90, 91, 92, 93, 94, 95, 96, 97, 98, 99, 100, 101, 102, 103, 104, 105, 106, 107, 108, 109, 110, 111, 112, 113, 114, 115, 116, 117, 118, 119, 120, 121, 122, 123, 124, 125, 126, 127, 128, 129, 130, 131, 132, 133, 134, 135, 136, 138, 139, 140, 141, 142, 143, 144, 145, 147, 148, 149, 150, 151, 152, 153, 154, 155, 157, 158, 159, 160, 161, 162, 163, 164, 165, 166, 167, 168, 169, 170, 171, 172, 173, 175, 176, 177, 178, 179, 180, 181, 182, 184, 185, 186, 187, 188, 189, 190, 191, 193, 194, 195, 196, 197, 198, 199, 200, 201, 202, 203, 204, 205, 206, 207, 208, 209, 210, 211, 212, 213, 214, 215, 216, 217, 218, 219, 220, 221, 222, 223, 224, 225, 226, 227, 228, 229, 230, 231, 232, 233, 234, 235, 236, 237, 238, 239, 240, 241, 242, 243, 244, 245, 246, 247, 248, 249, 250, 251, 252, 253, 254, 255, 256, 257, 258, 259, 260, 261, 262, 263, 264, 265, 266, 269, 270, 271, 272, 273, 274, 275, 276, 277, 278, 279, 280, 281, 282, 283, 284, 285, 286, 287, 288, 289, 290, 291, 292, 293, 294, 295, 296, 297, 298, 301, 302, 303, 304, 305, 306, 307, 308, 309, 310, 311, 312, 313, 314, 315, 316, 317, 318, 319, 320, 321, 322, 323, 324, 325, 326, 327, 328, 329, 330, 331, 332, 333, 334, 335, 336, 337, 338, 339, 340, 341, 342]
theorem hl_gin : hl_gws.map some = hl_gix.map (fun i => hl_gfl[i]?) := by decide +kernel
theorem hl_gof {b : Nat} {s : State} (h : (Cond.and given_1 narrow_1).before #[Value.ref b] s = true) : ∀ w ∈ hl_gws, w.before #[Value.ref b] s = true := by
  intro w hw
  have h1 : some w ∈ hl_gws.map some := List.mem_map.mpr ⟨w, hw, rfl⟩
  rw [hl_gin] at h1
  obtain ⟨i, -, hi⟩ := List.mem_map.mp h1
  exact flat_of_before _ h w (List.mem_of_getElem? hi)
theorem hl_gsr : ∀ q ∈ hl_str, Cond.stringRef q.1 q.2.1 q.2.2.1 ∈ tables_1 := by
  unfold hl_str
  exact List.forall_mem_cons.mpr ⟨hl_m2 213 rfl, List.forall_mem_cons.mpr ⟨hl_m3 46 rfl, List.forall_mem_cons.mpr ⟨hl_m3 66 rfl, List.forall_mem_cons.mpr ⟨hl_m3 83 rfl, List.forall_mem_cons.mpr ⟨hl_m3 84 rfl, List.forall_mem_cons.mpr ⟨hl_m3 85 rfl, List.forall_mem_cons.mpr ⟨hl_m3 86 rfl, List.forall_mem_cons.mpr ⟨hl_m3 87 rfl, List.forall_mem_cons.mpr ⟨hl_m3 88 rfl, List.forall_mem_cons.mpr ⟨hl_m3 89 rfl, List.forall_mem_cons.mpr ⟨hl_m3 90 rfl, List.forall_mem_cons.mpr ⟨hl_m3 91 rfl, List.forall_mem_cons.mpr ⟨hl_m3 100 rfl, List.forall_mem_cons.mpr ⟨hl_m3 110 rfl, List.forall_mem_cons.mpr ⟨hl_m3 111 rfl, List.forall_mem_cons.mpr ⟨hl_m3 120 rfl, List.forall_mem_cons.mpr ⟨hl_m3 184 rfl, List.forall_mem_cons.mpr ⟨hl_m3 192 rfl, List.forall_mem_cons.mpr ⟨hl_m3 198 rfl, List.forall_mem_cons.mpr ⟨hl_m5 77 rfl, List.forall_mem_cons.mpr ⟨hl_m5 79 rfl, List.forall_mem_cons.mpr ⟨hl_m5 80 rfl, List.forall_mem_cons.mpr ⟨hl_m5 81 rfl, List.forall_mem_cons.mpr ⟨hl_m5 82 rfl, List.forall_mem_cons.mpr ⟨hl_m5 83 rfl, List.forall_mem_cons.mpr ⟨hl_m5 94 rfl, List.forall_mem_cons.mpr ⟨hl_m5 106 rfl, List.forall_mem_cons.mpr ⟨hl_m5 120 rfl, List.forall_mem_cons.mpr ⟨hl_m5 121 rfl, List.forall_mem_cons.mpr ⟨hl_m5 122 rfl, List.forall_mem_cons.mpr ⟨hl_m5 123 rfl, List.forall_mem_cons.mpr ⟨hl_m5 128 rfl, List.forall_mem_cons.mpr ⟨hl_m5 129 rfl, List.forall_mem_cons.mpr ⟨hl_m5 130 rfl, List.forall_mem_cons.mpr ⟨hl_m5 131 rfl, List.forall_mem_cons.mpr ⟨hl_m5 132 rfl, List.forall_mem_cons.mpr ⟨hl_m5 145 rfl, List.forall_mem_cons.mpr ⟨hl_m5 146 rfl, fun _ h => absurd h (List.not_mem_nil)⟩⟩⟩⟩⟩⟩⟩⟩⟩⟩⟩⟩⟩⟩⟩⟩⟩⟩⟩⟩⟩⟩⟩⟩⟩⟩⟩⟩⟩⟩⟩⟩⟩⟩⟩⟩⟩⟩
theorem hl_gzA : Cond.laysStatic "HymnLamps$Ground" "ACROSS" "[I" ∈ tables_1 := hl_m3 228 rfl
theorem hl_gzD : Cond.laysStatic "HymnLamps$Ground" "DOWN" "[I" ∈ tables_1 := hl_m3 230 rfl
theorem hl_gzC : Cond.laysStatic "java/lang/String" "COMPACT_STRINGS" "Z" ∈ tables_1 := hl_m2 231 rfl
theorem hl_gzF : Cond.laysStatic "jdk/internal/util/Preconditions" "SIOOBE_FORMATTER" "Ljava/util/function/BiFunction;" ∈ tables_1 := hl_m3 7 rfl
theorem hl_giG : Cond.initialized "HymnLamps$Ground" ∈ tables_1 := hl_m1 4 rfl
theorem hl_giS : Cond.initialized "java/lang/String" ∈ tables_1 := hl_m1 13 rfl
theorem hl_giP : Cond.initialized "jdk/internal/util/Preconditions" ∈ tables_1 := hl_m1 15 rfl
theorem hl_tb {w : Cond} (h : w ∈ tables_1) : w ∈ lw_tbl := List.mem_append_right _ h
theorem hl_gstr {b : Nat} {s : State} {A : Nat → Prop} (hts : ∀ w ∈ lw_tbl, w.before #[Value.ref b] s = true) (hg : ∀ w ∈ hl_gws, w.before #[Value.ref b] s = true) (hA : ∀ a : Nat, a < s.heap.size → ¬ A a) {q : String × Nat × String × List Int32} (hq : q ∈ hl_str) (hl : q.2.2.2.length < 1000) :
    ∃ a t : Nat, vk_R q.1 q.2.1 q.2.2.1 a s ∧ va_O "java/lang/String" a A s s.heap ∧ va_OF "java/lang/String" "coder" "B" (.int 0) a A s s.heap ∧ va_OF "java/lang/String" "value" "[B" (.ref t) a A s s.heap ∧ va_T .byte t q.2.2.2.length (fun j => .int (q.2.2.2.getD j 0)) A s s.heap := by
  have hin : ∀ w ∈ hl_gst q, w.before #[Value.ref b] s = true := fun w hw => hg w (by
    unfold hl_gws
    exact List.mem_cons_of_mem _ (List.mem_cons_of_mem _ (List.mem_append_right _ (List.mem_append_right _ (List.mem_flatMap.mpr ⟨q, hq, hw⟩)))))
  have h1 := hin _ (List.mem_cons_self)
  have h2 := hin _ (List.mem_cons_of_mem _ List.mem_cons_self)
  have h3 := hin _ (List.mem_cons_of_mem _ (List.mem_cons_of_mem _ List.mem_cons_self))
  have h4 := hin _ (List.mem_cons_of_mem _ (List.mem_cons_of_mem _ (List.mem_cons_of_mem _ List.mem_cons_self)))
  have h5 : ∀ i, i < q.2.2.2.length → (Cond.eq (.elem (.field (.string q.1 q.2.1) "java/lang/String" "value" "[B") (.int (Int32.ofNat i))) (.int (q.2.2.2.getD i 0))).before #[Value.ref b] s = true := fun i hi =>
    hin _ (List.mem_cons_of_mem _ (List.mem_cons_of_mem _ (List.mem_cons_of_mem _ (List.mem_cons_of_mem _ (List.mem_map.mpr ⟨i, List.mem_range.mpr hi, rfl⟩)))))
  obtain ⟨a, c, cA, kA, q1, q2, q3, q4, q5, q6, -⟩ := Cond.exactly_spec (args := #[Value.ref b]) (first := s) (o := none) (s := s) (idx := []) (t := Term.string q.1 q.2.1) (cls := "java/lang/String") h1
  obtain ⟨t, ht, hT⟩ := va_Tof (f := fun j => .int (q.2.2.2.getD j 0)) (A := A) (by omega) h3 (va_eqt h4) (fun j hj => va_eqt (h5 j hj)) hA
  exact ⟨a, t, vk_R.of (hts _ (hl_tb (hl_gsr q hq))) q1, ⟨cA, q3, q5, by rw [q6]; exact q2, hA a (Array.getElem?_eq_some_iff.mp q3).1⟩, vk_OFof q1 (va_eqt h2) hA, vk_OFof q1 ht hA, hT⟩
theorem hl_gtab {b : Nat} {s : State} {A : Nat → Prop} (hts : ∀ w ∈ lw_tbl, w.before #[Value.ref b] s = true) {n : String} {l : List Int32} (hin : ∀ w ∈ hl_gta n l, w.before #[Value.ref b] s = true) (hz : Cond.laysStatic "HymnLamps$Ground" n "[I" ∈ tables_1) (hA : ∀ a : Nat, a < s.heap.size → ¬ A a) :
    ∃ t : Nat, va_T .int t 5 (fun j => .int (l.getD j 0)) A s s.heap ∧ va_Z "HymnLamps$Ground" n "[I" (.ref t) A s s.heap := by
  have h3 := hin _ (List.mem_cons_self)
  have h4 := hin _ (List.mem_cons_of_mem _ List.mem_cons_self)
  have h5 : ∀ i, i < 5 → (Cond.eq (.elem (.static "HymnLamps$Ground" n "[I") (.int (Int32.ofNat i))) (.int (l.getD i 0))).before #[Value.ref b] s = true := fun i hi =>
    hin _ (List.mem_cons_of_mem _ (List.mem_cons_of_mem _ (List.mem_map.mpr ⟨i, List.mem_range.mpr hi, rfl⟩)))
  obtain ⟨t, ht, hT⟩ := va_Tof (N := 5) (f := fun j => .int (l.getD j 0)) (A := A) (by decide) h3 (va_eqt h4) (fun j hj => va_eqt (h5 j hj)) hA
  exact ⟨t, hT, va_Zof (hts _ (hl_tb hz)) (hts _ (hl_tb hl_giG)) ht hA⟩
