/-- the words that hold in every frame -/
def hl_T : List Cond := lw_tbl.filter goodWord
theorem hl_in {w : Cond} (h : w ∈ lw_tbl) (hg : goodWord w = true) : w ∈ hl_T := List.mem_filter.mpr ⟨h, hg⟩
theorem hl_in0 {w : Cond} (i : Nat) (h : (k2_sels lw_privs)[i]? = some w) (hg : goodWord w = true) : w ∈ hl_T := hl_in (List.mem_append_left _ (List.mem_of_getElem? h)) hg
theorem hl_m1 {w : Cond} (i : Nat) (h : tables_1_1[i]? = some w) : w ∈ tables_1 := List.mem_append_left _ (List.mem_of_getElem? h)
theorem hl_in1 {w : Cond} (i : Nat) (h : tables_1_1[i]? = some w) (hg : goodWord w = true) : w ∈ hl_T := hl_in (List.mem_append_right _ (hl_m1 i h)) hg
theorem hl_m2 {w : Cond} (i : Nat) (h : tables_1_2[i]? = some w) : w ∈ tables_1 := List.mem_append_right _ (List.mem_append_left _ (List.mem_of_getElem? h))
theorem hl_in2 {w : Cond} (i : Nat) (h : tables_1_2[i]? = some w) (hg : goodWord w = true) : w ∈ hl_T := hl_in (List.mem_append_right _ (hl_m2 i h)) hg
theorem hl_m3 {w : Cond} (i : Nat) (h : tables_1_3[i]? = some w) : w ∈ tables_1 := List.mem_append_right _ (List.mem_append_right _ (List.mem_append_left _ (List.mem_of_getElem? h)))
theorem hl_in3 {w : Cond} (i : Nat) (h : tables_1_3[i]? = some w) (hg : goodWord w = true) : w ∈ hl_T := hl_in (List.mem_append_right _ (hl_m3 i h)) hg
theorem hl_m4 {w : Cond} (i : Nat) (h : tables_1_4[i]? = some w) : w ∈ tables_1 := List.mem_append_right _ (List.mem_append_right _ (List.mem_append_right _ (List.mem_append_left _ (List.mem_of_getElem? h))))
theorem hl_in4 {w : Cond} (i : Nat) (h : tables_1_4[i]? = some w) (hg : goodWord w = true) : w ∈ hl_T := hl_in (List.mem_append_right _ (hl_m4 i h)) hg
theorem hl_m5 {w : Cond} (i : Nat) (h : tables_1_5[i]? = some w) : w ∈ tables_1 := List.mem_append_right _ (List.mem_append_right _ (List.mem_append_right _ (List.mem_append_right _ (List.mem_append_left _ (List.mem_of_getElem? h)))))
theorem hl_in5 {w : Cond} (i : Nat) (h : tables_1_5[i]? = some w) (hg : goodWord w = true) : w ∈ hl_T := hl_in (List.mem_append_right _ (hl_m5 i h)) hg
theorem hl_m6 {w : Cond} (i : Nat) (h : tables_1_6[i]? = some w) : w ∈ tables_1 := List.mem_append_right _ (List.mem_append_right _ (List.mem_append_right _ (List.mem_append_right _ (List.mem_append_right _ (List.mem_append_left _ (List.mem_of_getElem? h))))))
theorem hl_in6 {w : Cond} (i : Nat) (h : tables_1_6[i]? = some w) (hg : goodWord w = true) : w ∈ hl_T := hl_in (List.mem_append_right _ (hl_m6 i h)) hg
theorem hl_m7 {w : Cond} (i : Nat) (h : tables_1_7[i]? = some w) : w ∈ tables_1 := List.mem_append_right _ (List.mem_append_right _ (List.mem_append_right _ (List.mem_append_right _ (List.mem_append_right _ (List.mem_append_right _ (List.mem_append_left _ (List.mem_of_getElem? h)))))))
theorem hl_in7 {w : Cond} (i : Nat) (h : tables_1_7[i]? = some w) (hg : goodWord w = true) : w ∈ hl_T := hl_in (List.mem_append_right _ (hl_m7 i h)) hg
theorem hl_m8 {w : Cond} (i : Nat) (h : tables_1_8[i]? = some w) : w ∈ tables_1 := List.mem_append_right _ (List.mem_append_right _ (List.mem_append_right _ (List.mem_append_right _ (List.mem_append_right _ (List.mem_append_right _ (List.mem_append_right _ (List.mem_append_left _ (List.mem_of_getElem? h))))))))
theorem hl_in8 {w : Cond} (i : Nat) (h : tables_1_8[i]? = some w) (hg : goodWord w = true) : w ∈ hl_T := hl_in (List.mem_append_right _ (hl_m8 i h)) hg
theorem hl_m9 {w : Cond} (i : Nat) (h : tables_1_9[i]? = some w) : w ∈ tables_1 := List.mem_append_right _ (List.mem_append_right _ (List.mem_append_right _ (List.mem_append_right _ (List.mem_append_right _ (List.mem_append_right _ (List.mem_append_right _ (List.mem_append_right _ (List.mem_of_getElem? h))))))))
theorem hl_in9 {w : Cond} (i : Nat) (h : tables_1_9[i]? = some w) (hg : goodWord w = true) : w ∈ hl_T := hl_in (List.mem_append_right _ (hl_m9 i h)) hg
def hl_F0 : u_T := fun k => match k with
  | 0 => ("HymnLamps", "tape", "LHymnLamps$Tape;", true)
  | 1 => ("HymnLamps", "reader", "LHymnLamps$Reader;", true)
  | 2 => ("HymnLamps", "ground", "LHymnLamps$Ground;", true)
  | 3 => ("HymnLamps", "draft", "LHymnLamps$Ground;", true)
  | 4 => ("HymnLamps", "teller", "LHymnLamps$Teller;", true)
  | 5 => ("HymnLamps", "walks", "LHymnLamps$Walks;", true)
  | 6 => ("HymnLamps", "view", "LHymnLamps$View;", true)
  | 7 => ("HymnLamps", "paths", "LHymnLamps$Paths;", true)
  | 8 => ("HymnLamps", "question", "LHymnLamps$Question;", true)
  | 9 => ("HymnLamps", "acts", "LHymnLamps$Acts;", true)
  | 10 => ("HymnLamps", "images", "LHymnLamps$Images;", true)
  | 11 => ("HymnLamps", "painted", "Z", false)
  | 12 => ("HymnLamps", "paintedOne", "J", false)
  | _ => ("HymnLamps", "paintedTwo", "J", false)
def hl_t0 : Nat → FieldType := fun k => match k with
  | 0 => .object "HymnLamps$Tape"
  | 1 => .object "HymnLamps$Reader"
  | 2 => .object "HymnLamps$Ground"
  | 3 => .object "HymnLamps$Ground"
  | 4 => .object "HymnLamps$Teller"
  | 5 => .object "HymnLamps$Walks"
  | 6 => .object "HymnLamps$View"
  | 7 => .object "HymnLamps$Paths"
  | 8 => .object "HymnLamps$Question"
  | 9 => .object "HymnLamps$Acts"
  | 10 => .object "HymnLamps$Images"
  | 11 => .boolean
  | 12 => .long
  | _ => .long
theorem hl_n0 : ∀ a, a < 14 → ∀ b, b < 14 → a ≠ b → (hl_F0 a).2.1 ≠ (hl_F0 b).2.1 := by decide +kernel
theorem hl_tok0 : ∀ k, k < 14 → parseFieldDescriptor (hl_F0 k).2.2.1 = some (hl_t0 k) := by decide +kernel
theorem hl_w0 : ∀ w ∈ u_ws "HymnLamps" hl_F0 14, w ∈ hl_T := by
  intro w hw
  have h : (u_ws "HymnLamps" hl_F0 14) = [472, 474, 476, 478, 480, 482, 484, 486, 488, 490, 492, 494, 496, 498].filterMap (fun i => lw_tbl[i]?) := by decide +kernel
  rw [h] at hw
  obtain ⟨i, -, hi⟩ := List.mem_filterMap.mp hw
  refine hl_in (List.mem_of_getElem? hi) ?_
  have hg : ([472, 474, 476, 478, 480, 482, 484, 486, 488, 490, 492, 494, 496, 498].filterMap (fun i => lw_tbl[i]?)).all goodWord = true := by decide +kernel
  exact List.all_eq_true.mp hg w hw
def hl_F1 : u_T := fun k => match k with
  | 0 => ("HymnLamps$Tape", "bytes", "[B", true)
  | _ => ("HymnLamps$Tape", "size", "I", false)
def hl_t1 : Nat → FieldType := fun k => match k with
  | 0 => .array .byte
  | _ => .int
theorem hl_n1 : ∀ a, a < 2 → ∀ b, b < 2 → a ≠ b → (hl_F1 a).2.1 ≠ (hl_F1 b).2.1 := by decide +kernel
theorem hl_tok1 : ∀ k, k < 2 → parseFieldDescriptor (hl_F1 k).2.2.1 = some (hl_t1 k) := by decide +kernel
theorem hl_w1 : ∀ w ∈ u_ws "HymnLamps$Tape" hl_F1 2, w ∈ hl_T := by
  intro w hw
  have h : (u_ws "HymnLamps$Tape" hl_F1 2) = [141, 143].filterMap (fun i => lw_tbl[i]?) := by decide +kernel
  rw [h] at hw
  obtain ⟨i, -, hi⟩ := List.mem_filterMap.mp hw
  refine hl_in (List.mem_of_getElem? hi) ?_
  have hg : ([141, 143].filterMap (fun i => lw_tbl[i]?)).all goodWord = true := by decide +kernel
  exact List.all_eq_true.mp hg w hw
def hl_F2 : u_T := fun k => match k with
  | 0 => ("HymnLamps$Reader", "tape", "LHymnLamps$Tape;", true)
  | 1 => ("HymnLamps$Reader", "kind", "I", false)
  | 2 => ("HymnLamps$Reader", "start", "I", false)
  | 3 => ("HymnLamps$Reader", "stop", "I", false)
  | 4 => ("HymnLamps$Reader", "fault", "I", false)
  | 5 => ("HymnLamps$Reader", "place", "I", false)
  | _ => ("HymnLamps$Reader", "taken", "I", false)
def hl_t2 : Nat → FieldType := fun k => match k with
  | 0 => .object "HymnLamps$Tape"
  | 1 => .int
  | 2 => .int
  | 3 => .int
  | 4 => .int
  | 5 => .int
  | _ => .int
theorem hl_n2 : ∀ a, a < 7 → ∀ b, b < 7 → a ≠ b → (hl_F2 a).2.1 ≠ (hl_F2 b).2.1 := by decide +kernel
theorem hl_tok2 : ∀ k, k < 7 → parseFieldDescriptor (hl_F2 k).2.2.1 = some (hl_t2 k) := by decide +kernel
theorem hl_w2 : ∀ w ∈ u_ws "HymnLamps$Reader" hl_F2 7, w ∈ hl_T := by
  intro w hw
  have h : (u_ws "HymnLamps$Reader" hl_F2 7) = [167, 169, 171, 173, 175, 177, 179].filterMap (fun i => lw_tbl[i]?) := by decide +kernel
  rw [h] at hw
  obtain ⟨i, -, hi⟩ := List.mem_filterMap.mp hw
  refine hl_in (List.mem_of_getElem? hi) ?_
  have hg : ([167, 169, 171, 173, 175, 177, 179].filterMap (fun i => lw_tbl[i]?)).all goodWord = true := by decide +kernel
  exact List.all_eq_true.mp hg w hw
def hl_F3 : u_T := fun k => match k with
  | 0 => ("HymnLamps$Ground", "wide", "I", false)
  | 1 => ("HymnLamps$Ground", "high", "I", false)
  | 2 => ("HymnLamps$Ground", "walls", "J", false)
  | 3 => ("HymnLamps$Ground", "persons", "I", false)
  | 4 => ("HymnLamps$Ground", "personNames", "[I", true)
  | 5 => ("HymnLamps$Ground", "toldCells", "[I", true)
  | 6 => ("HymnLamps$Ground", "lamps", "[I", true)
  | 7 => ("HymnLamps$Ground", "learnt", "[J", true)
  | 8 => ("HymnLamps$Ground", "words", "I", false)
  | 9 => ("HymnLamps$Ground", "wordNames", "[I", true)
  | 10 => ("HymnLamps$Ground", "wordOnes", "[J", true)
  | 11 => ("HymnLamps$Ground", "wordTwos", "[J", true)
  | 12 => ("HymnLamps$Ground", "hymns", "I", false)
  | 13 => ("HymnLamps$Ground", "hymnWords", "[I", true)
  | _ => ("HymnLamps$Ground", "hymnBeats", "[I", true)
def hl_t3 : Nat → FieldType := fun k => match k with
  | 0 => .int
  | 1 => .int
  | 2 => .long
  | 3 => .int
  | 4 => .array .int
  | 5 => .array .int
  | 6 => .array .int
  | 7 => .array .long
  | 8 => .int
  | 9 => .array .int
  | 10 => .array .long
  | 11 => .array .long
  | 12 => .int
  | 13 => .array .int
  | _ => .array .int
theorem hl_n3 : ∀ a, a < 15 → ∀ b, b < 15 → a ≠ b → (hl_F3 a).2.1 ≠ (hl_F3 b).2.1 := by decide +kernel
theorem hl_tok3 : ∀ k, k < 15 → parseFieldDescriptor (hl_F3 k).2.2.1 = some (hl_t3 k) := by decide +kernel
theorem hl_w3 : ∀ w ∈ u_ws "HymnLamps$Ground" hl_F3 15, w ∈ hl_T := by
  intro w hw
  have h : (u_ws "HymnLamps$Ground" hl_F3 15) = [252, 254, 256, 258, 260, 262, 264, 266, 268, 270, 272, 274, 276, 278, 280].filterMap (fun i => lw_tbl[i]?) := by decide +kernel
  rw [h] at hw
  obtain ⟨i, -, hi⟩ := List.mem_filterMap.mp hw
  refine hl_in (List.mem_of_getElem? hi) ?_
  have hg : ([252, 254, 256, 258, 260, 262, 264, 266, 268, 270, 272, 274, 276, 278, 280].filterMap (fun i => lw_tbl[i]?)).all goodWord = true := by decide +kernel
  exact List.all_eq_true.mp hg w hw
def hl_F4 : u_T := fun k => match k with
  | 0 => ("HymnLamps$Teller", "reader", "LHymnLamps$Reader;", true)
  | 1 => ("HymnLamps$Teller", "draft", "LHymnLamps$Ground;", true)
  | _ => ("HymnLamps$Teller", "wallStatements", "I", false)
def hl_t4 : Nat → FieldType := fun k => match k with
  | 0 => .object "HymnLamps$Reader"
  | 1 => .object "HymnLamps$Ground"
  | _ => .int
theorem hl_n4 : ∀ a, a < 3 → ∀ b, b < 3 → a ≠ b → (hl_F4 a).2.1 ≠ (hl_F4 b).2.1 := by decide +kernel
theorem hl_tok4 : ∀ k, k < 3 → parseFieldDescriptor (hl_F4 k).2.2.1 = some (hl_t4 k) := by decide +kernel
theorem hl_w4 : ∀ w ∈ u_ws "HymnLamps$Teller" hl_F4 3, w ∈ hl_T := by
  intro w hw
  have h : (u_ws "HymnLamps$Teller" hl_F4 3) = [294, 296, 298].filterMap (fun i => lw_tbl[i]?) := by decide +kernel
  rw [h] at hw
  obtain ⟨i, -, hi⟩ := List.mem_filterMap.mp hw
  refine hl_in (List.mem_of_getElem? hi) ?_
  have hg : ([294, 296, 298].filterMap (fun i => lw_tbl[i]?)).all goodWord = true := by decide +kernel
  exact List.all_eq_true.mp hg w hw
def hl_F5 : u_T := fun k => match k with
  | 0 => ("HymnLamps$Walks", "ground", "LHymnLamps$Ground;", true)
  | _ => ("HymnLamps$Walks", "cells", "[[I", true)
def hl_t5 : Nat → FieldType := fun k => match k with
  | 0 => .object "HymnLamps$Ground"
  | _ => .array (.array .int)
theorem hl_n5 : ∀ a, a < 2 → ∀ b, b < 2 → a ≠ b → (hl_F5 a).2.1 ≠ (hl_F5 b).2.1 := by decide +kernel
theorem hl_tok5 : ∀ k, k < 2 → parseFieldDescriptor (hl_F5 k).2.2.1 = some (hl_t5 k) := by decide +kernel
theorem hl_w5 : ∀ w ∈ u_ws "HymnLamps$Walks" hl_F5 2, w ∈ hl_T := by
  intro w hw
  have h : (u_ws "HymnLamps$Walks" hl_F5 2) = [311, 313].filterMap (fun i => lw_tbl[i]?) := by decide +kernel
  rw [h] at hw
  obtain ⟨i, -, hi⟩ := List.mem_filterMap.mp hw
  refine hl_in (List.mem_of_getElem? hi) ?_
  have hg : ([311, 313].filterMap (fun i => lw_tbl[i]?)).all goodWord = true := by decide +kernel
  exact List.all_eq_true.mp hg w hw
def hl_F6 : u_T := fun k => match k with
  | 0 => ("HymnLamps$View", "ground", "LHymnLamps$Ground;", true)
  | 1 => ("HymnLamps$View", "walks", "LHymnLamps$Walks;", true)
  | 2 => ("HymnLamps$View", "one", "J", false)
  | _ => ("HymnLamps$View", "two", "J", false)
def hl_t6 : Nat → FieldType := fun k => match k with
  | 0 => .object "HymnLamps$Ground"
  | 1 => .object "HymnLamps$Walks"
  | 2 => .long
  | _ => .long
theorem hl_n6 : ∀ a, a < 4 → ∀ b, b < 4 → a ≠ b → (hl_F6 a).2.1 ≠ (hl_F6 b).2.1 := by decide +kernel
theorem hl_tok6 : ∀ k, k < 4 → parseFieldDescriptor (hl_F6 k).2.2.1 = some (hl_t6 k) := by decide +kernel
theorem hl_w6 : ∀ w ∈ u_ws "HymnLamps$View" hl_F6 4, w ∈ hl_T := by
  intro w hw
  have h : (u_ws "HymnLamps$View" hl_F6 4) = [328, 330, 332, 334].filterMap (fun i => lw_tbl[i]?) := by decide +kernel
  rw [h] at hw
  obtain ⟨i, -, hi⟩ := List.mem_filterMap.mp hw
  refine hl_in (List.mem_of_getElem? hi) ?_
  have hg : ([328, 330, 332, 334].filterMap (fun i => lw_tbl[i]?)).all goodWord = true := by decide +kernel
  exact List.all_eq_true.mp hg w hw
def hl_F7 : u_T := fun k => match k with
  | 0 => ("HymnLamps$Paths", "ground", "LHymnLamps$Ground;", true)
  | 1 => ("HymnLamps$Paths", "walks", "LHymnLamps$Walks;", true)
  | 2 => ("HymnLamps$Paths", "distances", "[I", true)
  | 3 => ("HymnLamps$Paths", "queue", "[I", true)
  | 4 => ("HymnLamps$Paths", "count", "I", false)
  | 5 => ("HymnLamps$Paths", "goers", "[I", true)
  | 6 => ("HymnLamps$Paths", "goals", "[I", true)
  | 7 => ("HymnLamps$Paths", "costs", "[[I", true)
  | 8 => ("HymnLamps$Paths", "leastRest", "[I", true)
  | 9 => ("HymnLamps$Paths", "soonestRest", "[I", true)
  | _ => ("HymnLamps$Paths", "chosen", "[I", true)
def hl_t7 : Nat → FieldType := fun k => match k with
  | 0 => .object "HymnLamps$Ground"
  | 1 => .object "HymnLamps$Walks"
  | 2 => .array .int
  | 3 => .array .int
  | 4 => .int
  | 5 => .array .int
  | 6 => .array .int
  | 7 => .array (.array .int)
  | 8 => .array .int
  | 9 => .array .int
  | _ => .array .int
theorem hl_n7 : ∀ a, a < 11 → ∀ b, b < 11 → a ≠ b → (hl_F7 a).2.1 ≠ (hl_F7 b).2.1 := by decide +kernel
theorem hl_tok7 : ∀ k, k < 11 → parseFieldDescriptor (hl_F7 k).2.2.1 = some (hl_t7 k) := by decide +kernel
theorem hl_w7 : ∀ w ∈ u_ws "HymnLamps$Paths" hl_F7 11, w ∈ hl_T := by
  intro w hw
  have h : (u_ws "HymnLamps$Paths" hl_F7 11) = [357, 359, 361, 363, 365, 367, 369, 371, 373, 375, 377].filterMap (fun i => lw_tbl[i]?) := by decide +kernel
  rw [h] at hw
  obtain ⟨i, -, hi⟩ := List.mem_filterMap.mp hw
  refine hl_in (List.mem_of_getElem? hi) ?_
  have hg : ([357, 359, 361, 363, 365, 367, 369, 371, 373, 375, 377].filterMap (fun i => lw_tbl[i]?)).all goodWord = true := by decide +kernel
  exact List.all_eq_true.mp hg w hw
def hl_F8 : u_T := fun k => match k with
  | 0 => ("HymnLamps$Question", "reader", "LHymnLamps$Reader;", true)
  | 1 => ("HymnLamps$Question", "ground", "LHymnLamps$Ground;", true)
  | 2 => ("HymnLamps$Question", "walks", "LHymnLamps$Walks;", true)
  | 3 => ("HymnLamps$Question", "view", "LHymnLamps$View;", true)
  | 4 => ("HymnLamps$Question", "codes", "[I", true)
  | 5 => ("HymnLamps$Question", "pile", "[J", true)
  | 6 => ("HymnLamps$Question", "size", "I", false)
  | 7 => ("HymnLamps$Question", "height", "I", false)
  | 8 => ("HymnLamps$Question", "open", "I", false)
  | _ => ("HymnLamps$Question", "asked", "I", false)
def hl_t8 : Nat → FieldType := fun k => match k with
  | 0 => .object "HymnLamps$Reader"
  | 1 => .object "HymnLamps$Ground"
  | 2 => .object "HymnLamps$Walks"
  | 3 => .object "HymnLamps$View"
  | 4 => .array .int
  | 5 => .array .long
  | 6 => .int
  | 7 => .int
  | 8 => .int
  | _ => .int
theorem hl_n8 : ∀ a, a < 10 → ∀ b, b < 10 → a ≠ b → (hl_F8 a).2.1 ≠ (hl_F8 b).2.1 := by decide +kernel
theorem hl_tok8 : ∀ k, k < 10 → parseFieldDescriptor (hl_F8 k).2.2.1 = some (hl_t8 k) := by decide +kernel
theorem hl_w8 : ∀ w ∈ u_ws "HymnLamps$Question" hl_F8 10, w ∈ hl_T := by
  intro w hw
  have h : (u_ws "HymnLamps$Question" hl_F8 10) = [396, 398, 400, 402, 404, 406, 408, 410, 412, 414].filterMap (fun i => lw_tbl[i]?) := by decide +kernel
  rw [h] at hw
  obtain ⟨i, -, hi⟩ := List.mem_filterMap.mp hw
  refine hl_in (List.mem_of_getElem? hi) ?_
  have hg : ([396, 398, 400, 402, 404, 406, 408, 410, 412, 414].filterMap (fun i => lw_tbl[i]?)).all goodWord = true := by decide +kernel
  exact List.all_eq_true.mp hg w hw
def hl_F9 : u_T := fun k => match k with
  | 0 => ("HymnLamps$Acts", "persons", "[I", true)
  | 1 => ("HymnLamps$Acts", "lamps", "[I", true)
  | 2 => ("HymnLamps$Acts", "learnt", "[J", true)
  | _ => ("HymnLamps$Acts", "count", "I", false)
def hl_t9 : Nat → FieldType := fun k => match k with
  | 0 => .array .int
  | 1 => .array .int
  | 2 => .array .long
  | _ => .int
theorem hl_n9 : ∀ a, a < 4 → ∀ b, b < 4 → a ≠ b → (hl_F9 a).2.1 ≠ (hl_F9 b).2.1 := by decide +kernel
theorem hl_tok9 : ∀ k, k < 4 → parseFieldDescriptor (hl_F9 k).2.2.1 = some (hl_t9 k) := by decide +kernel
theorem hl_w9 : ∀ w ∈ u_ws "HymnLamps$Acts" hl_F9 4, w ∈ hl_T := by
  intro w hw
  have h : (u_ws "HymnLamps$Acts" hl_F9 4) = [431, 433, 435, 437].filterMap (fun i => lw_tbl[i]?) := by decide +kernel
  rw [h] at hw
  obtain ⟨i, -, hi⟩ := List.mem_filterMap.mp hw
  refine hl_in (List.mem_of_getElem? hi) ?_
  have hg : ([431, 433, 435, 437].filterMap (fun i => lw_tbl[i]?)).all goodWord = true := by decide +kernel
  exact List.all_eq_true.mp hg w hw
def hl_F10 : u_T := fun k => match k with
  | 0 => ("HymnLamps$Images", "ground", "LHymnLamps$Ground;", true)
  | 1 => ("HymnLamps$Images", "octets", "[I", true)
  | _ => ("HymnLamps$Images", "size", "I", false)
def hl_t10 : Nat → FieldType := fun k => match k with
  | 0 => .object "HymnLamps$Ground"
  | 1 => .array .int
  | _ => .int
theorem hl_n10 : ∀ a, a < 3 → ∀ b, b < 3 → a ≠ b → (hl_F10 a).2.1 ≠ (hl_F10 b).2.1 := by decide +kernel
theorem hl_tok10 : ∀ k, k < 3 → parseFieldDescriptor (hl_F10 k).2.2.1 = some (hl_t10 k) := by decide +kernel
theorem hl_w10 : ∀ w ∈ u_ws "HymnLamps$Images" hl_F10 3, w ∈ hl_T := by
  intro w hw
  have h : (u_ws "HymnLamps$Images" hl_F10 3) = [451, 453, 455].filterMap (fun i => lw_tbl[i]?) := by decide +kernel
  rw [h] at hw
  obtain ⟨i, -, hi⟩ := List.mem_filterMap.mp hw
  refine hl_in (List.mem_of_getElem? hi) ?_
  have hg : ([451, 453, 455].filterMap (fun i => lw_tbl[i]?)).all goodWord = true := by decide +kernel
  exact List.all_eq_true.mp hg w hw
def hl_F11 : u_T := fun k => match k with
  | 0 => ("HymnLampsModel", "tape", "[I", true)
  | 1 => ("HymnLampsModel", "taped", "I", false)
  | 2 => ("HymnLampsModel", "at", "I", false)
  | 3 => ("HymnLampsModel", "end", "I", false)
  | 4 => ("HymnLampsModel", "ended", "I", false)
  | 5 => ("HymnLampsModel", "bad", "I", false)
  | 6 => ("HymnLampsModel", "badPlace", "I", false)
  | 7 => ("HymnLampsModel", "fault", "I", false)
  | 8 => ("HymnLampsModel", "faultPlace", "I", false)
  | 9 => ("HymnLampsModel", "numberPlace", "I", false)
  | 10 => ("HymnLampsModel", "groundWord", "[C", true)
  | 11 => ("HymnLampsModel", "wallWord", "[C", true)
  | 12 => ("HymnLampsModel", "personWord", "[C", true)
  | 13 => ("HymnLampsModel", "atWord", "[C", true)
  | 14 => ("HymnLampsModel", "lampWord", "[C", true)
  | 15 => ("HymnLampsModel", "walksWord", "[C", true)
  | 16 => ("HymnLampsModel", "wordWord", "[C", true)
  | 17 => ("HymnLampsModel", "hymnWord", "[C", true)
  | 18 => ("HymnLampsModel", "beatWord", "[C", true)
  | 19 => ("HymnLampsModel", "namePlace", "I", false)
  | 20 => ("HymnLampsModel", "wideTold", "I", false)
  | 21 => ("HymnLampsModel", "highTold", "I", false)
  | 22 => ("HymnLampsModel", "wallsTold", "I", false)
  | 23 => ("HymnLampsModel", "many", "[I", true)
  | 24 => ("HymnLampsModel", "isWall", "[Z", true)
  | 25 => ("HymnLampsModel", "names", "[J", true)
  | 26 => ("HymnLampsModel", "persons", "[I", true)
  | 27 => ("HymnLampsModel", "wordLamp", "[I", true)
  | 28 => ("HymnLampsModel", "hymns", "[I", true)
  | 29 => ("HymnLampsModel", "statements", "I", false)
  | 30 => ("HymnLampsModel", "wide", "I", false)
  | 31 => ("HymnLampsModel", "high", "I", false)
  | 32 => ("HymnLampsModel", "apart", "[I", true)
  | 33 => ("HymnLampsModel", "queue", "[I", true)
  | 34 => ("HymnLampsModel", "whereAt", "[I", true)
  | 35 => ("HymnLampsModel", "outPerson", "I", false)
  | 36 => ("HymnLampsModel", "movedPerson", "I", false)
  | 37 => ("HymnLampsModel", "movedTo", "I", false)
  | 38 => ("HymnLampsModel", "nearestFar", "I", false)
  | 39 => ("HymnLampsModel", "nearestDoubt", "I", false)
  | 40 => ("HymnLampsModel", "bearer", "[I", true)
  | 41 => ("HymnLampsModel", "bearers", "I", false)
  | 42 => ("HymnLampsModel", "goal", "[I", true)
  | 43 => ("HymnLampsModel", "goals", "I", false)
  | 44 => ("HymnLampsModel", "sumFrom", "[I", true)
  | 45 => ("HymnLampsModel", "mostFrom", "[I", true)
  | 46 => ("HymnLampsModel", "goalOf", "[I", true)
  | 47 => ("HymnLampsModel", "isPainted", "Z", false)
  | 48 => ("HymnLampsModel", "picture", "[I", true)
  | 49 => ("HymnLampsModel", "kept", "[I", true)
  | 50 => ("HymnLampsModel", "undoable", "I", false)
  | 51 => ("HymnLampsModel", "newest", "I", false)
  | 52 => ("HymnLampsModel", "firstAsked", "[C", true)
  | 53 => ("HymnLampsModel", "lastAsked", "[C", true)
  | 54 => ("HymnLampsModel", "oftenAsked", "[C", true)
  | 55 => ("HymnLampsModel", "totalAsked", "[C", true)
  | 56 => ("HymnLampsModel", "mostAsked", "[C", true)
  | 57 => ("HymnLampsModel", "leastAsked", "[C", true)
  | 58 => ("HymnLampsModel", "notAsked", "[C", true)
  | 59 => ("HymnLampsModel", "andAsked", "[C", true)
  | 60 => ("HymnLampsModel", "orAsked", "[C", true)
  | 61 => ("HymnLampsModel", "allAsked", "[C", true)
  | 62 => ("HymnLampsModel", "minAsked", "[C", true)
  | 63 => ("HymnLampsModel", "maxAsked", "[C", true)
  | 64 => ("HymnLampsModel", "beatAsked", "[C", true)
  | 65 => ("HymnLampsModel", "clashAsked", "[C", true)
  | 66 => ("HymnLampsModel", "litAsked", "[C", true)
  | 67 => ("HymnLampsModel", "readAsked", "[C", true)
  | 68 => ("HymnLampsModel", "atAsked", "[C", true)
  | 69 => ("HymnLampsModel", "farAsked", "[C", true)
  | 70 => ("HymnLampsModel", "glowAsked", "[C", true)
  | 71 => ("HymnLampsModel", "qCodes", "[I", true)
  | 72 => ("HymnLampsModel", "qCoded", "I", false)
  | 73 => ("HymnLampsModel", "qWait", "[I", true)
  | 74 => ("HymnLampsModel", "qWaits", "I", false)
  | 75 => ("HymnLampsModel", "qOpened", "I", false)
  | 76 => ("HymnLampsModel", "qBase", "I", false)
  | 77 => ("HymnLampsModel", "qPile", "[J", true)
  | 78 => ("HymnLampsModel", "qPiled", "I", false)
  | 79 => ("HymnLampsModel", "qAnswer", "J", false)
  | 80 => ("HymnLampsModel", "qIsNew", "Z", false)
  | 81 => ("HymnLampsModel", "octet", "[I", true)
  | _ => ("HymnLampsModel", "octets", "I", false)
def hl_t11 : Nat → FieldType := fun k => match k with
  | 0 => .array .int
  | 1 => .int
  | 2 => .int
  | 3 => .int
  | 4 => .int
  | 5 => .int
  | 6 => .int
  | 7 => .int
  | 8 => .int
  | 9 => .int
  | 10 => .array .char
  | 11 => .array .char
  | 12 => .array .char
  | 13 => .array .char
  | 14 => .array .char
  | 15 => .array .char
  | 16 => .array .char
  | 17 => .array .char
  | 18 => .array .char
  | 19 => .int
  | 20 => .int
  | 21 => .int
  | 22 => .int
  | 23 => .array .int
  | 24 => .array .boolean
  | 25 => .array .long
  | 26 => .array .int
  | 27 => .array .int
  | 28 => .array .int
  | 29 => .int
  | 30 => .int
  | 31 => .int
  | 32 => .array .int
  | 33 => .array .int
  | 34 => .array .int
  | 35 => .int
  | 36 => .int
  | 37 => .int
  | 38 => .int
  | 39 => .int
  | 40 => .array .int
  | 41 => .int
  | 42 => .array .int
  | 43 => .int
  | 44 => .array .int
  | 45 => .array .int
  | 46 => .array .int
  | 47 => .boolean
  | 48 => .array .int
  | 49 => .array .int
  | 50 => .int
  | 51 => .int
  | 52 => .array .char
  | 53 => .array .char
  | 54 => .array .char
  | 55 => .array .char
  | 56 => .array .char
  | 57 => .array .char
  | 58 => .array .char
  | 59 => .array .char
  | 60 => .array .char
  | 61 => .array .char
  | 62 => .array .char
  | 63 => .array .char
  | 64 => .array .char
  | 65 => .array .char
  | 66 => .array .char
  | 67 => .array .char
  | 68 => .array .char
  | 69 => .array .char
  | 70 => .array .char
  | 71 => .array .int
  | 72 => .int
  | 73 => .array .int
  | 74 => .int
  | 75 => .int
  | 76 => .int
  | 77 => .array .long
  | 78 => .int
  | 79 => .long
  | 80 => .boolean
  | 81 => .array .int
  | _ => .int
theorem hl_n11 : ∀ a, a < 83 → ∀ b, b < 83 → a ≠ b → (hl_F11 a).2.1 ≠ (hl_F11 b).2.1 := by decide +kernel
theorem hl_tok11 : ∀ k, k < 83 → parseFieldDescriptor (hl_F11 k).2.2.1 = some (hl_t11 k) := by decide +kernel
theorem hl_w11 : ∀ w ∈ u_ws "HymnLampsModel" hl_F11 83, w ∈ hl_T := by
  intro w hw
  have h : (u_ws "HymnLampsModel" hl_F11 83) = [1384, 1386, 1388, 1390, 1392, 1394, 1396, 1398, 1400, 1402, 1404, 1406, 1408, 1410, 1412, 1414, 1416, 1418, 1420, 1422, 1424, 1426, 1428, 1430, 1432, 1434, 1436, 1438, 1440, 1442, 1444, 1446, 1448, 1450, 1452, 1454, 1456, 1458, 1460, 1462, 1464, 1466, 1468, 1470, 1472, 1474, 1476, 1478, 1480, 1482, 1484, 1486, 1488, 1490, 1492, 1494, 1496, 1498, 1500, 1502, 1504, 1506, 1508, 1510, 1512, 1514, 1516, 1518, 1520, 1522, 1524, 1526, 1528, 1530, 1532, 1534, 1536, 1538, 1540, 1542, 1544, 1546, 1548].filterMap (fun i => lw_tbl[i]?) := by decide +kernel
  rw [h] at hw
  obtain ⟨i, -, hi⟩ := List.mem_filterMap.mp hw
  refine hl_in (List.mem_of_getElem? hi) ?_
  have hg : ([1384, 1386, 1388, 1390, 1392, 1394, 1396, 1398, 1400, 1402, 1404, 1406, 1408, 1410, 1412, 1414, 1416, 1418, 1420, 1422, 1424, 1426, 1428, 1430, 1432, 1434, 1436, 1438, 1440, 1442, 1444, 1446, 1448, 1450, 1452, 1454, 1456, 1458, 1460, 1462, 1464, 1466, 1468, 1470, 1472, 1474, 1476, 1478, 1480, 1482, 1484, 1486, 1488, 1490, 1492, 1494, 1496, 1498, 1500, 1502, 1504, 1506, 1508, 1510, 1512, 1514, 1516, 1518, 1520, 1522, 1524, 1526, 1528, 1530, 1532, 1534, 1536, 1538, 1540, 1542, 1544, 1546, 1548].filterMap (fun i => lw_tbl[i]?)).all goodWord = true := by decide +kernel
  exact List.all_eq_true.mp hg w hw
abbrev hl_cl : List vw_C := [("HymnLamps", hl_F0, 14), ("HymnLamps$Tape", hl_F1, 2), ("HymnLamps$Reader", hl_F2, 7), ("HymnLamps$Ground", hl_F3, 15), ("HymnLamps$Teller", hl_F4, 3), ("HymnLamps$Walks", hl_F5, 2), ("HymnLamps$View", hl_F6, 4), ("HymnLamps$Paths", hl_F7, 11), ("HymnLamps$Question", hl_F8, 10), ("HymnLamps$Acts", hl_F9, 4), ("HymnLamps$Images", hl_F10, 3), ("HymnLampsModel", hl_F11, 83)]
/-- field kinds by class: 0 int, 1 long, 2 reference, 3 boolean -/
def hl_ft : List (List Nat) := [[2, 2, 2, 2, 2, 2, 2, 2, 2, 2, 2, 3, 1, 1], [2, 0], [2, 0, 0, 0, 0, 0, 0], [0, 0, 1, 0, 2, 2, 2, 2, 0, 2, 2, 2, 0, 2, 2], [2, 2, 0], [2, 2], [2, 2, 1, 1], [2, 2, 2, 2, 0, 2, 2, 2, 2, 2, 2], [2, 2, 2, 2, 2, 2, 0, 0, 0, 0], [2, 2, 2, 0], [2, 2, 0], [2, 0, 0, 0, 0, 0, 0, 0, 0, 0, 2, 2, 2, 2, 2, 2, 2, 2, 2, 0, 0, 0, 0, 2, 2, 2, 2, 2, 2, 0, 0, 0, 2, 2, 2, 0, 0, 0, 0, 0, 2, 0, 2, 0, 2, 2, 2, 3, 2, 2, 0, 0, 2, 2, 2, 2, 2, 2, 2, 2, 2, 2, 2, 2, 2, 2, 2, 2, 2, 2, 2, 2, 0, 2, 0, 0, 0, 2, 0, 1, 3, 2, 0]]
/-- places: class (below 100) or kind of array (100 int, 101 byte, 102 boolean, 103 char, 104 long, 105 of rows), and length -/
def hl_sh : List (Nat × Nat) := [(0, 0), (1, 0), (101, 1600), (2, 0), (3, 0), (100, 10), (100, 10), (100, 10), (104, 10), (100, 8), (104, 8), (104, 8), (100, 10), (100, 10), (3, 0), (100, 10), (100, 10), (100, 10), (104, 10), (100, 8), (104, 8), (104, 8), (100, 10), (100, 10), (4, 0), (5, 0), (105, 10), (100, 100), (100, 100), (100, 100), (100, 100), (100, 100), (100, 100), (100, 100), (100, 100), (100, 100), (100, 100), (6, 0), (7, 0), (100, 54), (100, 54), (100, 8), (100, 8), (105, 8), (100, 8), (100, 8), (100, 8), (100, 8), (100, 8), (100, 8), (100, 8), (100, 8), (100, 256), (100, 256), (100, 8), (8, 0), (100, 1600), (104, 64), (9, 0), (100, 20), (100, 20), (104, 20), (10, 0), (100, 141), (11, 0), (100, 1600), (103, 6), (103, 4), (103, 6), (103, 2), (103, 4), (103, 5), (103, 4), (103, 4), (103, 4), (100, 6), (102, 108), (104, 40), (100, 300), (100, 864), (100, 40), (100, 2916), (100, 54), (100, 1000), (100, 10), (100, 8), (100, 2304), (100, 2304), (100, 10), (100, 54), (100, 3000), (103, 5), (103, 4), (103, 5), (103, 5), (103, 4), (103, 5), (103, 3), (103, 3), (103, 2), (103, 3), (103, 3), (103, 3), (103, 4), (103, 5), (103, 3), (103, 4), (103, 2), (103, 3), (103, 4), (100, 1700), (100, 1700), (104, 1700), (100, 142)]
def hl_n : Nat := 114
def hl_rft : List (List Nat) := [[1, 3, 4, 14, 24, 25, 37, 38, 55, 58, 62, 0, 0, 0], [2, 0], [], [1, 0, 0, 0, 0, 0, 0], [0, 0, 0, 0, 5, 6, 7, 8, 0, 9, 10, 11, 0, 12, 13], [], [], [], [], [], [], [], [], [], [0, 0, 0, 0, 15, 16, 17, 18, 0, 19, 20, 21, 0, 22, 23], [], [], [], [], [], [], [], [], [], [3, 14, 0], [4, 26], [], [], [], [], [], [], [], [], [], [], [], [4, 25, 0, 0], [4, 25, 39, 40, 0, 41, 42, 43, 52, 53, 54], [], [], [], [], [], [], [], [], [], [], [], [], [], [], [], [], [3, 4, 25, 37, 56, 57, 0, 0, 0, 0], [], [], [59, 60, 61, 0], [], [], [], [4, 63, 0], [], [65, 0, 0, 0, 0, 0, 0, 0, 0, 0, 66, 67, 68, 69, 70, 71, 72, 73, 74, 0, 0, 0, 0, 75, 76, 77, 78, 79, 80, 0, 0, 0, 81, 82, 83, 0, 0, 0, 0, 0, 84, 0, 85, 0, 86, 87, 88, 0, 89, 90, 0, 0, 91, 92, 93, 94, 95, 96, 97, 98, 99, 100, 101, 102, 103, 104, 105, 106, 107, 108, 109, 110, 0, 111, 0, 0, 0, 112, 0, 0, 0, 113, 0], [], [], [], [], [], [], [], [], [], [], [], [], [], [], [], [], [], [], [], [], [], [], [], [], [], [], [], [], [], [], [], [], [], [], [], [], [], [], [], [], [], [], [], [], [], [], [], [], []]
def hl_nS : Nat := 38
/-- string constants: whose, entry, text, bytes -/
def hl_str : List (String × Nat × String × List Int32) := [("HymnLamps$Teller", 74, "ground", [103, 114, 111, 117, 110, 100]), ("HymnLamps$Teller", 43, "wall", [119, 97, 108, 108]), ("HymnLamps$Teller", 52, "person", [112, 101, 114, 115, 111, 110]), ("HymnLamps$Reader", 83, "ground", [103, 114, 111, 117, 110, 100]), ("HymnLamps$Reader", 85, "wall", [119, 97, 108, 108]), ("HymnLamps$Reader", 87, "person", [112, 101, 114, 115, 111, 110]), ("HymnLamps$Reader", 89, "at", [97, 116]), ("HymnLamps$Reader", 90, "lamp", [108, 97, 109, 112]), ("HymnLamps$Reader", 92, "walks", [119, 97, 108, 107, 115]), ("HymnLamps$Reader", 94, "word", [119, 111, 114, 100]), ("HymnLamps$Reader", 96, "hymn", [104, 121, 109, 110]), ("HymnLamps$Reader", 98, "beat", [98, 101, 97, 116]), ("HymnLamps$Teller", 119, "at", [97, 116]), ("HymnLamps$Teller", 124, "lamp", [108, 97, 109, 112]), ("HymnLamps$Teller", 126, "walks", [119, 97, 108, 107, 115]), ("HymnLamps", 355, "neswx", [110, 101, 115, 119, 120]), ("HymnLamps$Teller", 57, "word", [119, 111, 114, 100]), ("HymnLamps$Teller", 62, "hymn", [104, 121, 109, 110]), ("HymnLamps$Teller", 175, "beat", [98, 101, 97, 116]), ("HymnLamps$Question", 77, "first", [102, 105, 114, 115, 116]), ("HymnLamps$Question", 83, "last", [108, 97, 115, 116]), ("HymnLamps$Question", 85, "often", [111, 102, 116, 101, 110]), ("HymnLamps$Question", 87, "total", [116, 111, 116, 97, 108]), ("HymnLamps$Question", 89, "most", [109, 111, 115, 116]), ("HymnLamps$Question", 91, "least", [108, 101, 97, 115, 116]), ("HymnLamps$Question", 108, "not", [110, 111, 116]), ("HymnLamps$Question", 121, "all", [97, 108, 108]), ("HymnLamps$Question", 149, "beat", [98, 101, 97, 116]), ("HymnLamps$Question", 151, "clash", [99, 108, 97, 115, 104]), ("HymnLamps$Question", 153, "lit", [108, 105, 116]), ("HymnLamps$Question", 155, "read", [114, 101, 97, 100]), ("HymnLamps$Question", 157, "at", [97, 116]), ("HymnLamps$Question", 159, "far", [102, 97, 114]), ("HymnLamps$Question", 161, "glow", [103, 108, 111, 119]), ("HymnLamps$Question", 142, "min", [109, 105, 110]), ("HymnLamps$Question", 144, "max", [109, 97, 120]), ("HymnLamps$Question", 100, "and", [97, 110, 100]), ("HymnLamps$Question", 102, "or", [111, 114])]
