/-! the tape on both sides -/
theorem hl_m255 : ∀ j : Fin 32, ¬ j.val < 8 → (Int32.toBitVec 255)[j.val] = false := by decide
theorem hl_byte (x : Int32) : (vp_nar .byte (x.toInt8.toInt32)) &&& 255 = x &&& 255 := by
  have h : vp_nar .byte (x.toInt8.toInt32) = (x.toInt8.toInt32).toInt8.toInt32 := rfl
  rw [h]
  apply Int32.toBitVec_inj.mp
  simp only [Int32.toBitVec_and, Int8.toBitVec_toInt32, Int32.toBitVec_toInt8]
  ext i hi
  simp only [BitVec.getElem_and, BitVec.getElem_signExtend]
  by_cases h8 : i < 8
  · rw [dif_pos h8, dif_pos hi, dif_pos h8, dif_pos hi]
  · have h9 : (Int32.toBitVec 255)[i] = false := by
      exact hl_m255 ⟨i, hi⟩ h8
    rw [h9, Bool.and_false, Bool.and_false]
