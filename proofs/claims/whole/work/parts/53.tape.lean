/-! the tape: n bytes b on both sides -/
def hp_tX (n : Nat) (b : Nat → Nat) (σ : hl_M) : Prop := σ.1 1 1 = nI n ∧ ∀ k, k < n → (σ.1 2 k) &&& 255 = nI (b k)
def hp_tM (n : Nat) (b : Nat → Nat) (σ : hl_M) : Prop := σ.1 64 1 = nI n ∧ ∀ k, k < n → σ.1 65 k = nI (b k)
/-- a number's byte -/
def hp_by (x : Int32) : Nat := (x &&& 255).toInt.toNat
theorem hp_by_lt (x : Int32) : hp_by x < 256 ∧ x &&& 255 = nI (hp_by x) := by
  obtain ⟨j, hj, e⟩ := pk_andE x (m := 255) 8 (by decide)
  unfold hp_by
  rw [e]
  have h : (nI j).toInt = j := nI_toInt (by omega)
  rw [h]
  exact ⟨by omega, by congr 1⟩
def hp_fw (v1 v2 v3 v4 v5 : Int32) (i : Nat) : Int32 := if i < 4 then v1 else if i < 8 then v2 else if i < 12 then v3 else if i < 16 then v4 else v5
/-- byte i of five numbers -/
def hp_fb (v1 v2 v3 v4 v5 : Int32) (i : Nat) : Nat := hp_by (hp_fw v1 v2 v3 v4 v5 i >>> ((8 * (3 - (nI (i % 4)))) &&& 31))
def hp_app (n : Nat) (b c : Nat → Nat) (k : Nat) : Nat := if k < n then b k else c (k - n)
