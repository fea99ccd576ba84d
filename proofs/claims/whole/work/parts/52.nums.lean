/-! small numbers: comparing and computing by naturals -/
theorem hl_lt {a b : Nat} (ha : a < 2 ^ 31) (hb : b < 2 ^ 31) : nI a < nI b ↔ a < b := by
  rw [Int32.lt_iff_toInt_lt, nI_toInt ha, nI_toInt hb]
  omega
theorem hl_le {a b : Nat} (ha : a < 2 ^ 31) (hb : b < 2 ^ 31) : nI a ≤ nI b ↔ a ≤ b := by
  rw [Int32.le_iff_toInt_le, nI_toInt ha, nI_toInt hb]
  omega
theorem hl_eq {a b : Nat} (ha : a < 2 ^ 31) (hb : b < 2 ^ 31) : nI a = nI b ↔ a = b := nI_eq ha hb
theorem hl_lit (n : Nat) : (OfNat.ofNat n : Int32) = nI n := rfl
theorem hl_nsub {a b : Nat} (h : b ≤ a) : nI a - nI b = nI (a - b) := by
  have e : a = (a - b) + b := by omega
  have h2 : nI a = nI (a - b) + nI b := by rw [nI_add, ← e]
  rw [h2, Int32.add_sub_cancel]
theorem hl_nm1 {a : Nat} (h : a < 2 ^ 31) : ¬ nI a = -1 := by
  intro e
  have := congrArg Int32.toInt e
  rw [nI_toInt h] at this
  have h2 : (-1 : Int32).toInt = -1 := by decide
  omega
theorem hl_neg_lt {a : Nat} (h : a < 2 ^ 31) : ¬ nI a < 0 := nI_pos h
/-- a number that isn't negative -/
theorem hl_nn {x : Int32} (h : ¬ x < 0) : ∃ k, k < 2 ^ 31 ∧ x = nI k := nI_of h
theorem hl_bn {x : Int32} {n : Nat} (h : hl_b x n) (hn : n < 2 ^ 31) : ∃ k, k < n ∧ x = nI k := by
  obtain ⟨h1, h2⟩ := h
  have h3 : ¬ x < 0 := by rw [Int32.lt_iff_toInt_lt]; show ¬ x.toInt < 0; omega
  obtain ⟨k, hk, rfl⟩ := nI_of h3
  rw [nI_toInt hk] at h2
  exact ⟨k, by omega, rfl⟩
/-- places that may differ -/
def hl_fr (ps : List Nat) (σ τ : hl_M) : Prop := ∀ q, q ∉ ps → τ.1 q = σ.1 q ∧ τ.2 q = σ.2 q
theorem hl_fr.rf {ps : List Nat} {σ : hl_M} : hl_fr ps σ σ := fun _ _ => ⟨rfl, rfl⟩
theorem hl_fr.tr {ps : List Nat} {σ τ υ : hl_M} (h1 : hl_fr ps σ τ) (h2 : hl_fr ps τ υ) : hl_fr ps σ υ := fun q hq => ⟨(h2 q hq).1.trans (h1 q hq).1, (h2 q hq).2.trans (h1 q hq).2⟩
theorem hl_fr.mono {ps qs : List Nat} {σ τ : hl_M} (h : hl_fr ps σ τ) (hs : ∀ q ∈ ps, q ∈ qs) : hl_fr qs σ τ := fun q hq => h q (fun z => hq (hs q z))
theorem hl_fr.si {ps : List Nat} {σ τ : hl_M} {p f : Nat} {v : Int32} (h : hl_fr ps σ τ) (hp : p ∈ ps) : hl_fr ps σ (hl_si τ p f v) := fun q hq => ⟨(hl_si_ne (fun e => hq (by rw [e]; exact hp))).trans (h q hq).1, (h q hq).2⟩
theorem hl_fr.sl {ps : List Nat} {σ τ : hl_M} {p f : Nat} {v : Int64} (h : hl_fr ps σ τ) (hp : p ∈ ps) : hl_fr ps σ (hl_sl τ p f v) := fun q hq => ⟨(h q hq).1, (hl_sl_ne (fun e => hq (by rw [e]; exact hp))).trans (h q hq).2⟩
theorem hl_fr.i {ps : List Nat} {σ τ : hl_M} (h : hl_fr ps σ τ) {q f : Nat} (hq : q ∉ ps) : τ.1 q f = σ.1 q f := congrFun (h q hq).1 f
theorem hl_fr.l {ps : List Nat} {σ τ : hl_M} (h : hl_fr ps σ τ) {q f : Nat} (hq : q ∉ ps) : τ.2 q f = σ.2 q f := congrFun (h q hq).2 f
