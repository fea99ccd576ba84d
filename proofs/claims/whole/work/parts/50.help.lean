/-! helpers for functions over the memory: loops, reading behind writing, small numbers -/
theorem hl_lp_s {S E : Type} {b : S → Option (S ⊕ E)} {n : Nat} {s s' : S} (h : b s = some (.inl s')) : hl_lp b (n + 1) s = hl_lp b n s' := by
  show (b s).bind _ = _
  rw [h]
  rfl
theorem hl_lp_e {S E : Type} {b : S → Option (S ⊕ E)} {n : Nat} {s : S} {x : E} (h : b s = some (.inr x)) : hl_lp b (n + 1) s = some x := by
  show (b s).bind _ = _
  rw [h]
  rfl
/-- a loop by an invariant with a measure -/
theorem hl_lp_inv {S E : Type} {b : S → Option (S ⊕ E)} {I : Nat → S → Prop} {Q : E → Prop} (hs : ∀ k s, I k s → (∃ x, b s = some (.inr x) ∧ Q x) ∨ ∃ s' k', b s = some (.inl s') ∧ k' < k ∧ I k' s') : ∀ n k s, I k s → k < n → ∃ x, hl_lp b n s = some x ∧ Q x := by
  intro n
  induction n with
  | zero => intro k s _ h; omega
  | succ n ih =>
    intro k s hI h
    rcases hs k s hI with ⟨x, hx, hq⟩ | ⟨s', k', hx, hk, hI'⟩
    · exact ⟨x, hl_lp_e hx, hq⟩
    · rw [hl_lp_s hx]
      exact ih k' s' hI' (by omega)
theorem hl_rd {σ : hl_M} {p f q g : Nat} {v : Int32} : (hl_si σ p f v).1 q g = if q = p ∧ g = f then v else σ.1 q g := by
  unfold hl_si upd
  by_cases h : q = p
  · subst h
    by_cases hg : g = f
    · simp [hg]
    · simp [hg]
  · simp [h]
theorem hl_rdl {σ : hl_M} {p f q g : Nat} {v : Int64} : (hl_sl σ p f v).2 q g = if q = p ∧ g = f then v else σ.2 q g := by
  unfold hl_sl vp_updL
  by_cases h : q = p
  · subst h
    by_cases hg : g = f
    · simp [hg]
    · simp [hg]
  · simp [h]
theorem hl_si2 {σ : hl_M} {p f : Nat} {v : Int32} : (hl_si σ p f v).2 = σ.2 := rfl
theorem hl_sl1 {σ : hl_M} {p f : Nat} {v : Int64} : (hl_sl σ p f v).1 = σ.1 := rfl
theorem hl_nIi {k : Nat} (h : k < 2 ^ 31) : (nI k).toInt = k := nI_toInt h
theorem hl_nIb {k n : Nat} (h : k < 2 ^ 31) : hl_b (nI k) n ↔ k < n := by
  unfold hl_b
  rw [nI_toInt h]
  omega
