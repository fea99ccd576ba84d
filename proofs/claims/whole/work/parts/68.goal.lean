/-! who goes where, pure: the i-th with a property; least sums by sets -/
def hp_nth (p : Nat → Bool) : Nat → Nat → Nat
  | 0, _ => 0
  | n + 1, i => if p n = true ∧ fb_ct p n = i then n else hp_nth p n i
theorem hp_nth_s (p : Nat → Bool) (n i : Nat) : hp_nth p (n + 1) i = if p n = true ∧ fb_ct p n = i then n else hp_nth p n i := rfl
theorem hp_nth_ok (p : Nat → Bool) : ∀ n i, i < fb_ct p n → hp_nth p n i < n ∧ p (hp_nth p n i) = true ∧ fb_ct p (hp_nth p n i) = i
  | 0, i, h => absurd h (Nat.not_lt_zero i)
  | n + 1, i, h => by
    rw [hp_nth_s]
    by_cases e : p n = true ∧ fb_ct p n = i
    · rw [if_pos e]; exact ⟨by omega, e.1, e.2⟩
    · rw [if_neg e]
      rw [fb_ct_succ] at h
      have hi : i < fb_ct p n := by
        by_cases e2 : p n = true
        · rw [if_pos e2] at h
          have : ¬ fb_ct p n = i := fun z => e ⟨e2, z⟩
          omega
        · rw [if_neg e2] at h; omega
      obtain ⟨a, b, c⟩ := hp_nth_ok p n i hi
      exact ⟨by omega, b, c⟩
theorem hp_nth_st (p : Nat → Bool) {k : Nat} : ∀ j i, i < fb_ct p k → hp_nth p (k + j) i = hp_nth p k i
  | 0, _, _ => rfl
  | j + 1, i, h => by
    rw [← Nat.add_assoc, hp_nth_s, if_neg, hp_nth_st p j i h]
    rintro ⟨_, z⟩
    have := fb_ct_mono p (show k ≤ k + j by omega)
    omega
theorem hp_nth_stable (p : Nat → Bool) {k n i : Nat} (hkn : k ≤ n) (h : i < fb_ct p k) : hp_nth p n i = hp_nth p k i := by
  have := hp_nth_st p (k := k) (n - k) i h
  rwa [show k + (n - k) = n by omega] at this
/-- the least of those that are ok, U at the most -/
def hp_mn (U : Nat) (ok : Nat → Bool) (f : Nat → Nat) : Nat → Nat
  | 0 => U
  | k + 1 => if ok k = true ∧ f k < hp_mn U ok f k then f k else hp_mn U ok f k
theorem hp_mn_s (U : Nat) (ok : Nat → Bool) (f : Nat → Nat) (k : Nat) : hp_mn U ok f (k + 1) = if ok k = true ∧ f k < hp_mn U ok f k then f k else hp_mn U ok f k := rfl
theorem hp_mn_le (U : Nat) (ok : Nat → Bool) (f : Nat → Nat) : ∀ n, hp_mn U ok f n ≤ U
  | 0 => Nat.le_refl U
  | n + 1 => by
    have := hp_mn_le U ok f n
    rw [hp_mn_s]
    split <;> omega
theorem hp_mn_at (U : Nat) (ok : Nat → Bool) (f : Nat → Nat) : ∀ n, hp_mn U ok f n < U → ∃ k, k < n ∧ ok k = true ∧ f k = hp_mn U ok f n
  | 0, h => absurd h (Nat.lt_irrefl U)
  | n + 1, h => by
    rw [hp_mn_s] at h ⊢
    by_cases e : ok n = true ∧ f n < hp_mn U ok f n
    · rw [if_pos e]; exact ⟨n, by omega, e.1, rfl⟩
    · rw [if_neg e] at h ⊢
      obtain ⟨k, a, b, c⟩ := hp_mn_at U ok f n h
      exact ⟨k, by omega, b, c⟩
/-- 1000 there is 10000 here -/
def hp_ph (v : Nat) : Nat := if v = 1000 then 10000 else v
theorem hp_ph_n {v : Nat} (h : v < 1000) : hp_ph v = v := if_neg (by omega)
/-- one is the other's picture: both without a bound, or alike -/
def hp_sh (B v x : Nat) : Prop := (1000 ≤ v ∧ 10000 ≤ x) ∨ (v ≤ B ∧ x = v)
theorem hp_mn_sh {B : Nat} {ok : Nat → Bool} {f g : Nat → Nat} (hB : B < 1000) : ∀ n, (∀ k, k < n → hp_sh B (f k) (g k)) → (hp_mn 1000 ok f n = 1000 ∧ hp_mn 10000 ok g n = 10000) ∨ (hp_mn 1000 ok f n ≤ B ∧ hp_mn 10000 ok g n = hp_mn 1000 ok f n)
  | 0, _ => .inl ⟨rfl, rfl⟩
  | n + 1, h => by
    have ih := hp_mn_sh (ok := ok) hB n (fun k hk => h k (by omega))
    have hn := h n (by omega)
    unfold hp_sh at hn
    rw [hp_mn_s, hp_mn_s]
    by_cases e : ok n = true
    · by_cases e1 : f n < hp_mn 1000 ok f n
      · rw [if_pos ⟨e, e1⟩, if_pos ⟨e, by omega⟩]
        right
        omega
      · rw [if_neg (fun z => e1 z.2), if_neg (fun z => e1 (by have := z.2; omega))]
        exact ih
    · rw [if_neg (fun z => e z.1), if_neg (fun z => e z.1)]
      exact ih
/-- the least sum of m more with a set taken; the least of the most steps -/
def hp_L (U N : Nat) (c : Nat → Nat → Nat) : Nat → Nat → Nat
  | 0, _ => 0
  | m + 1, z => hp_mn U (fun k => !z.testBit k) (fun k => c (N - (m + 1)) k + hp_L U N c m (z ||| 2 ^ k)) N
def hp_S (U N : Nat) (c : Nat → Nat → Nat) : Nat → Nat → Nat
  | 0, _ => 0
  | m + 1, z => hp_mn U (fun k => !z.testBit k) (fun k => if c (N - (m + 1)) k < hp_S U N c m (z ||| 2 ^ k) then hp_S U N c m (z ||| 2 ^ k) else c (N - (m + 1)) k) N
theorem hp_L_s (U N : Nat) (c : Nat → Nat → Nat) (m z : Nat) : hp_L U N c (m + 1) z = hp_mn U (fun k => !z.testBit k) (fun k => c (N - (m + 1)) k + hp_L U N c m (z ||| 2 ^ k)) N := rfl
theorem hp_S_s (U N : Nat) (c : Nat → Nat → Nat) (m z : Nat) : hp_S U N c (m + 1) z = hp_mn U (fun k => !z.testBit k) (fun k => if c (N - (m + 1)) k < hp_S U N c m (z ||| 2 ^ k) then hp_S U N c m (z ||| 2 ^ k) else c (N - (m + 1)) k) N := rfl
def hp_cst (c : Nat → Nat → Nat) : Prop := ∀ i k, c i k = 1000 ∨ c i k < 54
theorem hp_L_sh {N : Nat} {c : Nat → Nat → Nat} (hc : hp_cst c) : ∀ m, m ≤ 8 → ∀ z, (hp_L 1000 N c m z = 1000 ∧ hp_L 10000 N (fun i k => hp_ph (c i k)) m z = 10000) ∨ (hp_L 1000 N c m z ≤ 54 * m ∧ hp_L 10000 N (fun i k => hp_ph (c i k)) m z = hp_L 1000 N c m z)
  | 0, _, z => .inr ⟨Nat.le_refl 0, rfl⟩
  | m + 1, hm, z => by
    have ih := hp_L_sh (N := N) hc m (by omega)
    rw [hp_L_s, hp_L_s]
    apply hp_mn_sh (by omega)
    intro k hk
    have h1 := hc (N - (m + 1)) k
    have h2 := ih (z ||| 2 ^ k)
    unfold hp_sh
    rcases h1 with h1 | h1
    · left
      have e : hp_ph (c (N - (m + 1)) k) = 10000 := by unfold hp_ph; rw [if_pos h1]
      rw [e, h1]
      omega
    · rw [hp_ph_n (by omega)]
      rcases h2 with ⟨h3, h4⟩ | ⟨h3, h4⟩
      · left; omega
      · right; omega
theorem hp_S_sh {N : Nat} {c : Nat → Nat → Nat} (hc : hp_cst c) : ∀ m z, (hp_S 1000 N c m z = 1000 ∧ hp_S 10000 N (fun i k => hp_ph (c i k)) m z = 10000) ∨ (hp_S 1000 N c m z ≤ 54 ∧ hp_S 10000 N (fun i k => hp_ph (c i k)) m z = hp_S 1000 N c m z)
  | 0, z => .inr ⟨by show 0 ≤ 54; omega, rfl⟩
  | m + 1, z => by
    have ih := hp_S_sh (N := N) hc m
    rw [hp_S_s, hp_S_s]
    apply hp_mn_sh (by omega)
    intro k hk
    have h1 := hc (N - (m + 1)) k
    have h2 := ih (z ||| 2 ^ k)
    unfold hp_sh
    rcases h1 with h1 | h1
    · left
      have e : hp_ph (c (N - (m + 1)) k) = 10000 := by unfold hp_ph; rw [if_pos h1]
      rw [e, h1]
      constructor <;> split <;> omega
    · rw [hp_ph_n (by omega)]
      rcases h2 with ⟨h3, h4⟩ | ⟨h3, h4⟩
      · left
        rw [h3, h4, if_pos (by omega), if_pos (by omega)]
        omega
      · right
        rw [h4]
        constructor
        · split <;> omega
        · rfl
/-- the first that keeps to the least; the sets that come about -/
def hp_k (N : Nat) (c : Nat → Nat → Nat) (i z : Nat) : Nat := fa_first (fun k => !z.testBit k && decide (c i k + hp_L 1000 N c (N - (i + 1)) (z ||| 2 ^ k) = hp_L 1000 N c (N - i) z)) N
def hp_set (N : Nat) (c : Nat → Nat → Nat) : Nat → Nat
  | 0 => 0
  | i + 1 => hp_set N c i ||| 2 ^ hp_k N c i (hp_set N c i)
def hp_ch (N : Nat) (c : Nat → Nat → Nat) (i : Nat) : Nat := hp_k N c i (hp_set N c i)
theorem hp_set_s (N : Nat) (c : Nat → Nat → Nat) (i : Nat) : hp_set N c (i + 1) = hp_set N c i ||| 2 ^ hp_ch N c i := rfl
theorem hp_ch_ok {N : Nat} {c : Nat → Nat → Nat} : ∀ i, i < N → hp_L 1000 N c N 0 < 1000 → hp_L 1000 N c (N - i) (hp_set N c i) < 1000 ∧ hp_ch N c i < N ∧ (hp_set N c i).testBit (hp_ch N c i) = false ∧ c i (hp_ch N c i) + hp_L 1000 N c (N - (i + 1)) (hp_set N c i ||| 2 ^ hp_ch N c i) = hp_L 1000 N c (N - i) (hp_set N c i) ∧ ∀ k, k < hp_ch N c i → (hp_set N c i).testBit k = true ∨ c i k + hp_L 1000 N c (N - (i + 1)) (hp_set N c i ||| 2 ^ k) ≠ hp_L 1000 N c (N - i) (hp_set N c i) := by
  intro i
  have key : i < N → hp_L 1000 N c (N - i) (hp_set N c i) < 1000 → hp_ch N c i < N ∧ (hp_set N c i).testBit (hp_ch N c i) = false ∧ c i (hp_ch N c i) + hp_L 1000 N c (N - (i + 1)) (hp_set N c i ||| 2 ^ hp_ch N c i) = hp_L 1000 N c (N - i) (hp_set N c i) ∧ ∀ k, k < hp_ch N c i → (hp_set N c i).testBit k = true ∨ c i k + hp_L 1000 N c (N - (i + 1)) (hp_set N c i ||| 2 ^ k) ≠ hp_L 1000 N c (N - i) (hp_set N c i) := by
    intro hi hlt
    have f2 := fa_first_no (fun k => !(hp_set N c i).testBit k && decide (c i k + hp_L 1000 N c (N - (i + 1)) (hp_set N c i ||| 2 ^ k) = hp_L 1000 N c (N - i) (hp_set N c i))) N
    have f3 := fa_first_yes (fun k => !(hp_set N c i).testBit k && decide (c i k + hp_L 1000 N c (N - (i + 1)) (hp_set N c i ||| 2 ^ k) = hp_L 1000 N c (N - i) (hp_set N c i))) N
    have ee : fa_first (fun k => !(hp_set N c i).testBit k && decide (c i k + hp_L 1000 N c (N - (i + 1)) (hp_set N c i ||| 2 ^ k) = hp_L 1000 N c (N - i) (hp_set N c i))) N = hp_ch N c i := rfl
    rw [ee] at f2 f3
    have hex : ∃ k, k < N ∧ (hp_set N c i).testBit k = false ∧ c i k + hp_L 1000 N c (N - (i + 1)) (hp_set N c i ||| 2 ^ k) = hp_L 1000 N c (N - i) (hp_set N c i) := by
      have e1 : N - i = (N - (i + 1)) + 1 := by omega
      rw [e1, hp_L_s] at hlt ⊢
      obtain ⟨k, a, b, d⟩ := hp_mn_at _ _ _ _ hlt
      have e2 : N - (N - (i + 1) + 1) = i := by omega
      rw [e2] at d ⊢
      exact ⟨k, a, by simpa using b, d⟩
    have hlt2 : hp_ch N c i < N := by
      rcases Nat.lt_or_ge (hp_ch N c i) N with q | q
      · exact q
      · obtain ⟨k, a, b, d⟩ := hex
        have := f2 k (by omega)
        simp [b, d] at this
    have h3 := f3 hlt2
    simp only [Bool.and_eq_true, Bool.not_eq_true', decide_eq_true_eq] at h3
    refine ⟨hlt2, h3.1, h3.2, fun k hk => ?_⟩
    have := f2 k hk
    simp only [Bool.and_eq_false_iff, Bool.not_eq_false', decide_eq_false_iff_not] at this
    exact this
  have fin : ∀ i, i < N → hp_L 1000 N c N 0 < 1000 → hp_L 1000 N c (N - i) (hp_set N c i) < 1000 := by
    intro i
    induction i with
    | zero => intro _ h; exact h
    | succ j ih => ?_
    intro hj h
    have h1 := ih (by omega) h
    have hlt := h1
    have hex : ∃ k, k < N ∧ (hp_set N c j).testBit k = false ∧ c j k + hp_L 1000 N c (N - (j + 1)) (hp_set N c j ||| 2 ^ k) = hp_L 1000 N c (N - j) (hp_set N c j) := by
      have e1 : N - j = (N - (j + 1)) + 1 := by omega
      rw [e1, hp_L_s] at hlt ⊢
      obtain ⟨k, a, b, d⟩ := hp_mn_at _ _ _ _ hlt
      have e2 : N - (N - (j + 1) + 1) = j := by omega
      rw [e2] at d ⊢
      exact ⟨k, a, by simpa using b, d⟩
    have f2 := fa_first_no (fun k => !(hp_set N c j).testBit k && decide (c j k + hp_L 1000 N c (N - (j + 1)) (hp_set N c j ||| 2 ^ k) = hp_L 1000 N c (N - j) (hp_set N c j))) N
    have f3 := fa_first_yes (fun k => !(hp_set N c j).testBit k && decide (c j k + hp_L 1000 N c (N - (j + 1)) (hp_set N c j ||| 2 ^ k) = hp_L 1000 N c (N - j) (hp_set N c j))) N
    have ee : fa_first (fun k => !(hp_set N c j).testBit k && decide (c j k + hp_L 1000 N c (N - (j + 1)) (hp_set N c j ||| 2 ^ k) = hp_L 1000 N c (N - j) (hp_set N c j))) N = hp_ch N c j := rfl
    rw [ee] at f2 f3
    have hlt2 : hp_ch N c j < N := by
      rcases Nat.lt_or_ge (hp_ch N c j) N with q | q
      · exact q
      · obtain ⟨k, a, b, d⟩ := hex
        have := f2 k (by omega)
        simp [b, d] at this
    have h3 := f3 hlt2
    simp only [Bool.and_eq_true, Bool.not_eq_true', decide_eq_true_eq] at h3
    rw [hp_set_s]
    have := h3.2
    omega
  intro hi h
  have h1 := fin i hi h
  exact ⟨h1, key hi h1⟩
/-! sets of eight at most -/
def hp_pz (z : Nat) : Nat := fb_ct z.testBit 8
theorem hp_or_lt {N z k : Nat} (hz : z < 2 ^ N) (hk : k < N) : z ||| 2 ^ k < 2 ^ N := Nat.or_lt_two_pow hz (Nat.pow_lt_pow_right (by decide) hk)
theorem hp_pz_or : ∀ z, z < 256 → ∀ k, k < 8 → z.testBit k = false → hp_pz (z ||| 2 ^ k) = hp_pz z + 1 ∧ z < z ||| 2 ^ k := by decide +kernel
theorem hp_pz_lt : ∀ z, z < 256 → ∀ N, N < 9 → z < 2 ^ N - 1 → hp_pz z < N := by decide +kernel
theorem hp_pz_all : ∀ N, N < 9 → hp_pz (2 ^ N - 1) = N := by decide +kernel
theorem hp_pz_one : ∀ z, z < 256 → ∀ N, N < 9 → z < 2 ^ N → hp_pz z = N → z = 2 ^ N - 1 := by decide +kernel
theorem hp_orI : ∀ z, z < 256 → ∀ k, k < 8 → nI z ||| ((1 : Int32) <<< (nI k &&& 31)) = nI (z ||| 2 ^ k) := by decide +kernel
theorem hp_orE {z k : Nat} (hz : z < 256) (hk : k < 8) : (nI (z ||| 2 ^ k) = nI z) ↔ z.testBit k = true := by
  have h1 : z ||| 2 ^ k < 2 ^ 8 := hp_or_lt (N := 8) hz hk
  rw [hl_eq (by omega) (by omega)]
  constructor
  · intro e
    rcases Bool.eq_false_or_eq_true (z.testBit k) with h | h
    · exact h
    · have := (hp_pz_or z hz k hk h).2; omega
  · intro e
    have : ∀ z, z < 256 → ∀ k, k < 8 → z.testBit k = true → z ||| 2 ^ k = z := by decide +kernel
    exact this z hz k hk e
theorem hp_bitI : ∀ z, z < 256 → ∀ k, k < 8 → ((((nI z >>> (nI k &&& 31)) &&& 1) = 1) ↔ z.testBit k = true) := by decide +kernel
theorem hp_allI : ∀ N, N < 9 → ((1 : Int32) <<< (nI N &&& 31)) - 1 = nI (2 ^ N - 1) := by decide +kernel
theorem hp_pzX : ∀ z, z < 256 → f_Int_bitCount (nI z) = nI (hp_pz z) := by decide +kernel
def hp_pzL (s : Int32 × Int32) : Option ((Int32 × Int32) ⊕ Int32) := if s.2 = 0 then some (.inr s.1) else some (.inl ((s.1 + 1, s.2 &&& (s.2 - 1))))
theorem hp_pzM0 : ∀ z, z < 256 → hl_lp hp_pzL hl_big (0, nI z) = some (nI (hp_pz z)) := by decide +kernel
theorem hp_pzM (v1 v2 v3 v4 : Int32) (σ : hl_M) {z : Nat} (hz : z < 256) : hl_lp (f_M_finds_L6 v1 v2 v3 v4 σ) hl_big (0, nI z) = some (nI (hp_pz z)) := hp_pzM0 z hz
