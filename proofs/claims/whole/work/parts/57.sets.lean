/-! a long as a set of cells; as STEPS; names -/
theorem ts_nt' {x : Bool} (h : ¬ x = true) : x = false := by cases x <;> first | rfl | exact absurd rfl h
theorem ts_tt {x : Bool} (h : ¬ x = false) : x = true := by cases x <;> first | rfl | exact absurd rfl h
def hp_bs (x : Int64) (p : Nat → Bool) : Prop := ∃ n, n < 2 ^ 54 ∧ x = lN n ∧ ∀ c, c < 54 → n.testBit c = p c
theorem hp_bs.cong {x : Int64} {p q : Nat → Bool} (h : hp_bs x p) (e : ∀ c, c < 54 → p c = q c) : hp_bs x q := by
  obtain ⟨n, h1, h2, h3⟩ := h
  exact ⟨n, h1, h2, fun c hc => (h3 c hc).trans (e c hc)⟩
theorem hp_bs.zero : hp_bs 0 (fun _ => false) := ⟨0, by decide, rfl, fun c _ => Nat.zero_testBit c⟩
theorem hp_bit1 {c : Nat} (h : c < 54) : (1 : Int64) <<< ((nI c).toInt64 &&& 63) = lN (2 ^ c) := by
  have := wb_shl 1 (k := c) (by omega)
  rw [Nat.one_mul] at this
  exact this
theorem hp_bs.bit {c : Nat} (h : c < 54) : hp_bs ((1 : Int64) <<< ((nI c).toInt64 &&& 63)) (fun k => decide (k = c)) := by
  refine ⟨2 ^ c, Nat.pow_lt_pow_right (by decide) h, hp_bit1 h, fun k _ => ?_⟩
  rw [Nat.testBit_two_pow]
  by_cases e : c = k
  · subst e; simp
  · simp [e, show ¬ k = c from fun z => e z.symm]
theorem hp_bs.or {x y : Int64} {p q : Nat → Bool} (h1 : hp_bs x p) (h2 : hp_bs y q) : hp_bs (x ||| y) (fun c => p c || q c) := by
  obtain ⟨n, a1, rfl, a3⟩ := h1
  obtain ⟨m, b1, rfl, b3⟩ := h2
  refine ⟨n ||| m, Nat.or_lt_two_pow a1 b1, fb_orL n m, fun c hc => ?_⟩
  rw [Nat.testBit_or, a3 c hc, b3 c hc]
theorem hp_bs.xor {x y : Int64} {p q : Nat → Bool} (h1 : hp_bs x p) (h2 : hp_bs y q) : hp_bs (x ^^^ y) (fun c => p c ^^ q c) := by
  obtain ⟨n, a1, rfl, a3⟩ := h1
  obtain ⟨m, b1, rfl, b3⟩ := h2
  refine ⟨n ^^^ m, Nat.xor_lt_two_pow a1 b1, fb_xorL n m, fun c hc => ?_⟩
  rw [Nat.testBit_xor, a3 c hc, b3 c hc]
theorem hp_bs.andn {x y : Int64} {p q : Nat → Bool} (h1 : hp_bs x p) (h2 : hp_bs y q) : hp_bs (x &&& (y ^^^ (-1))) (fun c => p c && !q c) := by
  obtain ⟨n, a1, rfl, a3⟩ := h1
  obtain ⟨m, b1, rfl, b3⟩ := h2
  have e : (-1 : Int64) = lN (2 ^ 64 - 1) := by decide
  refine ⟨n &&& (m ^^^ (2 ^ 64 - 1)), Nat.lt_of_le_of_lt Nat.and_le_left a1, by rw [e, fb_xorL, fb_andL], fun c hc => ?_⟩
  rw [Nat.testBit_and, Nat.testBit_xor, a3 c hc, b3 c hc, Nat.testBit_two_pow_sub_one, decide_eq_true (show c < 64 by omega)]
  simp
theorem hp_bs.test {x : Int64} {p : Nat → Bool} (h : hp_bs x p) {c : Nat} (hc : c < 54) : (x &&& ((1 : Int64) <<< ((nI c).toInt64 &&& 63))) = 0 ↔ p c = false := by
  obtain ⟨n, h1, rfl, h3⟩ := h
  rw [hp_bit1 hc, fb_bitL (by omega), h3 c hc]
theorem hp_bs.ext {x y : Int64} {p q : Nat → Bool} (h1 : hp_bs x p) (h2 : hp_bs y q) : x = y ↔ ∀ c, c < 54 → p c = q c := by
  obtain ⟨n, a1, rfl, a3⟩ := h1
  obtain ⟨m, b1, rfl, b3⟩ := h2
  rw [fb_lN_inj (by omega) (by omega)]
  constructor
  · rintro rfl c hc
    rw [← a3 c hc, b3 c hc]
  · intro h
    apply Nat.eq_of_testBit_eq
    intro c
    by_cases hc : c < 54
    · rw [a3 c hc, b3 c hc, h c hc]
    · have e : 2 ^ 54 ≤ 2 ^ c := Nat.pow_le_pow_right (by decide) (by omega)
      rw [Nat.testBit_lt_two_pow (Nat.lt_of_lt_of_le a1 e), Nat.testBit_lt_two_pow (Nat.lt_of_lt_of_le b1 e)]
theorem hp_bs.cnt {x : Int64} {p : Nat → Bool} (h : hp_bs x p) : f_Long_bitCount x = nI (fb_ct p 54) := by
  obtain ⟨n, h1, rfl, h3⟩ := h
  rw [hp_bc (by omega)]
  congr 1
  rw [show (64 : Nat) = 54 + 10 from rfl, fb_ct_split]
  have e : fb_ct (fun k => n.testBit (54 + k)) 10 = 0 := fb_ct_zero.mpr (fun k _ => Nat.testBit_lt_two_pow (Nat.lt_of_lt_of_le h1 (Nat.pow_le_pow_right (by decide) (by omega))))
  rw [e, Nat.add_zero]
  exact fb_ct_cong h3
theorem hp_bs.lamp {x y : Int64} {p q : Nat → Bool} (h1 : hp_bs x p) (h2 : hp_bs y q) {c : Nat} (hc : c < 54) : f_X_lampIn x y (nI c) = if q c then 2 else if p c then 1 else 0 := by
  unfold f_X_lampIn
  by_cases e : q c = false
  · rw [if_pos ((h2.test hc).mpr e), e]
    by_cases e2 : p c = false
    · rw [if_pos ((h1.test hc).mpr e2), e2]; rfl
    · rw [if_neg (fun z => e2 ((h1.test hc).mp z)), ts_tt e2]; rfl
  · rw [if_neg (fun z => e ((h2.test hc).mp z)), ts_tt e]; rfl
/-! STEPS: how many in four bits, three bits a step -/
def hp_pw (n : Nat) (s : Nat → Nat) : Nat → Nat
  | 0 => n
  | k + 1 => hp_pw n s k + s k * 2 ^ (4 + 3 * k)
theorem hp_pw_lt {n : Nat} {s : Nat → Nat} (hn : n < 16) : ∀ k, (∀ j, j < k → s j < 8) → hp_pw n s k < 2 ^ (4 + 3 * k)
  | 0, _ => hn
  | k + 1, h => by
    have ih := hp_pw_lt hn k (fun j hj => h j (by omega))
    have h2 := h k (by omega)
    have e : 2 ^ (4 + 3 * (k + 1)) = 8 * 2 ^ (4 + 3 * k) := by
      rw [show 4 + 3 * (k + 1) = (4 + 3 * k) + 3 by omega, Nat.pow_add, Nat.mul_comm]
    have h3 : (s k + 1) * 2 ^ (4 + 3 * k) ≤ 8 * 2 ^ (4 + 3 * k) := Nat.mul_le_mul_right _ h2
    rw [Nat.add_mul, Nat.one_mul] at h3
    show hp_pw n s k + s k * 2 ^ (4 + 3 * k) < _
    omega
theorem hp_pw_cong {n : Nat} {s t : Nat → Nat} : ∀ k, (∀ j, j < k → s j = t j) → hp_pw n s k = hp_pw n t k
  | 0, _ => rfl
  | k + 1, h => by
    show hp_pw n s k + s k * _ = hp_pw n t k + t k * _
    rw [hp_pw_cong k (fun j hj => h j (by omega)), h k (by omega)]
theorem hp_pw_mod {n : Nat} {s : Nat → Nat} (hn : n < 16) : ∀ k, hp_pw n s k % 16 = n
  | 0 => Nat.mod_eq_of_lt hn
  | k + 1 => by
    have ih := hp_pw_mod (s := s) hn k
    show (hp_pw n s k + s k * 2 ^ (4 + 3 * k)) % 16 = n
    have e : s k * 2 ^ (4 + 3 * k) = 16 * (s k * 2 ^ (3 * k)) := by
      rw [Nat.pow_add, show (2 : Nat) ^ 4 = 16 from rfl, Nat.mul_left_comm]
    rw [e, Nat.add_mul_mod_self_left, ih]
theorem hp_pw_dig {n : Nat} {s : Nat → Nat} (hn : n < 16) : ∀ k, (∀ j, j < k → s j < 8) → ∀ j, j < k → hp_pw n s k / 2 ^ (4 + 3 * j) % 8 = s j
  | 0, _, j, hj => by omega
  | k + 1, h, j, hj => by
    have hl := hp_pw_lt hn k (fun j hj => h j (by omega))
    have hp : 0 < 2 ^ (4 + 3 * j) := Nat.two_pow_pos _
    show (hp_pw n s k + s k * 2 ^ (4 + 3 * k)) / 2 ^ (4 + 3 * j) % 8 = s j
    rcases Nat.lt_or_ge j k with q | q
    · have ih := hp_pw_dig hn k (fun j hj => h j (by omega)) j q
      have e : s k * 2 ^ (4 + 3 * k) = 2 ^ (4 + 3 * j) * (8 * (s k * 2 ^ (3 * (k - j - 1)))) := by
        rw [show 4 + 3 * k = (4 + 3 * j) + (3 + 3 * (k - j - 1)) by omega, Nat.pow_add 2 (4 + 3 * j), Nat.pow_add 2 3, show (2 : Nat) ^ 3 = 8 from rfl]
        rw [Nat.mul_left_comm (s k), Nat.mul_left_comm (s k) 8]
      rw [e, Nat.add_mul_div_left _ _ hp, Nat.add_mul_mod_self_left, ih]
    · have : j = k := by omega
      subst this
      rw [Nat.add_mul_div_right _ _ hp, Nat.div_eq_of_lt hl, Nat.zero_add, Nat.mod_eq_of_lt (h j (by omega))]
theorem hp_pw_big {n : Nat} {s : Nat → Nat} (hn : n ≤ 12) (h : ∀ j, j < n → s j < 8) : hp_pw n s n < 2 ^ 40 := by
  have h1 := hp_pw_lt (n := n) (s := s) (by omega) n h
  have h2 : 2 ^ (4 + 3 * n) ≤ 2 ^ 40 := Nat.pow_le_pow_right (by decide) (by omega)
  omega
theorem hp_pw_cnt {n k : Nat} {s : Nat → Nat} (hn : n < 16) : f_X_countOf (lN (hp_pw n s k)) = nI n := by
  unfold f_X_countOf
  rw [show (15 : Int64) = lN (2 ^ 4 - 1) from rfl, fb_maskL, lN_i, show (2 : Nat) ^ 4 = 16 from rfl, hp_pw_mod hn]
theorem hp_pw_step {n j : Nat} {s : Nat → Nat} (hn : n ≤ 12) (h : ∀ j, j < n → s j < 8) (hj : j < n) : f_X_stepIn (lN (hp_pw n s n)) (nI j) = nI (s j) := by
  unfold f_X_stepIn
  have hb := hp_pw_big hn h
  rw [show (4 : Int32) = nI 4 from rfl, show (3 : Int32) = nI 3 from rfl, pk_mul, nI_add, wb_c _ (by omega)]
  rw [pf_shr (d := 4 + 3 * j) (by rw [wb_tb, wb_sm _ (by omega), BitVec.toNat_ofNat, Nat.mod_eq_of_lt (by omega)]) (by omega), lN_i, show (7 : Int32) = nI (2 ^ 3 - 1) from rfl, fa_mask]
  rw [show (2 : Nat) ^ 3 = 8 from rfl, hp_pw_dig (by omega) n h j hj]
theorem hp_placed {d j : Nat} (hd : d < 8) (hj : j < 12) : f_X_placedStep (nI d) (nI j) = lN (d * 2 ^ (4 + 3 * j)) := by
  unfold f_X_placedStep
  rw [show (4 : Int32) = nI 4 from rfl, show (3 : Int32) = nI 3 from rfl, pk_mul, nI_add, nI_l (by omega), wb_shl _ (by omega)]
theorem hp_pw_add {n k : Nat} {s : Nat → Nat} (hn : n < 16) (hk : k < 12) (h : ∀ j, j ≤ k → s j < 8) : lN (hp_pw n s k) ||| f_X_placedStep (nI (s k)) (nI k) = lN (hp_pw n s (k + 1)) := by
  rw [hp_placed (h k (Nat.le_refl k)) hk, fb_orL]
  congr 1
  have hl := hp_pw_lt (s := s) hn k (fun j hj => h j (by omega))
  show _ = hp_pw n s k + s k * 2 ^ (4 + 3 * k)
  rw [Nat.or_comm, Nat.mul_comm, ← Nat.two_pow_add_eq_or_of_lt hl, Nat.add_comm]
theorem hp_pw_inj {n m : Nat} {s t : Nat → Nat} (hn : n ≤ 12) (hm : m ≤ 12) (hs : ∀ j, j < n → s j < 8) (ht : ∀ j, j < m → t j < 8) : hp_pw n s n = hp_pw m t m ↔ n = m ∧ ∀ j, j < n → s j = t j := by
  constructor
  · intro e
    have e1 : n = m := by
      have a := hp_pw_mod (s := s) (show n < 16 by omega) n
      have b := hp_pw_mod (s := t) (show m < 16 by omega) m
      rw [e] at a
      omega
    subst e1
    refine ⟨rfl, fun j hj => ?_⟩
    rw [← hp_pw_dig (s := s) (show n < 16 by omega) n hs j hj, e, hp_pw_dig (s := t) (show n < 16 by omega) n ht j hj]
  · rintro ⟨rfl, e⟩
    exact hp_pw_cong n e
theorem hp_pw_eq {n m : Nat} {s t : Nat → Nat} (hn : n ≤ 12) (hm : m ≤ 12) (hs : ∀ j, j < n → s j < 8) (ht : ∀ j, j < m → t j < 8) : lN (hp_pw n s n) = lN (hp_pw m t m) ↔ n = m ∧ ∀ j, j < n → s j = t j := by
  have a := hp_pw_big hn hs
  have b := hp_pw_big hm ht
  rw [fb_lN_inj (by omega) (by omega), hp_pw_inj hn hm hs ht]
/-! NAMES: five bits a letter, the first lowest; to base 27, the first highest -/
def hp_nw (l : Nat → Nat) : Nat → Nat
  | 0 => 0
  | k + 1 => hp_nw l k + l k * 2 ^ (5 * k)
theorem hp_nw_lt {l : Nat → Nat} : ∀ k, (∀ j, j < k → l j < 32) → hp_nw l k < 2 ^ (5 * k)
  | 0, _ => by show 0 < 2 ^ (5 * 0); decide
  | k + 1, h => by
    have ih := hp_nw_lt k (fun j hj => h j (by omega))
    have h2 := h k (by omega)
    have e : 2 ^ (5 * (k + 1)) = 32 * 2 ^ (5 * k) := by
      rw [show 5 * (k + 1) = 5 * k + 5 by omega, Nat.pow_add, Nat.mul_comm]
    have h3 : (l k + 1) * 2 ^ (5 * k) ≤ 32 * 2 ^ (5 * k) := Nat.mul_le_mul_right _ h2
    rw [Nat.add_mul, Nat.one_mul] at h3
    show hp_nw l k + l k * 2 ^ (5 * k) < _
    omega
theorem hp_nw_dig {l : Nat → Nat} : ∀ k, (∀ j, j < k → l j < 32) → ∀ j, hp_nw l k / 2 ^ (5 * j) % 32 = if j < k then l j else 0
  | 0, _, j => by simp [hp_nw]
  | k + 1, h, j => by
    have hl := hp_nw_lt k (fun j hj => h j (by omega))
    have hp : 0 < 2 ^ (5 * j) := Nat.two_pow_pos _
    have ih := hp_nw_dig k (fun j hj => h j (by omega)) j
    show (hp_nw l k + l k * 2 ^ (5 * k)) / 2 ^ (5 * j) % 32 = _
    rcases Nat.lt_trichotomy j k with q | q | q
    · have e : l k * 2 ^ (5 * k) = 2 ^ (5 * j) * (32 * (l k * 2 ^ (5 * (k - j - 1)))) := by
        rw [show 5 * k = 5 * j + (5 + 5 * (k - j - 1)) by omega, Nat.pow_add 2 (5 * j), Nat.pow_add 2 5, show (2 : Nat) ^ 5 = 32 from rfl]
        rw [Nat.mul_left_comm (l k), Nat.mul_left_comm (l k) 32]
      rw [e, Nat.add_mul_div_left _ _ hp, Nat.add_mul_mod_self_left, ih, if_pos q, if_pos (by omega)]
    · subst q
      rw [Nat.add_mul_div_right _ _ hp, Nat.div_eq_of_lt hl, Nat.zero_add, Nat.mod_eq_of_lt (h j (by omega)), if_pos (by omega)]
    · have hb : hp_nw l (k + 1) < 2 ^ (5 * (k + 1)) := hp_nw_lt (k + 1) h
      have hb2 : 2 ^ (5 * (k + 1)) ≤ 2 ^ (5 * j) := Nat.pow_le_pow_right (by decide) (by omega)
      have e : hp_nw l k + l k * 2 ^ (5 * k) = hp_nw l (k + 1) := rfl
      rw [e, Nat.div_eq_of_lt (by omega), if_neg (by omega)]
theorem hp_nw_big {l : Nat → Nat} {k : Nat} (hk : k ≤ 6) (h : ∀ j, j < k → l j < 32) : hp_nw l k < 2 ^ 30 := by
  have h1 := hp_nw_lt k h
  have h2 : 2 ^ (5 * k) ≤ 2 ^ 30 := Nat.pow_le_pow_right (by decide) (by omega)
  omega
theorem hp_nw_letter {l : Nat → Nat} {n k : Nat} (hn : n ≤ 6) (h : ∀ j, j < n → l j < 32) (hk : k < 6) : f_X_letterIn (nI (hp_nw l n)) (nI k) = nI (if k < n then l k else 0) := by
  unfold f_X_letterIn
  have hb := hp_nw_big hn h
  have e : ((((5 : Int32) * nI k) &&& 31).toBitVec.smod 32).toNat = 5 * k := by
    have : ∀ k, k < 6 → ((((5 : Int32) * nI k) &&& 31).toBitVec.smod 32).toNat = 5 * k := by decide +kernel
    exact this k hk
  rw [pk_shrN (by omega) _ _ e, show (31 : Int32) = nI (2 ^ 5 - 1) from rfl, fa_mask, show (2 : Nat) ^ 5 = 32 from rfl, hp_nw_dig n h k]
def hp_n27 (l : Nat → Nat) : Nat → Nat
  | 0 => 0
  | k + 1 => 27 * hp_n27 l k + l k
theorem hp_n27_lt {l : Nat → Nat} : ∀ k, (∀ j, j < k → l j < 27) → hp_n27 l k < 27 ^ k
  | 0, _ => by show 0 < 27 ^ 0; decide
  | k + 1, h => by
    have ih := hp_n27_lt k (fun j hj => h j (by omega))
    have h2 := h k (by omega)
    rw [Nat.pow_succ]
    show 27 * hp_n27 l k + l k < _
    omega
theorem hp_n27_big {l : Nat → Nat} {k : Nat} (hk : k ≤ 6) (h : ∀ j, j < k → l j < 27) : hp_n27 l k < 387420489 := by
  have h1 := hp_n27_lt k h
  have h2 : 27 ^ k ≤ 27 ^ 6 := Nat.pow_le_pow_right (by decide) hk
  have h3 : (27 : Nat) ^ 6 = 387420489 := by decide
  omega
/-- names alike: by letters, and by both numbers -/
theorem hp_nw_inj {l t : Nat → Nat} {n m : Nat} (hn : ∀ j, j < n → 1 ≤ l j ∧ l j ≤ 26) (hm : ∀ j, j < m → 1 ≤ t j ∧ t j ≤ 26) : hp_nw l n = hp_nw t m ↔ n = m ∧ ∀ j, j < n → l j = t j := by
  have dn := hp_nw_dig (l := l) n (fun j hj => by have := hn j hj; omega)
  have dm := hp_nw_dig (l := t) m (fun j hj => by have := hm j hj; omega)
  constructor
  · intro e
    have key : ∀ j, (if j < n then l j else 0) = if j < m then t j else 0 := fun j => by rw [← dn j, ← dm j, e]
    have e1 : n = m := by
      rcases Nat.lt_trichotomy n m with q | q | q
      · have := key n
        rw [if_neg (by omega), if_pos q] at this
        have := hm n q
        omega
      · exact q
      · have := key m
        rw [if_pos q, if_neg (by omega)] at this
        have := hn m q
        omega
    subst e1
    refine ⟨rfl, fun j hj => ?_⟩
    have := key j
    rwa [if_pos hj, if_pos hj] at this
  · rintro ⟨rfl, e⟩
    clear dn dm hm hn
    induction n with
    | zero => rfl
    | succ n ih =>
      show hp_nw l n + l n * _ = hp_nw t n + t n * _
      rw [ih (fun j hj => e j (by omega)), e n (by omega)]
theorem hp_n27_inj {l t : Nat → Nat} : ∀ {n m : Nat}, (∀ j, j < n → 1 ≤ l j ∧ l j ≤ 26) → (∀ j, j < m → 1 ≤ t j ∧ t j ≤ 26) → (hp_n27 l n = hp_n27 t m ↔ n = m ∧ ∀ j, j < n → l j = t j)
  | 0, 0, _, _ => by simp [hp_n27]
  | 0, m + 1, _, hm => by
    have := hm m (by omega)
    constructor
    · intro e
      have e : 0 = 27 * hp_n27 t m + t m := e
      omega
    · rintro ⟨e, _⟩; omega
  | n + 1, 0, hn, _ => by
    have := hn n (by omega)
    constructor
    · intro e
      have e : 27 * hp_n27 l n + l n = 0 := e
      omega
    · rintro ⟨e, _⟩; omega
  | n + 1, m + 1, hn, hm => by
    have ih := hp_n27_inj (n := n) (m := m) (fun j hj => hn j (by omega)) (fun j hj => hm j (by omega))
    have h1 := hn n (by omega)
    have h2 := hm m (by omega)
    constructor
    · intro e
      have e : 27 * hp_n27 l n + l n = 27 * hp_n27 t m + t m := e
      obtain ⟨rfl, e3⟩ := ih.mp (by omega)
      refine ⟨rfl, fun j hj => ?_⟩
      rcases Nat.lt_or_ge j n with q | q
      · exact e3 j q
      · have : j = n := by omega
        subst this
        omega
    · rintro ⟨e, e3⟩
      have e : n = m := by omega
      subst e
      have e4 := ih.mpr ⟨rfl, fun j hj => e3 j (by omega)⟩
      show 27 * hp_n27 l n + l n = 27 * hp_n27 t n + t n
      rw [e4, e3 n (by omega)]
