/-! how many bits a long has: by bytes -/
def hp_val : List Nat → Nat
  | [] => 0
  | d :: l => 256 * hp_val l + d
theorem hp_and8 {n M d m : Nat} (hd : d < 256) (hm : m < 256) : (256 * n + d) &&& (256 * M + m) = 256 * (n &&& M) + (d &&& m) := by
  apply Nat.eq_of_testBit_eq
  intro j
  have h8 : (256 : Nat) = 2 ^ 8 := by decide
  have hdm : d &&& m < 2 ^ 8 := Nat.and_lt_two_pow _ hm
  rw [Nat.testBit_and, h8, Nat.testBit_two_pow_mul_add _ hd, Nat.testBit_two_pow_mul_add _ hm, Nat.testBit_two_pow_mul_add _ hdm]
  by_cases h : j < 8
  · rw [if_pos h, if_pos h, if_pos h, Nat.testBit_and]
  · rw [if_neg h, if_neg h, if_neg h, Nat.testBit_and]
theorem hp_low {t x r m : Nat} (hm : m < 2 ^ t) (hx : x < 2 ^ t) : (2 ^ t * r + x) &&& m = x &&& m := by
  apply Nat.eq_of_testBit_eq
  intro j
  rw [Nat.testBit_and, Nat.testBit_two_pow_mul_add _ hx, Nat.testBit_and]
  by_cases h : j < t
  · rw [if_pos h]
  · rw [Nat.testBit_lt_two_pow (Nat.lt_of_lt_of_le hm (Nat.pow_le_pow_right (by decide) (by omega : t ≤ j)))]
    simp
theorem hp_bB {m : Nat} (hm : m < 256) : ∀ l : List Nat, (∀ d ∈ l, d < 256) → hp_val l &&& hp_val (List.replicate l.length m) = hp_val (l.map (fun d => d &&& m))
  | [], _ => by simp [hp_val]
  | d :: l, h => by
    have ih := hp_bB hm l (fun x hx => h x (List.mem_cons_of_mem _ hx))
    show (256 * hp_val l + d) &&& (256 * hp_val (List.replicate l.length m) + m) = _
    rw [hp_and8 (h d List.mem_cons_self) hm, ih]
    rfl
theorem hp_bA {m s t : Nat} (hst : s + t = 8) (hm : m < 2 ^ t) : ∀ l : List Nat, (∀ d ∈ l, d < 256) → (hp_val l / 2 ^ s) &&& hp_val (List.replicate l.length m) = hp_val (l.map (fun d => (d / 2 ^ s) &&& m))
  | [], _ => by simp [hp_val]
  | d :: l, h => by
    have ih := hp_bA hst hm l (fun x hx => h x (List.mem_cons_of_mem _ hx))
    have hd := h d List.mem_cons_self
    have e8 : (256 : Nat) = 2 ^ s * 2 ^ t := by rw [← Nat.pow_add, hst]
    have hs : 0 < 2 ^ s := Nat.two_pow_pos s
    have ht : 0 < 2 ^ t := Nat.two_pow_pos t
    have hx : d / 2 ^ s < 2 ^ t := Nat.div_lt_of_lt_mul (by rw [← e8]; exact hd)
    have hm8 : m < 256 := Nat.lt_of_lt_of_le hm (by rw [e8]; exact Nat.le_mul_of_pos_left _ hs)
    have e : (256 * hp_val l + d) / 2 ^ s = 256 * (hp_val l / 2 ^ s) + (2 ^ t * (hp_val l % 2 ^ s) + d / 2 ^ s) := by
      have e1 : (256 * hp_val l + d) / 2 ^ s = 2 ^ t * hp_val l + d / 2 ^ s := by
        rw [e8, Nat.mul_assoc, Nat.add_comm, Nat.add_mul_div_left _ _ hs, Nat.add_comm]
      have e2 := Nat.div_add_mod (hp_val l) (2 ^ s)
      rw [e1]
      have e3 : 2 ^ t * hp_val l = 256 * (hp_val l / 2 ^ s) + 2 ^ t * (hp_val l % 2 ^ s) := by
        calc 2 ^ t * hp_val l = 2 ^ t * (2 ^ s * (hp_val l / 2 ^ s) + hp_val l % 2 ^ s) := by rw [e2]
          _ = 256 * (hp_val l / 2 ^ s) + 2 ^ t * (hp_val l % 2 ^ s) := by rw [Nat.mul_add, e8, ← Nat.mul_assoc, Nat.mul_comm (2 ^ t) (2 ^ s)]
      omega
    have hlo : 2 ^ t * (hp_val l % 2 ^ s) + d / 2 ^ s < 256 := by
      have h1 : hp_val l % 2 ^ s < 2 ^ s := Nat.mod_lt _ hs
      have h2 : 2 ^ t * (hp_val l % 2 ^ s + 1) ≤ 2 ^ t * 2 ^ s := Nat.mul_le_mul_left _ h1
      rw [Nat.mul_add, Nat.mul_one, Nat.mul_comm (2 ^ t) (2 ^ s), ← e8] at h2
      omega
    show ((256 * hp_val l + d) / 2 ^ s) &&& (256 * hp_val (List.replicate l.length m) + m) = _
    rw [e, hp_and8 hlo hm8, hp_low hm hx, ih]
    rfl
theorem hp_bAdd (f g : Nat → Nat) : ∀ l : List Nat, hp_val (l.map f) + hp_val (l.map g) = hp_val (l.map (fun d => f d + g d))
  | [] => rfl
  | d :: l => by
    have ih := hp_bAdd f g l
    show (256 * hp_val (l.map f) + f d) + (256 * hp_val (l.map g) + g d) = 256 * hp_val (l.map (fun d => f d + g d)) + (f d + g d)
    omega
theorem hp_bSub (g : Nat → Nat) : ∀ l : List Nat, (∀ d ∈ l, g d ≤ d) → hp_val (l.map g) + hp_val (l.map (fun d => d - g d)) = hp_val l
  | [], _ => rfl
  | d :: l, h => by
    have ih := hp_bSub g l (fun x hx => h x (List.mem_cons_of_mem _ hx))
    have hd := h d List.mem_cons_self
    show (256 * hp_val (l.map g) + g d) + (256 * hp_val (l.map (fun d => d - g d)) + (d - g d)) = 256 * hp_val l + d
    omega
theorem hp_b3 : ∀ l : List Nat, (∀ d ∈ l, d % 16 ≤ 4 ∧ d / 16 ≤ 4) → (hp_val l + hp_val l / 16) &&& hp_val (List.replicate l.length 15) = hp_val (l.map (fun d => (d + d / 16) % 16)) ∧ hp_val l % 16 ≤ 4
  | [], _ => by simp [hp_val]
  | d :: l, h => by
    obtain ⟨ih, ih2⟩ := hp_b3 l (fun x hx => h x (List.mem_cons_of_mem _ hx))
    have hd := h d List.mem_cons_self
    constructor
    · show ((256 * hp_val l + d) + (256 * hp_val l + d) / 16) &&& (256 * hp_val (List.replicate l.length 15) + 15) = _
      have e : (256 * hp_val l + d) + (256 * hp_val l + d) / 16 = 256 * (hp_val l + hp_val l / 16) + (d + d / 16 + 16 * (hp_val l % 16)) := by omega
      rw [e, hp_and8 (by omega) (by decide), ih]
      have e2 : (d + d / 16 + 16 * (hp_val l % 16)) &&& 15 = (d + d / 16) % 16 := by
        rw [show (15 : Nat) = 2 ^ 4 - 1 from rfl, Nat.and_two_pow_sub_one_eq_mod]
        omega
      rw [e2]
      rfl
    · show (256 * hp_val l + d) % 16 ≤ 4
      omega
theorem hp_bytes : ∀ L n : Nat, n < 256 ^ L → ∃ l : List Nat, l.length = L ∧ (∀ d ∈ l, d < 256) ∧ n = hp_val l
  | 0, n, h => ⟨[], rfl, fun _ hd => absurd hd List.not_mem_nil, by simp at h; simp [hp_val, h]⟩
  | L + 1, n, h => by
    obtain ⟨l, h1, h2, h3⟩ := hp_bytes L (n / 256) (Nat.div_lt_of_lt_mul (by rw [Nat.pow_succ, Nat.mul_comm] at h; exact h))
    refine ⟨(n % 256) :: l, by simp [h1], fun d hd => ?_, ?_⟩
    · rcases List.mem_cons.mp hd with rfl | hd
      · exact Nat.mod_lt _ (by decide)
      · exact h2 d hd
    · show n = 256 * hp_val l + n % 256
      omega
def hp_u1 (d : Nat) : Nat := d - ((d / 2 ^ 1) &&& 85)
def hp_u2 (d : Nat) : Nat := (d &&& 51) + ((d / 2 ^ 2) &&& 51)
def hp_u3 (d : Nat) : Nat := (d + d / 16) % 16
theorem hp_pc : ∀ d, d < 256 → (d / 2 ^ 1) &&& 85 ≤ d ∧ hp_u1 d < 256 ∧ hp_u2 (hp_u1 d) % 16 ≤ 4 ∧ hp_u2 (hp_u1 d) / 16 ≤ 4 ∧ hp_u3 (hp_u2 (hp_u1 d)) = fb_ct d.testBit 8 := by decide +kernel
theorem hp_cnt : ∀ l : List Nat, (∀ d ∈ l, d < 256) → fb_ct (hp_val l).testBit (8 * l.length) = (l.map (fun d => fb_ct d.testBit 8)).sum
  | [], _ => rfl
  | d :: l, h => by
    have ih := hp_cnt l (fun x hx => h x (List.mem_cons_of_mem _ hx))
    have hd := h d List.mem_cons_self
    have e : 8 * (d :: l).length = 8 + 8 * l.length := by rw [List.length_cons]; omega
    rw [e, fb_ct_split, List.map_cons, List.sum_cons]
    have h8 : (256 : Nat) = 2 ^ 8 := by decide
    congr 1
    · apply fb_ct_cong
      intro k hk
      show (256 * hp_val l + d).testBit k = _
      rw [h8, Nat.testBit_two_pow_mul_add _ hd, if_pos hk]
    · rw [← ih]
      apply fb_ct_cong
      intro k hk
      show (256 * hp_val l + d).testBit (8 + k) = _
      rw [h8, Nat.testBit_two_pow_mul_add _ hd, if_neg (by omega)]
      congr 1
      omega
theorem hp_sr1 {n : Nat} (h : n < 2 ^ 64) : ((lN n).toUInt64 >>> ((1 : Int32).toInt64.toUInt64 &&& Int64.toUInt64 63)).toInt64 = lN (n / 2 ^ 1) := wb_shr (k := 1) h (by decide)
theorem hp_sr2 {n : Nat} (h : n < 2 ^ 64) : ((lN n).toUInt64 >>> ((2 : Int32).toInt64.toUInt64 &&& Int64.toUInt64 63)).toInt64 = lN (n / 2 ^ 2) := wb_shr (k := 2) h (by decide)
theorem hp_sr4 {n : Nat} (h : n < 2 ^ 64) : ((lN n).toUInt64 >>> ((4 : Int32).toInt64.toUInt64 &&& Int64.toUInt64 63)).toInt64 = lN (n / 16) := wb_shr (k := 4) h (by decide)
theorem hp_sr8 {n : Nat} (h : n < 2 ^ 64) : ((lN n).toUInt64 >>> ((8 : Int32).toInt64.toUInt64 &&& Int64.toUInt64 63)).toInt64 = lN (n / 256) := wb_shr (k := 8) h (by decide)
theorem hp_sr16 {n : Nat} (h : n < 2 ^ 64) : ((lN n).toUInt64 >>> ((16 : Int32).toInt64.toUInt64 &&& Int64.toUInt64 63)).toInt64 = lN (n / 65536) := wb_shr (k := 16) h (by decide)
theorem hp_sr32 {n : Nat} (h : n < 2 ^ 64) : ((lN n).toUInt64 >>> ((32 : Int32).toInt64.toUInt64 &&& Int64.toUInt64 63)).toInt64 = lN (n / 4294967296) := wb_shr (k := 32) h (by decide)
theorem hp_val8 (l : List Nat) (h : l.length = 8) (hb : ∀ d ∈ l, d < 256) : hp_val l < 2 ^ 64 := by
  match l, h with
  | [a, b, c, d, e, f, g, i], _ =>
    have := hb a (by simp)
    have := hb b (by simp)
    have := hb c (by simp)
    have := hb d (by simp)
    have := hb e (by simp)
    have := hb f (by simp)
    have := hb g (by simp)
    have := hb i (by simp)
    simp only [hp_val]
    omega
theorem hp_fold (l : List Nat) (h : l.length = 8) (hb : ∀ d ∈ l, d ≤ 8) : ∀ w4 w5 w6, w4 = hp_val l + hp_val l / 256 → w5 = w4 + w4 / 65536 → w6 = w5 + w5 / 4294967296 → w4 < 2 ^ 64 ∧ w5 < 2 ^ 64 ∧ w6 % 128 = l.sum := by
  intro w4 w5 w6 e4 e5 e6
  match l, h with
  | [a, b, c, d, e, f, g, i], _ =>
    have := hb a (by simp)
    have := hb b (by simp)
    have := hb c (by simp)
    have := hb d (by simp)
    have := hb e (by simp)
    have := hb f (by simp)
    have := hb g (by simp)
    have := hb i (by simp)
    simp only [hp_val] at e4
    simp only [List.sum_cons, List.sum_nil]
    have h4 : w4 = (a + b) + 256 * (b + c) + 65536 * (c + d) + 16777216 * (d + e) + 4294967296 * (e + f) + 1099511627776 * (f + g) + 281474976710656 * (g + i) + 72057594037927936 * i := by omega
    clear e4
    have h5 : w5 = (a + b + c + d) + 256 * (b + c + d + e) + 65536 * (c + d + e + f) + 16777216 * (d + e + f + g) + 4294967296 * (e + f + g + i) + 1099511627776 * (f + g + i) + 281474976710656 * (g + i) + 72057594037927936 * i := by omega
    refine ⟨by omega, by omega, ?_⟩
    clear e5 h4
    have h6 : w5 / 4294967296 = (e + f + g + i) + 256 * (f + g + i) + 65536 * (g + i) + 16777216 * i := by omega
    rw [h6] at e6
    have h7 : w6 = (a + b + c + d + e + f + g + i) + 256 * ((b + c + d + e) + 256 * (c + d + e + f) + 65536 * (d + e + f + g) + 16777216 * (e + f + g + i) + 4294967296 * (f + g + i) + 1099511627776 * (g + i) + 281474976710656 * i + (f + g + i) + 256 * (g + i) + 65536 * i) := by omega
    omega
theorem hp_bc {n : Nat} (h : n < 2 ^ 64) : f_Long_bitCount (lN n) = nI (fb_ct n.testBit 64) := by
  obtain ⟨l, h1, h2, rfl⟩ := hp_bytes 8 n h
  have m1 : (6148914691236517205 : Int64) = lN (hp_val (List.replicate l.length 85)) := by rw [h1]; rfl
  have m2 : (3689348814741910323 : Int64) = lN (hp_val (List.replicate l.length 51)) := by rw [h1]; rfl
  have m3 : (1085102592571150095 : Int64) = lN (hp_val (List.replicate l.length 15)) := by rw [h1]; rfl
  have a1 : ∀ d ∈ l.map hp_u1, d < 256 := by
    intro d hd
    obtain ⟨b, hb, rfl⟩ := List.mem_map.mp hd
    exact (hp_pc b (h2 b hb)).2.1
  have a2 : ∀ d ∈ (l.map hp_u1).map hp_u2, d % 16 ≤ 4 ∧ d / 16 ≤ 4 := by
    intro d hd
    obtain ⟨b, hb, rfl⟩ := List.mem_map.mp hd
    obtain ⟨c, hc, rfl⟩ := List.mem_map.mp hb
    exact ⟨(hp_pc c (h2 c hc)).2.2.1, (hp_pc c (h2 c hc)).2.2.2.1⟩
  have a3 : ∀ d ∈ ((l.map hp_u1).map hp_u2).map hp_u3, d ≤ 8 := by
    intro d hd
    obtain ⟨b, hb, rfl⟩ := List.mem_map.mp hd
    obtain ⟨c, hc, rfl⟩ := List.mem_map.mp hb
    obtain ⟨k, hk, rfl⟩ := List.mem_map.mp hc
    rw [(hp_pc k (h2 k hk)).2.2.2.2]
    exact fb_ct_le _ _
  have l1 : (l.map hp_u1).length = l.length := List.length_map _
  have l2 : ((l.map hp_u1).map hp_u2).length = l.length := by rw [List.length_map, l1]
  have l3 : (((l.map hp_u1).map hp_u2).map hp_u3).length = 8 := by rw [List.length_map, l2, h1]
  have s1 := hp_bSub (fun d => (d / 2 ^ 1) &&& 85) l (fun d hd => (hp_pc d (h2 d hd)).1)
  have b1 := hp_bA (s := 1) (t := 7) (m := 85) rfl (by decide) l h2
  have e1 : lN (hp_val l) - (lN (hp_val l / 2 ^ 1) &&& lN (hp_val (List.replicate l.length 85))) = lN (hp_val (l.map hp_u1)) := by
    rw [fb_andL, b1, lN_sub (by omega)]
    congr 1
    show _ = hp_val (l.map (fun d => d - ((d / 2 ^ 1) &&& 85)))
    omega
  have v1 : hp_val (l.map hp_u1) < 2 ^ 64 := hp_val8 _ (by rw [l1, h1]) a1
  have b2 := hp_bB (m := 51) (by decide) (l.map hp_u1) a1
  have b3 := hp_bA (s := 2) (t := 6) (m := 51) rfl (by decide) (l.map hp_u1) a1
  rw [l1] at b2 b3
  have e2 : (lN (hp_val (l.map hp_u1)) &&& lN (hp_val (List.replicate l.length 51))) + (lN (hp_val (l.map hp_u1) / 2 ^ 2) &&& lN (hp_val (List.replicate l.length 51))) = lN (hp_val ((l.map hp_u1).map hp_u2)) := by
    rw [fb_andL, fb_andL, b2, b3, lN_add, hp_bAdd]
    rfl
  have v2 : hp_val ((l.map hp_u1).map hp_u2) < 2 ^ 64 := hp_val8 _ (by rw [l2, h1]) (fun d hd => by have := a2 d hd; omega)
  have b4 := (hp_b3 _ a2).1
  rw [l2] at b4
  have e3 : (lN (hp_val ((l.map hp_u1).map hp_u2)) + lN (hp_val ((l.map hp_u1).map hp_u2) / 16)) &&& lN (hp_val (List.replicate l.length 15)) = lN (hp_val (((l.map hp_u1).map hp_u2).map hp_u3)) := by
    rw [lN_add, fb_andL, b4]
    rfl
  have v3 : hp_val (((l.map hp_u1).map hp_u2).map hp_u3) < 2 ^ 64 := hp_val8 _ l3 (fun d hd => by have := a3 d hd; omega)
  obtain ⟨v4, v5, v6⟩ := hp_fold _ l3 a3 _ _ _ rfl rfl rfl
  have hc := hp_cnt l h2
  rw [h1] at hc
  have hs : (((l.map hp_u1).map hp_u2).map hp_u3).sum = (l.map (fun d => fb_ct d.testBit 8)).sum := by
    rw [List.map_map, List.map_map]
    congr 1
    apply List.map_congr_left
    intro d hd
    exact (hp_pc d (h2 d hd)).2.2.2.2
  unfold f_Long_bitCount hl_let
  dsimp only
  rw [m1, m2, m3, hp_sr1 h, e1, hp_sr2 v1, e2, hp_sr4 v2, e3, hp_sr8 v3, lN_add, hp_sr16 v4, lN_add, hp_sr32 v5, lN_add, lN_i]
  rw [show (127 : Int32) = nI (2 ^ 7 - 1) from rfl, fa_mask]
  congr 1
  rw [show (2 : Nat) ^ 7 = 128 from rfl, v6, hs, ← hc]
