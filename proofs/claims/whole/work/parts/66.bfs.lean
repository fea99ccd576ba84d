/-! steps by cells without walls: the spreading, and what it measures -/
def hp_up (f : Nat → Nat) (k v : Nat) : Nat → Nat := fun j => if j = k then v else f j
theorem hp_up_s {f : Nat → Nat} {k v : Nat} : hp_up f k v k = v := if_pos rfl
theorem hp_up_n {f : Nat → Nat} {k v j : Nat} (h : j ≠ k) : hp_up f k v j = f j := if_neg h
/-- the invariant while the neighbours of the k-th of the queue are looked at, s of them done -/
def hp_BI (G : hp_G) (U a k s n : Nat) (d q : Nat → Nat) : Prop :=
  (∀ i, i < n → q i < hp_C G ∧ G 1 (q i) = 0 ∧ d (q i) ≠ U ∧ d (q i) ≤ i) ∧
  (∀ i j, i < j → j < n → q i ≠ q j) ∧
  (∀ c, c < 54 → d c ≠ U → ∃ i, i < n ∧ q i = c) ∧
  (0 < n ∧ q 0 = a ∧ d a = 0) ∧
  (∀ i j, i ≤ j → j < n → d (q i) ≤ d (q j)) ∧
  (k < n → ∀ i, i < n → d (q i) ≤ d (q k) + 1) ∧
  (∀ i, 0 < i → i < n → ∃ j t, j < i ∧ t < 4 ∧ hp_nx G (q j) t = q i ∧ d (q j) + 1 = d (q i)) ∧
  (∀ i t, i < n → t < 4 → (i < k ∨ (i = k ∧ t < s)) → d (hp_nx G (q i) t) ≠ U ∧ d (hp_nx G (q i) t) ≤ d (q i) + 1)
theorem hp_BI.le {G : hp_G} {U a k s n : Nat} {d q : Nat → Nat} (h : hp_BI G U a k s n d q) : n ≤ hp_C G := fb_holes _ _ q (fun i hi => (h.1 i hi).1) h.2.1
theorem hp_BI.start {G : hp_G} {U a : Nat} (hU : 54 < U) (hG : hp_wg G) (ha : a < hp_C G) (ho : G 1 a = 0) : hp_BI G U a 0 0 1 (hp_up (fun _ => U) a 0) (hp_up (fun _ => 0) 0 a) := by
  have hC := hG.C
  have q0 : hp_up (fun _ => 0) 0 a 0 = a := hp_up_s
  have d0 : hp_up (fun _ => U) a 0 a = 0 := hp_up_s
  refine ⟨fun i hi => ?_, fun i j h1 h2 => by omega, fun c hc h => ?_, ⟨by omega, q0, d0⟩, fun i j h1 h2 => ?_, fun _ i hi => ?_, fun i h1 h2 => by omega, fun i t hi ht h => by omega⟩
  · have : i = 0 := by omega
    subst this
    rw [q0, d0]
    exact ⟨ha, ho, by omega, by omega⟩
  · refine ⟨0, by omega, ?_⟩
    rw [q0]
    by_cases e : c = a
    · exact e.symm
    · exact absurd (hp_up_n e) h
  · have : i = j := by omega
    subst this
    exact Nat.le_refl _
  · have : i = 0 := by omega
    subst this
    omega
/-- a neighbour that is known -/
theorem hp_BI.old {G : hp_G} {U a k s n : Nat} {d q : Nat → Nat} (hG : hp_wg G) (h : hp_BI G U a k s n d q) (hk : k < n) (e : d (hp_nx G (q k) s) ≠ U) : hp_BI G U a k (s + 1) n d q := by
  have hC := hG.C
  obtain ⟨h1, h2, h3, h4, h5, h6, h7, h8⟩ := h
  refine ⟨h1, h2, h3, h4, h5, h6, h7, fun i t hi ht hh => ?_⟩
  by_cases e2 : i = k ∧ t = s
  · obtain ⟨rfl, rfl⟩ := e2
    refine ⟨e, ?_⟩
    have hl := hp_nx_lt (s := t) (h1 i hi).1
    obtain ⟨j, hj, ej⟩ := h3 _ (by omega) e
    rw [← ej]
    exact h6 hk j hj
  · exact h8 i t hi ht (by omega)
/-- a new one -/
theorem hp_BI.new {G : hp_G} {U a k s n : Nat} {d q : Nat → Nat} (hG : hp_wg G) (hU : 54 < U) (h : hp_BI G U a k s n d q) (hk : k < n) (hs : s < 4) (e : d (hp_nx G (q k) s) = U) : hp_BI G U a k (s + 1) (n + 1) (hp_up d (hp_nx G (q k) s) (d (q k) + 1)) (hp_up q n (hp_nx G (q k) s)) := by
  have hC := hG.C
  have hn := h.le
  obtain ⟨h1, h2, h3, h4, h5, h6, h7, h8⟩ := h
  have hl := hp_nx_lt (s := s) (h1 k hk).1
  have hop := hp_nx_open (s := s) (h1 k hk).2.1
  have hdk := (h1 k hk).2.2.2
  generalize hz : hp_nx G (q k) s = z at *
  have qn : hp_up q n z n = z := hp_up_s
  have qi : ∀ i, i < n → hp_up q n z i = q i := fun i hi => hp_up_n (by omega)
  have dz : hp_up d z (d (q k) + 1) z = d (q k) + 1 := hp_up_s
  have di : ∀ c, d c ≠ U → hp_up d z (d (q k) + 1) c = d c := fun c hc => hp_up_n (fun x => hc (by rw [x]; exact e))
  have dq : ∀ i, i < n → hp_up d z (d (q k) + 1) (q i) = d (q i) := fun i hi => di _ (h1 i hi).2.2.1
  refine ⟨fun i hi => ?_, fun i j hij hj => ?_, fun c hc hh => ?_, ⟨by omega, ?_, ?_⟩, fun i j hij hj => ?_, fun _ i hi => ?_, fun i hi0 hi => ?_, fun i t hi ht hh => ?_⟩
  · by_cases en : i = n
    · rw [en, qn, dz]
      exact ⟨hl, hop, by omega, by omega⟩
    · rw [qi i (by omega), dq i (by omega)]
      exact h1 i (by omega)
  · by_cases en : j = n
    · rw [en, qn, qi i (by omega)]
      intro x
      exact (h1 i (by omega)).2.2.1 (by rw [x]; exact e)
    · rw [qi i (by omega), qi j (by omega)]
      exact h2 i j hij (by omega)
  · by_cases ez : c = z
    · exact ⟨n, by omega, by rw [qn, ez]⟩
    · rw [hp_up_n ez] at hh
      obtain ⟨i, hi, ei⟩ := h3 c hc hh
      exact ⟨i, by omega, by rw [qi i hi, ei]⟩
  · rw [qi 0 h4.1]; exact h4.2.1
  · rw [di a (by rw [h4.2.2]; omega)]; exact h4.2.2
  · by_cases en : j = n
    · rw [en, qn, dz]
      by_cases em : i = n
      · rw [em, qn, dz]; omega
      · rw [qi i (by omega), dq i (by omega)]
        exact h6 hk i (by omega)
    · rw [qi i (by omega), qi j (by omega), dq i (by omega), dq j (by omega)]
      exact h5 i j hij (by omega)
  · rw [qi k hk, dq k hk]
    by_cases em : i = n
    · rw [em, qn, dz]; omega
    · rw [qi i (by omega), dq i (by omega)]
      exact h6 hk i (by omega)
  · by_cases em : i = n
    · refine ⟨k, s, by omega, hs, ?_, ?_⟩
      · rw [em, qi k hk, qn]; exact hz
      · rw [em, qi k hk, qn, dq k hk, dz]
    · obtain ⟨j, t, a1, a2, a3, a4⟩ := h7 i hi0 (by omega)
      refine ⟨j, t, a1, a2, ?_, ?_⟩
      · rw [qi i (by omega), qi j (by omega)]; exact a3
      · rw [qi i (by omega), qi j (by omega), dq i (by omega), dq j (by omega)]; exact a4
  · by_cases em : i = n
    · omega
    · rw [qi i (by omega), dq i (by omega)]
      by_cases e2 : i = k ∧ t = s
      · obtain ⟨rfl, rfl⟩ := e2
        rw [hz, dz]
        exact ⟨by omega, Nat.le_refl _⟩
      · obtain ⟨b1, b2⟩ := h8 i t (by omega) ht (by omega)
        rw [di _ b1]
        exact ⟨b1, b2⟩
theorem hp_BI.next {G : hp_G} {U a k n : Nat} {d q : Nat → Nat} (h : hp_BI G U a k 4 n d q) : hp_BI G U a (k + 1) 0 n d q := by
  obtain ⟨h1, h2, h3, h4, h5, h6, h7, h8⟩ := h
  refine ⟨h1, h2, h3, h4, h5, fun hk i hi => ?_, h7, fun i t hi ht hh => h8 i t hi ht (by omega)⟩
  have a1 := h6 (by omega) i hi
  have a2 := h5 k (k + 1) (by omega) hk
  omega
/-- what a spreading from a measures -/
def hp_D (G : hp_G) (U a : Nat) (d : Nat → Nat) : Prop :=
  d a = 0 ∧ (∀ c, c < 54 → d c ≠ U → c < hp_C G ∧ G 1 c = 0 ∧ d c < 54) ∧
  (∀ c, c < 54 → d c ≠ U → c ≠ a → ∃ c' t, c' < hp_C G ∧ t < 4 ∧ d c' ≠ U ∧ hp_nx G c' t = c ∧ d c' + 1 = d c) ∧
  (∀ c t, c < 54 → t < 4 → d c ≠ U → d (hp_nx G c t) ≠ U ∧ d (hp_nx G c t) ≤ d c + 1)
theorem hp_BI.done {G : hp_G} {U a k n : Nat} {d q : Nat → Nat} (hG : hp_wg G) (hU : 54 < U) (h : hp_BI G U a k 0 n d q) (hk : n ≤ k) : hp_D G U a d := by
  have hC := hG.C
  have hn := h.le
  obtain ⟨h1, h2, h3, h4, h5, h6, h7, h8⟩ := h
  refine ⟨h4.2.2, fun c hc e => ?_, fun c hc e ea => ?_, fun c t hc ht e => ?_⟩
  · obtain ⟨i, hi, rfl⟩ := h3 c hc e
    have := h1 i hi
    exact ⟨this.1, this.2.1, by omega⟩
  · obtain ⟨i, hi, rfl⟩ := h3 c hc e
    have i0 : 0 < i := by
      rcases Nat.eq_zero_or_pos i with rfl | x
      · exact absurd h4.2.1 ea
      · exact x
    obtain ⟨j, t, b1, b2, b3, b4⟩ := h7 i i0 hi
    exact ⟨q j, t, (h1 j (by omega)).1, b2, (h1 j (by omega)).2.2.1, b3, b4⟩
  · obtain ⟨i, hi, rfl⟩ := h3 c hc e
    exact h8 i t hi ht (.inl (by omega))
/-- two measures from one cell are alike -/
theorem hp_D.one {G : hp_G} {U V a : Nat} {d e : Nat → Nat} (hG : hp_wg G) (hU : 54 < U) (hV : 54 < V) (h : hp_D G U a d) (g : hp_D G V a e) (ha : a < 54) : ∀ m c, c < 54 → d c ≠ U → d c = m → e c ≠ V ∧ e c ≤ m := by
  have hC := hG.C
  intro m
  induction m with
  | zero =>
    intro c hc h1 h2
    by_cases ea : c = a
    · subst ea
      rw [g.1]
      exact ⟨by omega, by omega⟩
    · obtain ⟨c', t, _, _, _, _, b⟩ := h.2.2.1 c hc h1 ea
      omega
  | succ m ih =>
    intro c hc h1 h2
    by_cases ea : c = a
    · subst ea
      rw [g.1]
      exact ⟨by omega, by omega⟩
    · obtain ⟨c', t, b1, b2, b3, b4, b5⟩ := h.2.2.1 c hc h1 ea
      obtain ⟨i1, i2⟩ := ih c' (by omega) b3 (by omega)
      obtain ⟨j1, j2⟩ := g.2.2.2 c' t (by omega) b2 i1
      rw [b4] at j1 j2
      exact ⟨j1, by omega⟩
theorem hp_D.same {G : hp_G} {U V a : Nat} {d e : Nat → Nat} (hG : hp_wg G) (hU : 54 < U) (hV : 54 < V) (h : hp_D G U a d) (g : hp_D G V a e) (ha : a < 54) {c : Nat} (hc : c < 54) : (d c = U ∧ e c = V) ∨ (d c ≠ U ∧ e c ≠ V ∧ d c = e c) := by
  by_cases h1 : d c = U
  · left
    refine ⟨h1, ?_⟩
    rcases Classical.em (e c = V) with x | x
    · exact x
    · exact absurd h1 (hp_D.one hG hV hU g h ha _ c hc x rfl).1
  · right
    obtain ⟨a1, a2⟩ := hp_D.one hG hU hV h g ha _ c hc h1 rfl
    obtain ⟨b1, b2⟩ := hp_D.one hG hV hU g h ha _ c hc a1 rfl
    exact ⟨h1, a1, by omega⟩
/-- steps go back -/
theorem hp_nx_back {G : hp_G} (hG : hp_wg G) {c s : Nat} (hc : c < hp_C G) (ho : G 1 c = 0) (hs : s < 4) (hne : hp_nx G c s ≠ c) : ∃ t, t < 4 ∧ hp_nx G (hp_nx G c s) t = c := by
  obtain ⟨w3, h3⟩ := hG.W0 hc
  have e1 : hp_nx G c s = hp_to G c s := by
    unfold hp_nx at hne ⊢
    split
    · rfl
    · rename_i h; rw [if_neg h] at hne; exact absurd rfl hne
  rw [e1] at hne ⊢
  have fin : ∀ t, hp_to G (hp_to G c s) t = c → hp_nx G (hp_to G c s) t = c := by
    intro t ht
    unfold hp_nx
    rw [ht, if_pos ho]
  have hm : c % G 0 0 < G 0 0 := Nat.mod_lt _ (by omega)
  have ed := Nat.div_add_mod c (G 0 0)
  rcases (show s = 0 ∨ s = 1 ∨ s = 2 ∨ s = 3 by omega) with rfl | rfl | rfl | rfl
  · refine ⟨2, by omega, fin 2 ?_⟩
    have e : hp_to G c 0 = if G 0 0 ≤ c then c - G 0 0 else c := rfl
    by_cases h : G 0 0 ≤ c
    · rw [e, if_pos h]
      show (if c - G 0 0 + G 0 0 < hp_C G then c - G 0 0 + G 0 0 else c - G 0 0) = c
      rw [if_pos (by omega)]; omega
    · rw [e, if_neg h] at hne; exact absurd rfl hne
  · refine ⟨3, by omega, fin 3 ?_⟩
    have e : hp_to G c 1 = if c % G 0 0 + 1 < G 0 0 then c + 1 else c := rfl
    by_cases h : c % G 0 0 + 1 < G 0 0
    · rw [e, if_pos h]
      have : (c + 1) % G 0 0 = c % G 0 0 + 1 := by
        rw [Nat.add_mod, Nat.mod_eq_of_lt (show 1 < G 0 0 by omega), Nat.mod_eq_of_lt h]
      show (if 0 < (c + 1) % G 0 0 then c + 1 - 1 else c + 1) = c
      rw [if_pos (by omega)]; omega
    · rw [e, if_neg h] at hne; exact absurd rfl hne
  · refine ⟨0, by omega, fin 0 ?_⟩
    have e : hp_to G c 2 = if c + G 0 0 < hp_C G then c + G 0 0 else c := rfl
    by_cases h : c + G 0 0 < hp_C G
    · rw [e, if_pos h]
      show (if G 0 0 ≤ c + G 0 0 then c + G 0 0 - G 0 0 else c + G 0 0) = c
      rw [if_pos (by omega)]; omega
    · rw [e, if_neg h] at hne; exact absurd rfl hne
  · refine ⟨1, by omega, fin 1 ?_⟩
    have e : hp_to G c 3 = if 0 < c % G 0 0 then c - 1 else c := rfl
    by_cases h : 0 < c % G 0 0
    · rw [e, if_pos h]
      have : (c - 1) % G 0 0 = c % G 0 0 - 1 := by
        have e2 : c - 1 = (c % G 0 0 - 1) + G 0 0 * (c / G 0 0) := by omega
        rw [e2, Nat.add_mul_mod_self_left, Nat.mod_eq_of_lt (by omega)]
      show (if (c - 1) % G 0 0 + 1 < G 0 0 then c - 1 + 1 else c - 1) = c
      rw [if_pos (by omega)]; omega
    · rw [e, if_neg h] at hne; exact absurd rfl hne
/-- from a cell next to another one it's one more at the most -/
theorem hp_D.tri {G : hp_G} {U a a' : Nat} {d e : Nat → Nat} (hG : hp_wg G) (hU : 54 < U) (h : hp_D G U a d) (g : hp_D G U a' e) (ha : a < 54) (ha' : a' < 54) {t : Nat} (ht : t < 4) (hn : hp_nx G a t = a') : ∀ m c, c < 54 → e c ≠ U → e c = m → d c ≠ U ∧ d c ≤ m + 1 := by
  have hC := hG.C
  have h0 : d a ≠ U := by rw [h.1]; omega
  obtain ⟨s1, s2⟩ := h.2.2.2 a t ha ht h0
  rw [hn, h.1] at s2
  rw [hn] at s1
  intro m
  induction m with
  | zero =>
    intro c hc h1 h2
    by_cases ea : c = a'
    · subst ea; exact ⟨s1, by omega⟩
    · obtain ⟨c', t, _, _, _, _, b⟩ := g.2.2.1 c hc h1 ea
      omega
  | succ m ih =>
    intro c hc h1 h2
    by_cases ea : c = a'
    · subst ea; exact ⟨s1, by omega⟩
    · obtain ⟨c', t, b1, b2, b3, b4, b5⟩ := g.2.2.1 c hc h1 ea
      obtain ⟨i1, i2⟩ := ih c' (by omega) b3 (by omega)
      obtain ⟨j1, j2⟩ := h.2.2.2 c' t (by omega) b2 i1
      rw [b4] at j1 j2
      exact ⟨j1, by omega⟩
/-- all measures of a ground -/
def hp_DS (G : hp_G) (ds : Nat → Nat → Nat) : Prop := ∀ a, a < hp_C G → (G 1 a = 0 → hp_D G 1000 a (ds a)) ∧ (G 1 a ≠ 0 → ∀ c, c < 54 → ds a c = 1000)
theorem hp_DS.le {G : hp_G} {ds : Nat → Nat → Nat} (D : hp_DS G ds) {a b : Nat} (ha : a < hp_C G) (hb : b < 54) : ds a b = 1000 ∨ (ds a b < 54 ∧ G 1 a = 0 ∧ b < hp_C G ∧ G 1 b = 0) := by
  by_cases ho : G 1 a = 0
  · rcases Classical.em (ds a b = 1000) with x | x
    · exact .inl x
    · have := ((D a ha).1 ho).2.1 b hb x
      exact .inr ⟨this.2.2, ho, this.1, this.2.1⟩
  · exact .inl ((D a ha).2 ho b hb)
theorem hp_DS.half {G : hp_G} {ds : Nat → Nat → Nat} (hG : hp_wg G) (D : hp_DS G ds) {a : Nat} (ha : a < hp_C G) (ho : G 1 a = 0) : ∀ m b, b < hp_C G → ds a b ≠ 1000 → ds a b = m → ds b a ≠ 1000 ∧ ds b a ≤ m := by
  have hC := hG.C
  have Da := (D a ha).1 ho
  intro m
  induction m with
  | zero =>
    intro b hb h1 h2
    by_cases e : b = a
    · subst e; exact ⟨h1, by omega⟩
    · obtain ⟨c', t, _, _, _, _, x⟩ := Da.2.2.1 b (by omega) h1 e
      omega
  | succ m ih =>
    intro b hb h1 h2
    by_cases e : b = a
    · subst e
      exact ⟨h1, by omega⟩
    · have hbo := (Da.2.1 b (by omega) h1).2.1
      obtain ⟨c', t, b1, b2, b3, b4, b5⟩ := Da.2.2.1 b (by omega) h1 e
      obtain ⟨i1, i2⟩ := ih c' b1 b3 (by omega)
      have hco := (Da.2.1 c' (by omega) b3).2.1
      have hne : hp_nx G c' t ≠ c' := by rw [b4]; intro x; rw [x] at b5; omega
      obtain ⟨t', ht', hb'⟩ := hp_nx_back hG b1 hco b2 hne
      rw [b4] at hb'
      obtain ⟨k1, k2⟩ := hp_D.tri hG (by omega) ((D b hb).1 hbo) ((D c' b1).1 hco) (by omega) (by omega) ht' hb' _ a (by omega) i1 rfl
      exact ⟨k1, by omega⟩
theorem hp_DS.sym {G : hp_G} {ds : Nat → Nat → Nat} (hG : hp_wg G) (D : hp_DS G ds) {a b : Nat} (ha : a < hp_C G) (hb : b < hp_C G) : ds a b = ds b a := by
  have hC := hG.C
  rcases Classical.em (ds a b = 1000) with x | x
  · rcases Classical.em (ds b a = 1000) with y | y
    · rw [x, y]
    · have hbo : G 1 b = 0 := by rcases D.le hb (show a < 54 by omega) with z | z; exact absurd z y; exact z.2.1
      exact absurd x (D.half hG hb hbo _ a ha y rfl).1
  · have hao : G 1 a = 0 := by rcases D.le ha (show b < 54 by omega) with z | z; exact absurd z x; exact z.2.1
    obtain ⟨k1, k2⟩ := D.half hG ha hao _ b hb x rfl
    have hbo : G 1 b = 0 := by rcases D.le hb (show a < 54 by omega) with z | z; exact absurd z k1; exact z.2.1
    obtain ⟨l1, l2⟩ := D.half hG hb hbo _ a ha k1 rfl
    omega
