/-! questions: what stands at the token, both sides -/
def hq_W (i : Nat) : List Nat := ([[102, 105, 114, 115, 116], [108, 97, 115, 116], [111, 102, 116, 101, 110], [116, 111, 116, 97, 108], [109, 111, 115, 116], [108, 101, 97, 115, 116], [110, 111, 116], [97, 108, 108], [98, 101, 97, 116], [99, 108, 97, 115, 104], [108, 105, 116], [114, 101, 97, 100], [97, 116], [102, 97, 114], [103, 108, 111, 119], [109, 105, 110], [109, 97, 120], [97, 110, 100], [111, 114]] : List (List Nat)).getD i []
def hq_v (i : Nat) : Nat := ([91, 92, 93, 94, 95, 96, 97, 100, 103, 104, 105, 106, 107, 108, 109, 101, 102, 98, 99] : List Nat).getD i 91
def hm_kq (τ : hl_M) : Prop := ∀ i, i < 19 → hp_wv (hq_W i) (hq_v i) τ
def hq_ch (n : Nat) (b : Nat → Nat) (s : Nat) : Int32 := if s < n then nI (b s) else -1
def q_os (n : Nat) (b : Nat → Nat) (s : Nat) (σ τ : hl_M) : Prop := q_ok n b σ τ ∧ τ.1 64 2 = nI s ∧ σ.1 3 2 = nI s ∧ s ≤ n
section HERE
variable {σ τ σ' τ' υ : hl_M} {n a s t k j v K : Nat} {b : Nat → Nat} {W W' : List Nat} {D : Nat → Nat → Prop}
theorem hq_WL {i : Nat} (h : i < 19) : hp_le (hq_W i) := by
  have : ∀ i, i < 19 → (1 ≤ (hq_W i).length ∧ (hq_W i).length < 100 ∧ ∀ k, k < (hq_W i).length → (hq_W i).getD k 0 < 256) := by decide +kernel
  exact this i h
theorem hq_WJ {i : Nat} (h : i < 19) : hl_sB (19 + i) = (hq_W i).map nI := by
  have : ∀ i, i < 19 → hl_sB (19 + i) = (hq_W i).map nI := by decide +kernel
  exact this i h
theorem hq_W1 {i : Nat} (h : i < 19) {k : Nat} (hk : k < 19) (e : hq_W i = hq_W k) : i = k := by
  have : ∀ i, i < 19 → ∀ k, k < 19 → hq_W i = hq_W k → i = k := by decide +kernel
  exact this i h k hk e
theorem hq_v64 {i : Nat} (h : i < 19) : 91 ≤ hq_v i ∧ hq_v i ≤ 109 := by
  have : ∀ i, i < 19 → 91 ≤ hq_v i ∧ hq_v i ≤ 109 := by decide +kernel
  exact this i h
theorem hm_kq.fr (H : hm_kq τ) (F : hp_fr D τ υ) (h : ∀ q f, D q f → ¬ (91 ≤ q ∧ q ≤ 109)) : hm_kq υ := fun i hi => ⟨(H i hi).1, fun k hk => by rw [F.i (fun z => h _ _ z (hq_v64 hi))]; exact (H i hi).2 k hk⟩
theorem hp_is_list (h : hp_is b s t W) : W = (List.range (t - s)).map (fun i => b (s + i)) := by
  apply List.ext_getElem
  · rw [List.length_map, List.length_range]; exact h.1.symm
  · intro i h1 h2
    have h3 := h.2 i h1
    rw [List.getElem_map, List.getElem_range, h3, List.getD_eq_getElem?_getD, List.getElem?_eq_getElem h1]
    rfl
theorem q_os.fr (H : q_os n b s σ τ) (h1 : ∀ f, f = 1 ∨ f = 2 ∨ f = 3 ∨ f = 4 ∨ f = 5 → σ'.1 3 f = σ.1 3 f) (h2 : ∀ f, f = 2 ∨ f = 4 ∨ f = 5 ∨ f = 6 → τ'.1 64 f = τ.1 64 f) : q_os n b s σ' τ' := ⟨H.1.fr h1 h2, by rw [h2 2 (by omega)]; exact H.2.1, by rw [h1 2 (by omega)]; exact H.2.2.1, H.2.2.2⟩
theorem q_os.x (H : q_os n b s σ τ) : σ.1 3 4 = 0 ∧ τ.1 64 5 = 0 := H.1.x
/-- the token of a state in step -/
theorem q_os.tok (T : hx_t n b σ) (H : q_os n b s σ τ) : ∃ t, hp_sk n b s s ∧ hp_tk n b s t ∧ (τ.1 64 4 = -1 ∨ ∃ e, e ≤ s ∧ τ.1 64 4 = nI e) ∧ σ.1 3 3 = nI t ∧ (∀ k, k = 1 ∨ k = 2 → (σ.1 3 1 = nI k ↔ (s < n ∧ hp_kl (b s) = k ∧ τ.1 64 4 ≠ nI s))) ∧ (σ.1 3 1 = 3 ↔ (s < n ∧ hp_kl (b s) = 3)) ∧ (σ.1 3 1 = 0 ↔ s = n) := by
  have hn := T.1
  obtain ⟨a, s', t, S, E, h5, h2, he, h4, x2, x3, kd, kd3, kd0⟩ := q_kind H.1
  have S1 := S.1
  have S2 := S.2.1
  have e1 : a = s := by
    have h := H.2.1
    rw [h2] at h
    have q : nI a = nI s ↔ a = s := hl_eq (by omega) (by have := H.2.2.2; omega)
    exact q.mp h
  have e2 : s' = s := by
    have h := H.2.2.1
    rw [x2] at h
    have q : nI s' = nI s ↔ s' = s := hl_eq (by omega) (by have := H.2.2.2; omega)
    exact q.mp h
  subst e1 e2
  exact ⟨t, S, E, he, x3, kd, kd3, kd0⟩
theorem q_norm (T : hx_t n b σ) (R : hm_r n b τ) (H : q_ok n b σ τ) : ∃ a s, τ.1 64 2 = nI a ∧ a ≤ s ∧ q_os n b s σ (hl_si τ 64 2 (nI s)) ∧ f_M_look τ = some (hq_ch n b s, hl_si τ 64 2 (nI s)) := by
  obtain ⟨a, s, t, S, E, h5, h2, he, h4, x2, x3, -, -, -⟩ := q_kind H
  exact ⟨a, s, h2, S.1, ⟨q_at S H h2 T.1, hp_s01, x2, S.2.1⟩, hm_look R h2 S⟩
theorem q_os.look (T : hx_t n b σ) (R : hm_r n b τ) (H : q_os n b s σ τ) : f_M_look τ = some (hq_ch n b s, τ) := by
  obtain ⟨t, S, -⟩ := H.tok T
  rw [hm_look R H.2.1 S, hp_si_id H.2.1]
  rfl
theorem hq_chE (R : hm_r n b τ) (hv : v < 256) : hq_ch n b s = nI v ↔ (s < n ∧ b s = v) := by
  unfold hq_ch
  by_cases e : s < n
  · have hb := R.2.2 s e
    have q : nI (b s) = nI v ↔ b s = v := hl_eq (by omega) (by omega)
    rw [if_pos e, q]
    exact ⟨fun z => ⟨e, z⟩, fun z => z.2⟩
  · rw [if_neg e]
    exact ⟨fun z => absurd z.symm (hl_nm1 (by omega)), fun z => absurd z.1 e⟩
theorem hq_chN (R : hm_r n b τ) (H : q_os n b s σ τ) : hq_ch n b s = -1 ↔ s = n := by
  have := H.2.2.2
  unfold hq_ch
  by_cases e : s < n
  · have hb := R.2.2 s e
    rw [if_pos e]
    exact ⟨fun z => absurd z (hl_nm1 (by omega)), fun z => by omega⟩
  · rw [if_neg e]
    exact ⟨fun z => by omega, fun z => rfl⟩
/-- signs -/
theorem q_sgX (T : hx_t n b σ) (R : hm_r n b τ) (H : q_os n b s σ τ) (hv : v < 256) (hv3 : hp_kl v = 3) : f_Rd_isSign (nI v) σ = some (if s < n ∧ b s = v then 1 else 0) := by
  have hn := T.1
  have hs := H.2.2.2
  obtain ⟨t, S, E, he, x3, kd, kd3, kd0⟩ := H.tok T
  unfold f_Rd_isSign
  by_cases e3 : σ.1 3 1 = 3
  · obtain ⟨e1, e2⟩ := kd3.mp e3
    have hb := R.2.2 s e1
    rw [if_pos e3, H.2.2.1, hx_at T (by omega), if_pos e1, Option.bind_some]
    by_cases e : b s = v
    · rw [if_pos (by rw [e]), if_pos ⟨e1, e⟩]
    · have n1 : ¬ nI (b s) = nI v := by
        have n2 : nI (b s) = nI v ↔ b s = v := hl_eq (by omega) (by omega)
        exact fun z => e (n2.mp z)
      rw [if_neg n1, if_neg (fun z => e z.2)]
  · rw [if_neg e3, if_neg (fun z => e3 (kd3.mpr ⟨z.1, by rw [z.2]; exact hv3⟩))]
theorem q_sgM (T : hx_t n b σ) (R : hm_r n b τ) (H : q_os n b s σ τ) (hv : v < 256) : f_M_takesSign (nI v) τ = if s < n ∧ b s = v then some (1, hl_si τ 64 2 (nI (s + 1))) else some (0, τ) := by
  unfold f_M_takesSign
  rw [if_pos H.x.2, H.look T R, Option.bind_some]
  dsimp only
  by_cases e : s < n ∧ b s = v
  · rw [if_pos ((hq_chE R hv).mpr e), if_pos e, H.2.1, nI_1]
  · rw [if_neg (fun z => e ((hq_chE R hv).mp z)), if_neg e]
/-- behind a sign -/
theorem q_sgN (T : hx_t n b σ) (H : q_os n b s σ τ) (h : s < n) (h3 : hp_kl (b s) = 3) : ∃ σ1, f_Rd_advance σ = some σ1 ∧ hp_fr hx_RD σ σ1 ∧ q_ok n b σ1 (hl_si τ 64 2 (nI (s + 1))) := by
  obtain ⟨t, S, E, he, x3, kd, kd3, kd0⟩ := H.tok T
  obtain ⟨f1, f2, f3, f4⟩ := E.2.2 h
  have et : t = s + 1 := f3 h3
  exact q_adv (k := 3) (τ := hl_si τ 64 2 (nI (s + 1))) T x3 E.2.1 (kd3.mpr ⟨h, h3⟩) (.inr (.inr rfl)) H.x.1 (by rw [hp_sn (by omega)]; exact H.x.2) (by rw [hp_s01, et]) (.inr ⟨rfl, by
    rw [hp_sn (by omega)]
    rcases he with h | ⟨e, e1, e2⟩
    · exact .inl h
    · exact .inr ⟨e, by omega, e2⟩⟩) ⟨H.1.n5.1, by rw [hp_sn (by omega)]; exact H.1.n5.2⟩
/-- words: which of them stands there -/
def hq_at (b : Nat → Nat) (s : Nat) (σ : hl_M) (K : Nat) : Prop := ∃ t, t < 2000 ∧ σ.1 3 3 = nI t ∧ ((K < 19 ∧ σ.1 3 1 = 1 ∧ hp_is b s t (hq_W K)) ∨ (K = 99 ∧ ¬ ∃ i, i < 19 ∧ σ.1 3 1 = 1 ∧ hp_is b s t (hq_W i)))
theorem hq_at.ex (T : hx_t n b σ) (H : q_os n b s σ τ) : ∃ K, hq_at b s σ K := by
  have hn := T.1
  obtain ⟨t, S, E, he, x3, kd, kd3, kd0⟩ := H.tok T
  have E2 := E.2.1
  by_cases ex : ∃ i, i < 19 ∧ σ.1 3 1 = 1 ∧ hp_is b s t (hq_W i)
  · obtain ⟨K, h⟩ := ex
    exact ⟨K, t, by omega, x3, .inl h⟩
  · exact ⟨99, t, by omega, x3, .inr ⟨rfl, ex⟩⟩
theorem hq_at.fr (H : hq_at b s σ K) (h1 : σ'.1 3 1 = σ.1 3 1) (h3 : σ'.1 3 3 = σ.1 3 3) : hq_at b s σ' K := by
  obtain ⟨t, a1, a2, a3⟩ := H
  exact ⟨t, a1, h3.trans a2, by rw [h1]; exact a3⟩
theorem q_wd (T : hx_t n b σ) (R : hm_r n b τ) (KQ : hm_kq τ) (H : q_os n b s σ τ) (A : hq_at b s σ K) {i : Nat} (hi : i < 19) : f_Rd_isWord (19 + i) σ = some (if K = i then 1 else 0) ∧ f_M_isHere (hq_v i) τ = some (if K = i then 1 else 0, τ) := by
  have hn := T.1
  obtain ⟨t, S, E, he, x3, kd, kd3, kd0⟩ := H.tok T
  have kd1 := kd 1 (.inl rfl)
  rw [show nI 1 = (1 : Int32) from rfl] at kd1
  have E1 := E.1
  have E2 := E.2.1
  have both : (σ.1 3 1 = 1 ∧ hp_is b s t (hq_W i) ∧ f_Rd_isWord (19 + i) σ = some 1 ∧ f_M_isHere (hq_v i) τ = some (1, τ)) ∨ (¬ (σ.1 3 1 = 1 ∧ hp_is b s t (hq_W i)) ∧ f_Rd_isWord (19 + i) σ = some 0 ∧ f_M_isHere (hq_v i) τ = some (0, τ)) := by
    have v64 := hq_v64 hi
    have here := hm_isHere (KQ i hi) (hq_WL hi) (by omega) R H.x.2 H.2.1 S E
    rw [hp_si_id H.2.1] at here
    rcases hx_isWord (hq_WJ hi) (hq_WL hi) T H.2.2.1 x3 E1 E2 with ⟨q1, q2, q3⟩ | ⟨q1, q3⟩ <;> rcases here with ⟨m1, m2, m3, m4, m5⟩ | ⟨m1, m5⟩
    · exact .inl ⟨q1, q2, q3, m5⟩
    · exact absurd ⟨(kd1.mp q1).1, (kd1.mp q1).2.1, (kd1.mp q1).2.2, q2⟩ m1
    · exact absurd ⟨kd1.mpr ⟨m1, m2, m3⟩, m4⟩ q1
    · exact .inr ⟨q1, q3, m5⟩
  obtain ⟨t', a1, a2, a3⟩ := A
  have et : t' = t := by
    rw [x3] at a2
    have q : nI t = nI t' ↔ t = t' := hl_eq (by omega) (by omega)
    exact (q.mp a2).symm
  subst et
  rcases a3 with ⟨hK, k1, k2⟩ | ⟨rfl, ex⟩
  · by_cases e : K = i
    · subst e
      rw [if_pos rfl]
      rcases both with ⟨-, -, h1, h2⟩ | ⟨h, -⟩
      · exact ⟨h1, h2⟩
      · exact absurd ⟨k1, k2⟩ h
    · rw [if_neg e]
      rcases both with ⟨-, h, -⟩ | ⟨-, h1, h2⟩
      · exact absurd (hq_W1 hK hi ((hp_is_list k2).trans (hp_is_list h).symm)) e
      · exact ⟨h1, h2⟩
  · rw [if_neg (by omega)]
    rcases both with ⟨h1, h2, -⟩ | ⟨-, h1, h2⟩
    · exact absurd ⟨i, hi, h1, h2⟩ ex
    · exact ⟨h1, h2⟩
theorem hq_at.lo (T : hx_t n b σ) (H : q_os n b s σ τ) (A : hq_at b s σ K) (hK : K < 19) : σ.1 3 1 = 1 ∧ s < n ∧ hp_kl (b s) = 1 := by
  obtain ⟨t, S, E, he, x3, kd, kd3, kd0⟩ := H.tok T
  have kd1 := kd 1 (.inl rfl)
  obtain ⟨t', a1, a2, ⟨_, k1, k2⟩ | ⟨h, _⟩⟩ := A
  · obtain ⟨c1, c2, c3⟩ := kd1.mp k1
    exact ⟨k1, c1, c2⟩
  · omega
/-- behind a word -/
theorem q_wN (T : hx_t n b σ) (H : q_os n b s σ τ) (A : hq_at b s σ K) (hK : K < 19) : ∃ t σ1, t = s + (hq_W K).length ∧ s < t ∧ t ≤ n ∧ f_Rd_advance σ = some σ1 ∧ hp_fr hx_RD σ σ1 ∧ q_ok n b σ1 (hl_si (hl_si τ 64 2 (nI t)) 64 4 (nI t)) := by
  have hn := T.1
  obtain ⟨t, S, E, he, x3, kd, kd3, kd0⟩ := H.tok T
  have kd1 := kd 1 (.inl rfl)
  have E2 := E.2.1
  obtain ⟨t', a1, a2, a3⟩ := A
  have et : t' = t := by
    rw [x3] at a2
    have q : nI t = nI t' ↔ t = t' := hl_eq (by omega) (by omega)
    exact (q.mp a2).symm
  subst et
  rcases a3 with ⟨_, k1, k2⟩ | ⟨h, _⟩
  · obtain ⟨c1, c2, c3⟩ := kd1.mp k1
    obtain ⟨f1, f2, f3, f4⟩ := E.2.2 c1
    have k1' : σ.1 3 1 = nI 1 := k1
    obtain ⟨σ1, r1, r2, r3⟩ := q_adv (k := 1) (τ := hl_si (hl_si τ 64 2 (nI t')) 64 4 (nI t')) T x3 E2 k1' (.inl rfl) H.x.1 (by rw [hp_sn (by omega), hp_sn (by omega)]; exact H.x.2) (by rw [hp_sn (by omega), hp_s01]) (.inl ⟨by decide, hp_s01⟩) ⟨H.1.n5.1, by rw [hp_sn (by omega), hp_sn (by omega)]; exact H.1.n5.2⟩
    exact ⟨t', σ1, by have := k2.1; omega, f1, E2, r1, r2, r3⟩
  · omega
/-- the model takes the word that is there -/
theorem q_wT (KQ : hm_kq τ) (H : q_os n b s σ τ) {i : Nat} (hi : i < 19) (h : f_M_isHere (hq_v i) τ = some (1, τ)) : f_M_takes (hq_v i) τ = some (1, hl_si (hl_si τ 64 2 (nI (s + (hq_W i).length))) 64 4 (nI (s + (hq_W i).length))) ∧ f_M_asks (hq_v i) τ = some (hl_si (hl_si τ 64 2 (nI (s + (hq_W i).length))) 64 4 (nI (s + (hq_W i).length))) := by
  have h1 : f_M_takes (hq_v i) τ = some (1, hl_si (hl_si τ 64 2 (nI (s + (hq_W i).length))) 64 4 (nI (s + (hq_W i).length))) := by
    unfold f_M_takes
    rw [h, Option.bind_some, if_neg (show ¬ (1 : Int32) = 0 by decide), (KQ i hi).1, if_pos rfl, hp_let]
    dsimp only
    rw [show Int32.ofNat (hq_W i).length = nI (hq_W i).length from rfl, H.2.1, nI_add, hp_s01]
  refine ⟨h1, ?_⟩
  unfold f_M_asks
  rw [if_pos H.x.2, h1, Option.bind_some, if_neg (show ¬ (1 : Int32) = 0 by decide)]
theorem q_wF {i : Nat} (H : q_os n b s σ τ) (h : f_M_isHere (hq_v i) τ = some (0, τ)) : f_M_takes (hq_v i) τ = some (0, τ) ∧ f_M_asks (hq_v i) τ = some (f_M_fail 1 (nI s) τ) := by
  have h1 : f_M_takes (hq_v i) τ = some (0, τ) := by
    unfold f_M_takes
    rw [h, Option.bind_some, if_pos rfl]
  refine ⟨h1, ?_⟩
  unfold f_M_asks
  rw [if_pos H.x.2, h1, Option.bind_some, if_pos rfl, H.2.1]
end HERE
