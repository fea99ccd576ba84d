/-! both sides as wholes: every call leaves them alike -/
def hq_X (G P : hp_G) (L : List hp_G) (n : Nat) (b : Nat → Nat) (pt : Nat) (pic : Nat → Nat) (m : Nat) (o : Nat → Nat) (σ : hl_M) : Prop := hx G P σ ∧ hx_a G P L σ ∧ hx_t n b σ ∧ hx_pc pt pic σ ∧ hx_im m o σ
def hq_M (G P : hp_G) (L : List hp_G) (n : Nat) (b : Nat → Nat) (pt : Nat) (pic : Nat → Nat) (m : Nat) (o : Nat → Nat) (ds : Nat → Nat → Nat) (τ : hl_M) : Prop := hm G P τ ∧ hm_a G L τ ∧ hm_t n b τ ∧ hm_pc G pt pic τ ∧ hm_im m o τ ∧ hm_o 1000 1000 0 τ ∧ hp_DS G ds ∧ hm_d G ds τ ∧ hm_k τ ∧ hm_kq τ
def hq_R (σ τ : hl_M) : Prop := ∃ G P L n b pt pic m o ds, hq_X G P L n b pt pic m o σ ∧ hq_M G P L n b pt pic m o ds τ ∧ q_f σ τ
def hq_lo (q _f : Nat) : Prop := q < 64
def hq_hi (q _f : Nat) : Prop := 64 ≤ q
def hq_0 {α : Type} (fX fM : hl_M → Option α) : Prop := ∀ σ τ, hq_R σ τ → ∃ r, fX σ = some r ∧ fM τ = some r
def hq_1 {α : Type} (fX : hl_M → Option (α × hl_M)) (fM : hl_M → Option α) : Prop := ∀ σ τ, hq_R σ τ → ∃ r σ', fX σ = some (r, σ') ∧ hp_fr hq_lo σ σ' ∧ fM τ = some r ∧ hq_R σ' τ
def hq_2 {α : Type} (fX fM : hl_M → Option (α × hl_M)) : Prop := ∀ σ τ, hq_R σ τ → ∃ r σ' τ', fX σ = some (r, σ') ∧ hp_fr hq_lo σ σ' ∧ fM τ = some (r, τ') ∧ hp_fr hq_hi τ τ' ∧ hq_R σ' τ'
section REL
variable {G P P' : hp_G} {L L' : List hp_G} {σ τ σ' τ' υ : hl_M} {n n' m pt : Nat} {b b' pic o : Nat → Nat} {ds : Nat → Nat → Nat} {D : Nat → Nat → Prop}
theorem hx_im.fr (X : hx_im m o σ) (F : hp_fr D σ σ') (h : ∀ q f, D q f → q ≠ 62 ∧ q ≠ 63) : hx_im m o σ' := ⟨X.1, by rw [F.i (fun z => (h _ _ z).1 rfl)]; exact X.2.1, fun k hk => by rw [F.i (fun z => (h _ _ z).2 rfl)]; exact X.2.2 k hk⟩
theorem hm_im.fr (X : hm_im m o σ) (F : hp_fr D σ σ') (h : ∀ q f, D q f → ¬ (q = 64 ∧ f = 82) ∧ q ≠ 113) : hm_im m o σ' := ⟨X.1, by rw [F.i (fun z => (h _ _ z).1 ⟨rfl, rfl⟩)]; exact X.2.1, fun k hk => by rw [F.i (fun z => (h _ _ z).2 rfl)]; exact X.2.2 k hk⟩
theorem hm_t.fr (U : hm_t n b σ) (F : hp_fr D σ σ') (h1 : ¬ D 64 1) (h2 : ∀ k, ¬ D 65 k) : hm_t n b σ' := ⟨U.1, by rw [F.i h1]; exact U.2.1, fun k hk => by rw [F.i (h2 k)]; exact U.2.2 k hk⟩
theorem hm_o.fr (O : hm_o 1000 1000 0 σ) (F : hp_fr D σ σ') (h1 : ¬ D 64 35) (h2 : ¬ D 64 36) : hm_o 1000 1000 0 σ' := ⟨O.1, O.2.1, O.2.2.1, by rw [F.i h1]; exact O.2.2.2.1, by rw [F.i h2]; exact O.2.2.2.2.1, fun h => absurd rfl h⟩
theorem q_f.fr (F : q_f σ τ) {DX DM : Nat → Nat → Prop} (FX : hp_fr DX σ σ') (FM : hp_fr DM τ τ') (hX : ∀ q f, DX q f → q ≠ 3) (hM : ∀ q f, DM q f → ¬ (q = 64 ∧ (f = 7 ∨ f = 8))) : q_f σ' τ' := by
  refine ⟨?_, ?_⟩
  · rw [FX.i (fun z => hX _ _ z rfl), FM.i (fun z => hM _ _ z ⟨rfl, by omega⟩)]; exact F.1
  · rw [FX.i (fun z => hX _ _ z rfl), FM.i (fun z => hM _ _ z ⟨rfl, by omega⟩)]; exact F.2
theorem hq_X.fr (H : hq_X G P L n b pt pic m o σ) (F : hp_fr D σ σ') (h : ∀ q f, D q f → q = 3 ∨ (14 ≤ q ∧ q ≤ 26) ∨ (37 ≤ q ∧ q ≤ 57) ∨ 64 ≤ q) : hq_X G P L n b pt pic m o σ' := by
  obtain ⟨H1, A, T, X, I⟩ := H
  exact ⟨H1.fr F (fun q f z => by have := h q f z; omega), A.fr F (fun q f z => by have := h q f z; omega), T.fr F (fun z => by have := h _ _ z; omega) (fun k z => by have := h _ _ z; omega), X.fr F (fun q f z => by have := h q f z; omega), I.fr F (fun q f z => by have := h q f z; omega)⟩
theorem hq_M.fr (H : hq_M G P L n b pt pic m o ds τ) (W : ∀ (i : Nat) (P' : hp_G), L[i]? = some P' → hp_wp G P') (F : hp_fr D τ τ') (O' : hm_o 1000 1000 0 τ') (h : ∀ q f, D q f → q < 64 ∨ (q = 64 ∧ f ≠ 1 ∧ f ≠ 30 ∧ f ≠ 31 ∧ f ≠ 47 ∧ f ≠ 50 ∧ f ≠ 51 ∧ f ≠ 82) ∨ (84 ≤ q ∧ q ≤ 88) ∨ (110 ≤ q ∧ q ≤ 112)) : hq_M G P L n b pt pic m o ds τ' := by
  obtain ⟨K, B, U, M, J, O, D1, E, KK, KQ⟩ := H
  exact ⟨K.fr F (fun q f z => by have := h q f z; unfold hm_dep; omega), B.fr K.wg W F (fun q f z => by have := h q f z; unfold hm_K; omega), U.fr F (fun z => by have := h _ _ z; omega) (fun k z => by have := h _ _ z; omega), M.fr F (fun q f z => by have := h q f z; omega), J.fr F (fun q f z => by have := h q f z; omega), O', D1, E.fr F (fun q f z => by have := h q f z; omega), KK.fr F (fun q f z => by have := h q f z; omega), KQ.fr F (fun q f z => by have := h q f z; omega)⟩
theorem hq_R.XX (H : hq_R σ τ) (F : hp_fr hq_hi σ σ') : hq_R σ' τ := by
  obtain ⟨G, P, L, n, b, pt, pic, m, o, ds, X, M, f⟩ := H
  exact ⟨G, P, L, n, b, pt, pic, m, o, ds, X.fr F (fun q f h => by unfold hq_hi at h; omega), M, f.fr F (.rf (D := fun _ _ => False)) (fun q f h => by unfold hq_hi at h; omega) (fun q f h => h.elim)⟩
theorem hq_R.MM (H : hq_R σ τ) (F : hp_fr hq_lo τ τ') : hq_R σ τ' := by
  obtain ⟨G, P, L, n, b, pt, pic, m, o, ds, X, M, f⟩ := H
  exact ⟨G, P, L, n, b, pt, pic, m, o, ds, X, M.fr (hx_as.wp X.2.1.2.2) F (M.2.2.2.2.2.1.fr F (by unfold hq_lo; omega) (by unfold hq_lo; omega)) (fun q f h => by unfold hq_lo at h; omega), f.fr (.rf (D := fun _ _ => False)) F (fun q f h => h.elim) (fun q f h => by unfold hq_lo at h; omega)⟩
theorem hq_R.T (H : hq_R σ τ) (F : hp_fr hx_T σ σ') : hq_R σ' τ := by
  obtain ⟨G, P, L, n, b, pt, pic, m, o, ds, X, M, f⟩ := H
  exact ⟨G, P, L, n, b, pt, pic, m, o, ds, X.fr F (fun q f h => by unfold hx_T at h; omega), M, f.fr F (.rf (D := fun _ _ => False)) (fun q f h => by unfold hx_T at h; omega) (fun q f h => h.elim)⟩
theorem hq_R.MT (H : hq_R σ τ) (F : hp_fr (fun q f => hm_T2 q f ∨ hm_T4 q f) τ τ') (O' : hm_o 1000 1000 0 τ') : hq_R σ τ' := by
  obtain ⟨G, P, L, n, b, pt, pic, m, o, ds, X, M, f⟩ := H
  exact ⟨G, P, L, n, b, pt, pic, m, o, ds, X, M.fr (hx_as.wp X.2.1.2.2) F O' (fun q f h => by unfold hm_T2 hm_T4 at h; omega), f.fr (.rf (D := fun _ _ => False)) F (fun q f h => h.elim) (fun q f h => by unfold hm_T2 hm_T4 at h; omega)⟩
theorem hq_0.on {α : Type} {fX fM : hl_M → Option α} (S : hq_0 fX fM) (H : hq_R σ σ) : ∃ r, fX σ = some r ∧ fM σ = some r := S σ σ H
theorem hq_1.on {α : Type} {fX : hl_M → Option (α × hl_M)} {fM : hl_M → Option α} (S : hq_1 fX fM) (H : hq_R σ σ) : ∃ r σ1, fX σ = some (r, σ1) ∧ fM σ1 = some r ∧ hq_R σ1 σ1 := by
  obtain ⟨r, σ1, a1, a2, -, -⟩ := S σ σ H
  obtain ⟨r', σ2, b1, b2, b3, b4⟩ := S σ σ1 (H.MM a2)
  rw [a1] at b1
  obtain ⟨rfl, rfl⟩ := Prod.mk.inj (Option.some.inj b1)
  exact ⟨r, σ1, a1, b3, b4⟩
theorem hq_2.on {α : Type} {fX fM : hl_M → Option (α × hl_M)} (S : hq_2 fX fM) (H : hq_R σ σ) : ∃ r σ1 σ2, fX σ = some (r, σ1) ∧ fM σ1 = some (r, σ2) ∧ hq_R σ2 σ2 := by
  obtain ⟨r, σ1, τ0, a1, a2, -, -, -⟩ := S σ σ H
  obtain ⟨r', σ2, τ', b1, b2, b3, b4, b5⟩ := S σ σ1 (H.MM a2)
  rw [a1] at b1
  obtain ⟨rfl, rfl⟩ := Prod.mk.inj (Option.some.inj b1)
  exact ⟨r, σ1, τ', a1, b3, b5.XX b4⟩
theorem hx_T_lo : ∀ q f, hx_T q f → hq_lo q f := fun q f h => by unfold hx_T at h; unfold hq_lo; omega
/-! the calls -/
theorem s_where (v1 v2 : Int32) : hq_0 (f_X_where v1 v2) (f_M_where v1 v2) := by
  rintro σ τ ⟨G, P, L, n, b, pt, pic, m, o, ds, ⟨H, A, T, X, I⟩, ⟨K, B, U, M, J, O, D, E, KK, KQ⟩, F⟩
  exact q_where H K v1 v2
theorem s_clash (v : Int32) : hq_0 (f_X_clash v) (f_M_clash v) := by
  rintro σ τ ⟨G, P, L, n, b, pt, pic, m, o, ds, ⟨H, A, T, X, I⟩, ⟨K, B, U, M, J, O, D, E, KK, KQ⟩, F⟩
  exact q_clash H K v
theorem s_clashes : hq_0 f_X_clashes f_M_clashes := by
  rintro σ τ ⟨G, P, L, n, b, pt, pic, m, o, ds, ⟨H, A, T, X, I⟩, ⟨K, B, U, M, J, O, D, E, KK, KQ⟩, F⟩
  exact q_clashes H K
theorem s_still (v : Int32) : hq_0 (f_X_still v) (f_M_still v) := by
  rintro σ τ ⟨G, P, L, n, b, pt, pic, m, o, ds, ⟨H, A, T, X, I⟩, ⟨K, B, U, M, J, O, D, E, KK, KQ⟩, F⟩
  exact q_still H K v
theorem s_letter (v1 v2 v3 : Int32) : hq_0 (f_X_letter v1 v2 v3) (f_M_letter v1 v2 v3) := by
  rintro σ τ ⟨G, P, L, n, b, pt, pic, m, o, ds, ⟨H, A, T, X, I⟩, ⟨K, B, U, M, J, O, D, E, KK, KQ⟩, F⟩
  exact q_letter H K v1 v2 v3
theorem s_word (v1 v2 : Int32) : hq_0 (f_X_word v1 v2) (f_M_word v1 v2) := by
  rintro σ τ ⟨G, P, L, n, b, pt, pic, m, o, ds, ⟨H, A, T, X, I⟩, ⟨K, B, U, M, J, O, D, E, KK, KQ⟩, F⟩
  exact q_word H K v1 v2
theorem s_alike (v : Int32) : hq_0 (f_X_alike v) (f_M_alike v) := by
  rintro σ τ ⟨G, P, L, n, b, pt, pic, m, o, ds, ⟨H, A, T, X, I⟩, ⟨K, B, U, M, J, O, D, E, KK, KQ⟩, F⟩
  exact q_alike H K v
theorem s_octet (v : Int32) : hq_0 (f_X_octet v) (f_M_octet v) := by
  rintro σ τ ⟨G, P, L, n, b, pt, pic, m, o, ds, ⟨H, A, T, X, I⟩, ⟨K, B, U, M, J, O, D, E, KK, KQ⟩, F⟩
  exact q_octet I J v
theorem s_lit (v1 v2 : Int32) : hq_1 (f_X_lit v1 v2) (f_M_lit v1 v2) := by
  intro σ τ R
  have R0 := R
  obtain ⟨G, P, L, n, b, pt, pic, m, o, ds, ⟨H, A, T, X, I⟩, ⟨K, B, U, M, J, O, D, E, KK, KQ⟩, F⟩ := R
  obtain ⟨r, σ', a1, a2, a3⟩ := q_lit H K O v1 v2
  exact ⟨r, σ', a1, a2.mono hx_T_lo, a3, R0.T a2⟩
theorem s_ground (v : Int32) : hq_1 (f_X_ground v) (f_M_ground v) := by
  intro σ τ R
  have R0 := R
  obtain ⟨G, P, L, n, b, pt, pic, m, o, ds, ⟨H, A, T, X, I⟩, ⟨K, B, U, M, J, O, D, E, KK, KQ⟩, F⟩ := R
  obtain ⟨r, σ', a1, a2, a3⟩ := q_ground H K O (by rw [A.1, B.2.1]) v
  exact ⟨r, σ', a1, a2.mono hx_T_lo, a3, R0.T a2⟩
theorem s_hymn (v1 v2 : Int32) : hq_1 (f_X_hymn v1 v2) (f_M_hymn v1 v2) := by
  intro σ τ R
  have R0 := R
  obtain ⟨G, P, L, n, b, pt, pic, m, o, ds, ⟨H, A, T, X, I⟩, ⟨K, B, U, M, J, O, D, E, KK, KQ⟩, F⟩ := R
  obtain ⟨r, σ', a1, a2, a3⟩ := q_hymn H K O v1 v2
  exact ⟨r, σ', a1, a2.mono hx_T_lo, a3, R0.T a2⟩
theorem s_read (v : Int32) {u : Nat} (hu : u ≤ 1) : hq_1 (f_X_read v (nI u)) (f_M_read v (nI u)) := by
  intro σ τ R
  have R0 := R
  obtain ⟨G, P, L, n, b, pt, pic, m, o, ds, ⟨H, A, T, X, I⟩, ⟨K, B, U, M, J, O, D, E, KK, KQ⟩, F⟩ := R
  obtain ⟨r, σ', a1, a2, a3⟩ := q_read H K O v hu
  exact ⟨r, σ', a1, a2.mono hx_T_lo, a3, R0.T a2⟩
theorem s_far (v1 v2 : Int32) {u : Nat} (hu : u ≤ 1) : hq_1 (f_X_far v1 v2 (nI u)) (f_M_far v1 v2 (nI u)) := by
  intro σ τ R
  have R0 := R
  obtain ⟨G, P, L, n, b, pt, pic, m, o, ds, ⟨H, A, T, X, I⟩, ⟨K, B, U, M, J, O, D, E, KK, KQ⟩, F⟩ := R
  obtain ⟨r, σ', a1, a2, a3⟩ := q_far H K O v1 v2 hu
  exact ⟨r, σ', a1, a2.mono hx_T_lo, a3, R0.T a2⟩
theorem s_said (v : Int32) : hq_1 (f_X_said v) (f_M_said v) := by
  intro σ τ R
  have R0 := R
  obtain ⟨G, P, L, n, b, pt, pic, m, o, ds, ⟨H, A, T, X, I⟩, ⟨K, B, U, M, J, O, D, E, KK, KQ⟩, F⟩ := R
  obtain ⟨r, σ', a1, a2, a3⟩ := q_said H K O v
  exact ⟨r, σ', a1, a2.mono hx_T_lo, a3, R0.T a2⟩
theorem s_between (v1 v2 : Int32) : hq_1 (f_X_between v1 v2) (f_M_between v1 v2) := by
  intro σ τ R
  have R0 := R
  obtain ⟨G, P, L, n, b, pt, pic, m, o, ds, ⟨H, A, T, X, I⟩, ⟨K, B, U, M, J, O, D, E, KK, KQ⟩, F⟩ := R
  obtain ⟨r, σ', a1, a2, a3⟩ := q_between H K O v1 v2
  exact ⟨r, σ', a1, a2.mono hx_T_lo, a3, R0.T a2⟩
theorem s_steps (v1 v2 : Int32) : hq_1 (f_X_steps v1 v2) (f_M_steps v1 v2) := by
  intro σ τ R
  have R0 := R
  obtain ⟨G, P, L, n, b, pt, pic, m, o, ds, ⟨H, A, T, X, I⟩, ⟨K, B, U, M, J, O, D, E, KK, KQ⟩, F⟩ := R
  obtain ⟨r, σ', a1, a2, a3⟩ := q_steps H K D E v1 v2
  exact ⟨r, σ', a1, a2.mono hx_T_lo, a3, R0.T a2⟩
theorem s_nearest (v1 v2 : Int32) : hq_2 (f_X_nearest v1 v2) (f_M_nearest v1 v2) := by
  intro σ τ R
  have R0 := R
  obtain ⟨G, P, L, n, b, pt, pic, m, o, ds, ⟨H, A, T, X, I⟩, ⟨K, B, U, M, J, O, D, E, KK, KQ⟩, F⟩ := R
  obtain ⟨r, σ', τ', a1, a2, a3, a4⟩ := q_nearest H K O v1 v2
  exact ⟨r, σ', τ', a1, a2.mono hx_T_lo, a3, a4.mono (fun q f h => by unfold hm_T at h; unfold hq_hi; omega), (R0.T a2).MT (a4.mono (fun q f h => by unfold hm_T at h; unfold hm_T2; omega)) (O.fr a4 (by unfold hm_T; omega) (by unfold hm_T; omega))⟩
theorem s_danger (v : Int32) : hq_2 (f_X_danger v) (f_M_danger v) := by
  intro σ τ R
  have R0 := R
  obtain ⟨G, P, L, n, b, pt, pic, m, o, ds, ⟨H, A, T, X, I⟩, ⟨K, B, U, M, J, O, D, E, KK, KQ⟩, F⟩ := R
  obtain ⟨r, σ', τ', a1, a2, a3, a4, a5⟩ := q_danger H K O v
  exact ⟨r, σ', τ', a1, a2.mono hx_T_lo, a3, a4.mono (fun q f h => by unfold hm_T2 at h; unfold hq_hi; omega), (R0.T a2).MT (a4.mono (fun q f h => .inl h)) a5⟩
theorem s_missed (v1 v2 : Int32) : hq_2 (f_X_missed v1 v2) (f_M_missed v1 v2) := by
  intro σ τ R
  have R0 := R
  obtain ⟨G, P, L, n, b, pt, pic, m, o, ds, ⟨H, A, T, X, I⟩, ⟨K, B, U, M, J, O, D, E, KK, KQ⟩, F⟩ := R
  obtain ⟨r, σ', τ', a1, a2, a3, a4, a5⟩ := q_missed H X K O M v1 v2
  exact ⟨r, σ', τ', a1, a2.mono hx_T_lo, a3, a4.mono (fun q f h => by unfold hm_T2 at h; unfold hq_hi; omega), (R0.T a2).MT (a4.mono (fun q f h => .inl h)) a5⟩
theorem s_person (v1 v2 : Int32) : hq_2 (f_X_person v1 v2) (f_M_person v1 v2) := by
  intro σ τ R
  have R0 := R
  obtain ⟨G, P, L, n, b, pt, pic, m, o, ds, ⟨H, A, T, X, I⟩, ⟨K, B, U, M, J, O, D, E, KK, KQ⟩, F⟩ := R
  obtain ⟨r, σ', τ', a1, a2, a3, a4, a5⟩ := q_person H K O v1 v2
  exact ⟨r, σ', τ', a1, a2.mono hx_T_lo, a3, a4.mono (fun q f h => by unfold hm_T2 at h; unfold hq_hi; omega), (R0.T a2).MT (a4.mono (fun q f h => .inl h)) a5⟩
theorem hm_T4_hi : ∀ q f, hm_T4 q f → hq_hi q f := fun q f h => by unfold hm_T4 at h; unfold hq_hi; omega
theorem s_least (v1 v2 v3 : Int32) : hq_2 (f_X_least v1 v2 v3) (f_M_least v1 v2 v3) := by
  intro σ τ R
  have R0 := R
  obtain ⟨G, P, L, n, b, pt, pic, m, o, ds, ⟨H, A, T, X, I⟩, ⟨K, B, U, M, J, O, D, E, KK, KQ⟩, F⟩ := R
  obtain ⟨r, σ', τ', a1, a2, a3, a4⟩ := q_least H K D E v1 v2 v3
  exact ⟨r, σ', τ', a1, a2.mono hx_T_lo, a3, a4.mono hm_T4_hi, (R0.T a2).MT (a4.mono (fun q f h => .inr h)) (O.fr a4 (by unfold hm_T4; omega) (by unfold hm_T4; omega))⟩
theorem s_soon (v1 v2 : Int32) : hq_2 (f_X_soon v1 v2) (f_M_soon v1 v2) := by
  intro σ τ R
  have R0 := R
  obtain ⟨G, P, L, n, b, pt, pic, m, o, ds, ⟨H, A, T, X, I⟩, ⟨K, B, U, M, J, O, D, E, KK, KQ⟩, F⟩ := R
  obtain ⟨r, σ', τ', a1, a2, a3, a4⟩ := q_soon H K D E v1 v2
  exact ⟨r, σ', τ', a1, a2.mono hx_T_lo, a3, a4.mono hm_T4_hi, (R0.T a2).MT (a4.mono (fun q f h => .inr h)) (O.fr a4 (by unfold hm_T4; omega) (by unfold hm_T4; omega))⟩
theorem s_way (v1 v2 v3 v4 : Int32) : hq_2 (f_X_way v1 v2 v3 v4) (f_M_way v1 v2 v3 v4) := by
  intro σ τ R
  have R0 := R
  obtain ⟨G, P, L, n, b, pt, pic, m, o, ds, ⟨H, A, T, X, I⟩, ⟨K, B, U, M, J, O, D, E, KK, KQ⟩, F⟩ := R
  obtain ⟨r, σ', τ', a1, a2, a3, a4⟩ := q_way H K D E v1 v2 v3 v4
  exact ⟨r, σ', τ', a1, a2.mono hx_T_lo, a3, a4.mono hm_T4_hi, (R0.T a2).MT (a4.mono (fun q f h => .inr h)) (O.fr a4 (by unfold hm_T4; omega) (by unfold hm_T4; omega))⟩
/-! calls that change more -/
theorem hq_act (X : hx_pc pt pic σ) (I : hx_im m o σ) (M : hm_pc G pt pic τ) (J : hm_im m o τ) (O : hm_o 1000 1000 0 τ) (D1 : hp_DS G ds) (E : hm_d G ds τ) (KK : hm_k τ) (KQ : hm_kq τ) (F : q_f σ τ) (FX : hp_fr hx_BD σ σ') (FM : hp_fr hm_BD τ τ') (H' : hx G P' σ') (A' : hx_a G P' L' σ') (T' : hx_t n' b' σ') (K' : hm G P' τ') (B' : hm_a G L' τ') (U' : hm_t n' b' τ') : hp_fr hq_lo σ σ' ∧ hp_fr hq_hi τ τ' ∧ hq_R σ' τ' := by
  refine ⟨FX.mono (fun q f h => by unfold hx_BD hx_AD hx_T at h; unfold hq_lo; omega), FM.mono (fun q f h => by unfold hm_BD hm_AD hm_K hm_T4 at h; unfold hq_hi; omega), G, P', L', n', b', pt, pic, m, o, ds, ⟨H', A', T', X.fr FX (fun q f h => by unfold hx_BD hx_AD hx_T at h; omega), I.fr FX (fun q f h => by unfold hx_BD hx_AD hx_T at h; omega)⟩, ⟨K', B', U', M.fr FM (fun q f h => by unfold hm_BD hm_AD hm_K hm_T4 at h; omega), J.fr FM (fun q f h => by unfold hm_BD hm_AD hm_K hm_T4 at h; omega), O.fr FM (by unfold hm_BD hm_AD hm_K hm_T4; omega) (by unfold hm_BD hm_AD hm_K hm_T4; omega), D1, E.fr FM (fun q f h => by unfold hm_BD hm_AD hm_K hm_T4 at h; omega), KK.fr FM (fun q f h => by unfold hm_BD hm_AD hm_K hm_T4 at h; omega), KQ.fr FM (fun q f h => by unfold hm_BD hm_AD hm_K hm_T4 at h; omega)⟩, F.fr FX FM (fun q f h => by unfold hx_BD hx_AD hx_T at h; omega) (fun q f h => by unfold hm_BD hm_AD hm_K hm_T4 at h; omega)⟩
theorem s_lamp (v1 v2 : Int32) : hq_2 (f_X_lamp v1 v2) (f_M_lamp v1 v2) := by
  rintro σ τ ⟨G, P, L, n, b, pt, pic, m, o, ds, ⟨H, A, T, X, I⟩, ⟨K, B, U, M, J, O, D, E, KK, KQ⟩, F⟩
  obtain ⟨r, σ', τ', P', L', a1, a2, a3, a4, a5, a6, a7, a8⟩ := q_lamp H A K B v1 v2
  obtain ⟨b1, b2, b3⟩ := hq_act X I M J O D E KK KQ F (a2.mono (fun q f h => .inl h)) (a4.mono (fun q f h => .inl h)) a5 a6 (T.fr a2 (by unfold hx_AD; omega) (fun k => by unfold hx_AD; omega)) a7 a8 (U.fr a4 (by unfold hm_AD hm_K; omega) (fun k => by unfold hm_AD hm_K; omega))
  exact ⟨r, σ', τ', a1, b1, a3, b2, b3⟩
theorem s_undo : hq_2 f_X_undo f_M_undo := by
  rintro σ τ ⟨G, P, L, n, b, pt, pic, m, o, ds, ⟨H, A, T, X, I⟩, ⟨K, B, U, M, J, O, D, E, KK, KQ⟩, F⟩
  obtain ⟨r, σ', τ', P', L', a1, a2, a3, a4, a5, a6, a7, a8⟩ := q_undo H A K B
  obtain ⟨b1, b2, b3⟩ := hq_act X I M J O D E KK KQ F (a2.mono (fun q f h => .inl h)) (a4.mono (fun q f h => .inl h)) a5 a6 (T.fr a2 (by unfold hx_AD; omega) (fun k => by unfold hx_AD; omega)) a7 a8 (U.fr a4 (by unfold hm_AD hm_K; omega) (fun k => by unfold hm_AD hm_K; omega))
  exact ⟨r, σ', τ', a1, b1, a3, b2, b3⟩
theorem s_learn (v1 v2 : Int32) : hq_2 (f_X_learn v1 v2) (f_M_learn v1 v2) := by
  rintro σ τ ⟨G, P, L, n, b, pt, pic, m, o, ds, ⟨H, A, T, X, I⟩, ⟨K, B, U, M, J, O, D, E, KK, KQ⟩, F⟩
  obtain ⟨r, σ', τ', P', L', a1, a2, a3, a4, a5, a6, a7, a8⟩ := q_learn H A K B D E v1 v2
  obtain ⟨b1, b2, b3⟩ := hq_act X I M J O D E KK KQ F (a2.mono (fun q f h => h.elim .inl (fun z => .inr (.inr z)))) (a4.mono (fun q f h => h.elim .inl (fun z => .inr (.inr z)))) a5 a6 (T.fr a2 (by unfold hx_LD hx_AD hx_T; omega) (fun k => by unfold hx_LD hx_AD hx_T; omega)) a7 a8 (U.fr a4 (by unfold hm_LD hm_AD hm_K hm_T4; omega) (fun k => by unfold hm_LD hm_AD hm_K hm_T4; omega))
  exact ⟨r, σ', τ', a1, b1, a3, b2, b3⟩
theorem s_teach (v : Int32) : hq_2 (f_X_teach v) (f_M_teach v) := by
  rintro σ τ ⟨G, P, L, n, b, pt, pic, m, o, ds, ⟨H, A, T, X, I⟩, ⟨K, B, U, M, J, O, D, E, KK, KQ⟩, F⟩
  obtain ⟨r, σ', τ', P', L', a1, a2, a3, a4, a5, a6, a7, a8, a9, a10⟩ := q_teach H A T K B U v
  obtain ⟨b1, b2, b3⟩ := hq_act X I M J O D E KK KQ F a2 a4 a5 a6 a9 a7 a8 a10
  exact ⟨r, σ', τ', a1, b1, a3, b2, b3⟩
theorem s_on : hq_2 f_X_on f_M_on := by
  rintro σ τ ⟨G, P, L, n, b, pt, pic, m, o, ds, ⟨H, A, T, X, I⟩, ⟨K, B, U, M, J, O, D, E, KK, KQ⟩, F⟩
  obtain ⟨r, σ', τ', P', L', a1, a2, a3, a4, a5, a6, a7, a8, a9, a10⟩ := q_on H A T K B U
  obtain ⟨b1, b2, b3⟩ := hq_act X I M J O D E KK KQ F a2 a4 a5 a6 a9 a7 a8 a10
  exact ⟨r, σ', τ', a1, b1, a3, b2, b3⟩
theorem s_feed (v1 v2 v3 v4 v5 : Int32) : hq_2 (f_X_feed v1 v2 v3 v4 v5) (f_M_feed v1 v2 v3 v4 v5) := by
  rintro σ τ ⟨G, P, L, n, b, pt, pic, m, o, ds, ⟨H, A, T, X, I⟩, ⟨K, B, U, M, J, O, D, E, KK, KQ⟩, F⟩
  obtain ⟨r, σ', τ', n', b', a1, a2, a3, a4, a5, a6⟩ := q_feed T U v1 v2 v3 v4 v5
  refine ⟨r, σ', τ', a1, a2.mono (fun q f h => by unfold hq_lo; omega), a3, a4.mono (fun q f h => by unfold hq_hi; omega), G, P, L, n', b', pt, pic, m, o, ds, ⟨H.fr a2 (fun q f h => by omega), A.fr a2 (fun q f h => by omega), a5, X.fr a2 (fun q f h => by omega), I.fr a2 (fun q f h => by omega)⟩, ⟨K.fr a4 (fun q f h => by unfold hm_dep; omega), B.fr H.wg (hx_as.wp A.2.2) a4 (fun q f h => by unfold hm_K; omega), a6, M.fr a4 (fun q f h => by omega), J.fr a4 (fun q f h => by omega), O.fr a4 (by omega) (by omega), D, E.fr a4 (fun q f h => by omega), KK.fr a4 (fun q f h => by omega), KQ.fr a4 (fun q f h => by omega)⟩, F.fr a2 a4 (fun q f h => by omega) (fun q f h => by omega)⟩
theorem s_end (v : Int32) : hq_2 (fun σ => some (f_X_end v σ)) (fun τ => some (f_M_end v τ)) := by
  rintro σ τ ⟨G, P, L, n, b, pt, pic, m, o, ds, ⟨H, A, T, X, I⟩, ⟨K, B, U, M, J, O, D, E, KK, KQ⟩, F⟩
  obtain ⟨r, σ', τ', n', a1, a2, a3, a4, a5, a6⟩ := q_end T U v
  refine ⟨r, σ', τ', congrArg some a1, a2.mono (fun q f h => by unfold hq_lo; omega), congrArg some a3, a4.mono (fun q f h => by unfold hq_hi; omega), G, P, L, n', b, pt, pic, m, o, ds, ⟨H.fr a2 (fun q f h => by omega), A.fr a2 (fun q f h => by omega), a5, X.fr a2 (fun q f h => by omega), I.fr a2 (fun q f h => by omega)⟩, ⟨K.fr a4 (fun q f h => by unfold hm_dep; omega), B.fr H.wg (hx_as.wp A.2.2) a4 (fun q f h => by unfold hm_K; omega), a6, M.fr a4 (fun q f h => by omega), J.fr a4 (fun q f h => by omega), O.fr a4 (by omega) (by omega), D, E.fr a4 (fun q f h => by omega), KK.fr a4 (fun q f h => by omega), KQ.fr a4 (fun q f h => by omega)⟩, F.fr a2 a4 (fun q f h => by omega) (fun q f h => by omega)⟩
theorem s_paint : hq_2 f_X_paint f_M_paint := by
  rintro σ τ ⟨G, P, L, n, b, pt, pic, m, o, ds, ⟨H, A, T, X, I⟩, ⟨K, B, U, M, J, O, D, E, KK, KQ⟩, F⟩
  obtain ⟨r, σ', τ', pt', pic', a1, a2, a3, a4, a5, a6, a7, a8⟩ := q_paint H T X K U M
  refine ⟨r, σ', τ', a1, a2.mono (fun q f h => by unfold hq_lo; omega), a3, a4.mono (fun q f h => by unfold hq_hi; omega), G, P, L, 0, b, pt', pic', m, o, ds, ⟨H.fr a2 (fun q f h => by omega), A.fr a2 (fun q f h => by omega), a5, a7, I.fr a2 (fun q f h => by omega)⟩, ⟨K.fr a4 (fun q f h => by unfold hm_dep; omega), B.fr H.wg (hx_as.wp A.2.2) a4 (fun q f h => by unfold hm_K; omega), a6, a8, J.fr a4 (fun q f h => by omega), O.fr a4 (by omega) (by omega), D, E.fr a4 (fun q f h => by omega), KK.fr a4 (fun q f h => by omega), KQ.fr a4 (fun q f h => by omega)⟩, F.fr a2 a4 (fun q f h => by omega) (fun q f h => by omega)⟩
theorem s_image : hq_2 f_X_image f_M_image := by
  rintro σ τ ⟨G, P, L, n, b, pt, pic, m, o, ds, ⟨H, A, T, X, I⟩, ⟨K, B, U, M, J, O, D, E, KK, KQ⟩, F⟩
  obtain ⟨r, σ', τ', m', o', a1, a2, a3, a4, a5, a6⟩ := q_image H K
  refine ⟨r, σ', τ', a1, a2.mono (fun q f h => by unfold hx_I at h; unfold hq_lo; omega), a3, a4.mono (fun q f h => by unfold hq_hi; omega), G, P, L, n, b, pt, pic, m', o', ds, ⟨H.fr a2 (fun q f h => by unfold hx_I at h; omega), A.fr a2 (fun q f h => by unfold hx_I at h; omega), T.fr a2 (by unfold hx_I; omega) (fun k => by unfold hx_I; omega), X.fr a2 (fun q f h => by unfold hx_I at h; omega), a5⟩, ⟨K.fr a4 (fun q f h => by unfold hm_dep; omega), B.fr H.wg (hx_as.wp A.2.2) a4 (fun q f h => by unfold hm_K; omega), U.fr a4 (by omega) (fun k => by omega), M.fr a4 (fun q f h => by omega), a6, O.fr a4 (by omega) (by omega), D, E.fr a4 (fun q f h => by omega), KK.fr a4 (fun q f h => by omega), KQ.fr a4 (fun q f h => by omega)⟩, F.fr a2 a4 (fun q f h => by unfold hx_I at h; omega) (fun q f h => by omega)⟩
theorem s_text : hq_2 f_X_text f_M_text := by
  rintro σ τ ⟨G, P, L, n, b, pt, pic, m, o, ds, ⟨H, A, T, X, I⟩, ⟨K, B, U, M, J, O, D, E, KK, KQ⟩, F⟩
  obtain ⟨r, σ', τ', G', P', L', pt', ds', a1, a2, a3, a4, a5, a6, a7, a8, a9, a10, a11, a12, a13, a14, a15⟩ := q_text H A T X KK K B U M D E
  exact ⟨r, σ', τ', a1, a2.mono (fun q f h => by unfold hx_XD at h; unfold hq_lo; omega), a3, a4.mono (fun q f h => by unfold hm_XD at h; unfold hq_hi; omega), G', P', L', 0, b, pt', pic, m, o, ds', ⟨a5, a6, a7, a8, I.fr a2 (fun q f h => by unfold hx_XD at h; omega)⟩, ⟨a9, a10, a11, a12, J.fr a4 (fun q f h => by unfold hm_XD at h; omega), O.fr a4 (by unfold hm_XD; omega) (by unfold hm_XD; omega), a13, a14, KK.fr a4 (fun q f h => by unfold hm_XD at h; omega), KQ.fr a4 (fun q f h => by unfold hm_XD at h; omega)⟩, a15⟩
theorem s_ask : hq_2 f_X_ask f_M_ask := by
  rintro σ τ ⟨G, P, L, n, b, pt, pic, m, o, ds, ⟨H, A, T, X, I⟩, ⟨K, B, U, M, J, O, D, E, KK, KQ⟩, F⟩
  obtain ⟨r, σ', τ', a1, a2, a3, a4, a5, a6, a7⟩ := q_ask H T F KQ K O U
  exact ⟨r, σ', τ', a1, a2.mono (fun q f h => by unfold hx_ZD at h; unfold hq_lo; omega), a3, a4.mono (fun q f h => by unfold hm_ZD at h; unfold hq_hi; omega), G, P, L, 0, b, pt, pic, m, o, ds, ⟨H.fr a2 (fun q f h => by unfold hx_ZD at h; omega), A.fr a2 (fun q f h => by unfold hx_ZD at h; omega), a5, X.fr a2 (fun q f h => by unfold hx_ZD at h; omega), I.fr a2 (fun q f h => by unfold hx_ZD at h; omega)⟩, ⟨K.fr a4 (fun q f h => by unfold hm_ZD at h; unfold hm_dep; omega), B.fr H.wg (hx_as.wp A.2.2) a4 (fun q f h => by unfold hm_ZD at h; unfold hm_K; omega), a6, M.fr a4 (fun q f h => by unfold hm_ZD at h; omega), J.fr a4 (fun q f h => by unfold hm_ZD at h; omega), O.fr a4 (by unfold hm_ZD; omega) (by unfold hm_ZD; omega), D, E.fr a4 (fun q f h => by unfold hm_ZD at h; omega), KK.fr a4 (fun q f h => by unfold hm_ZD at h; omega), KQ.fr a4 (fun q f h => by unfold hm_ZD at h; omega)⟩, a7⟩
theorem s_fault (H : hq_R σ τ) (v : Int32) : f_X_fault v σ = f_M_fault v τ := by
  obtain ⟨G, P, L, n, b, pt, pic, m, o, ds, -, -, F⟩ := H
  exact q_fault F v
end REL
