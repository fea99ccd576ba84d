/-! loops as functions; long compares with their branch; what functions of methods are made of -/
def hl_lp {S E : Type} (b : S → Option (S ⊕ E)) : Nat → S → Option E
  | 0, _ => none
  | n + 1, s => (b s).bind (fun o => match o with | .inl s' => hl_lp b n s' | .inr x => some x)
theorem hl_lp_run {S E : Type} {b : S → Option (S ⊕ E)} {P : S → Prop} (G : E → Prop) (hs : ∀ s o, b s = some o → (∀ s', o = .inl s' → P s') → (∀ x, o = .inr x → G x) → P s) : ∀ n s x, hl_lp b n s = some x → G x → P s := by
  intro n
  induction n with
  | zero => intro s x h; cases h
  | succ n ih =>
    intro s x h hG
    unfold hl_lp at h
    obtain ⟨o, ho, h⟩ := Option.bind_eq_some_iff.mp h
    refine hs s o ho (fun s' e => ?_) (fun x' e => ?_)
    · subst e
      exact ih s' x h hG
    · subst e
      cases h
      exact hG
theorem hl_bind {α β : Type} {o : Option α} {f : α → Option β} {r : β} (h : o.bind f = some r) : ∃ x, o = some x ∧ f x = some r := Option.bind_eq_some_iff.mp h
abbrev hl_b (i : Int32) (n : Nat) : Prop := 0 ≤ i.toInt ∧ i.toInt < n
theorem hl_b_in {i : Int32} {n : Nat} (h : hl_b i n) : vp_in i n := vp_in_iff.mpr h
/-- loops end long before this many rounds -/
def hl_big : Nat := 1000000
section HLL
variable {X : hl_X} {D : Nat} {y : hl_Y} {pc nx tg : Nat} {ls : List (Nat × Value)} {st : List Value} {σ τ : hl_M} {v : Option Value}
theorem hl_cmp0 {a b : Int64} : (lg_cmp a b = 0 ↔ a = b) ∧ (lg_cmp a b < 0 ↔ a < b) ∧ (0 ≤ lg_cmp a b ↔ b ≤ a) ∧ (0 < lg_cmp a b ↔ b < a) ∧ (lg_cmp a b ≤ 0 ↔ a ≤ b) := by
  unfold lg_cmp
  by_cases h1 : b < a
  · rw [if_pos h1]
    have h2 : ¬ a = b := fun e => by subst e; exact absurd h1 Int64.lt_irrefl
    have h3 : ¬ a < b := fun e => absurd (Int64.lt_trans h1 e) Int64.lt_irrefl
    have h4 : ¬ a ≤ b := fun e => absurd (Int64.lt_of_lt_of_le h1 e) Int64.lt_irrefl
    have h5 : b ≤ a := Int64.le_of_lt h1
    simp [h2, h3, h4, h5, h1]
  · rw [if_neg h1]
    by_cases h2 : a = b
    · rw [if_pos h2]
      subst h2
      simp [Int64.lt_irrefl]
    · rw [if_neg h2]
      have h3 : a ≤ b := Int64.not_lt.mp h1
      have h4 : a < b := by
        rcases Int64.lt_or_eq_of_le h3 with h | h
        · exact h
        · exact absurd h h2
      have h5 : ¬ b ≤ a := fun e => absurd (Int64.lt_of_lt_of_le h4 e) Int64.lt_irrefl
      simp [h1, h2, h3, h4, h5]
theorem hl_lc_eq {a b : Int64} {n2 : Nat} {off : Int} (hd : hl_d y.2.1 pc .lcmp 1 n2) (hd2 : hl_d y.2.1 n2 (.ifCond .eq off) 3 nx) (ht : (n2 : Int) + off = (tg : Int)) (kt : a = b → hl_R X D y tg ls st σ v τ) (kf : ¬ a = b → hl_R X D y nx ls st σ v τ) : hl_R X D y pc ls (.long b :: .long a :: st) σ v τ :=
  hl_lcmp hd (hl_if_eq hd2 ht (fun h => kt (hl_cmp0.1.mp h)) (fun h => kf (fun e => h (hl_cmp0.1.mpr e))))
theorem hl_lc_ne {a b : Int64} {n2 : Nat} {off : Int} (hd : hl_d y.2.1 pc .lcmp 1 n2) (hd2 : hl_d y.2.1 n2 (.ifCond .ne off) 3 nx) (ht : (n2 : Int) + off = (tg : Int)) (kt : ¬ a = b → hl_R X D y tg ls st σ v τ) (kf : a = b → hl_R X D y nx ls st σ v τ) : hl_R X D y pc ls (.long b :: .long a :: st) σ v τ :=
  hl_lcmp hd (hl_if_ne hd2 ht (fun h => kt (fun e => h (hl_cmp0.1.mpr e))) (fun h => kf (hl_cmp0.1.mp h)))
theorem hl_lc_lt {a b : Int64} {n2 : Nat} {off : Int} (hd : hl_d y.2.1 pc .lcmp 1 n2) (hd2 : hl_d y.2.1 n2 (.ifCond .lt off) 3 nx) (ht : (n2 : Int) + off = (tg : Int)) (kt : a < b → hl_R X D y tg ls st σ v τ) (kf : ¬ a < b → hl_R X D y nx ls st σ v τ) : hl_R X D y pc ls (.long b :: .long a :: st) σ v τ :=
  hl_lcmp hd (hl_if_lt hd2 ht (fun h => kt (hl_cmp0.2.1.mp h)) (fun h => kf (fun e => h (hl_cmp0.2.1.mpr e))))
theorem hl_lc_ge {a b : Int64} {n2 : Nat} {off : Int} (hd : hl_d y.2.1 pc .lcmp 1 n2) (hd2 : hl_d y.2.1 n2 (.ifCond .ge off) 3 nx) (ht : (n2 : Int) + off = (tg : Int)) (kt : b ≤ a → hl_R X D y tg ls st σ v τ) (kf : ¬ b ≤ a → hl_R X D y nx ls st σ v τ) : hl_R X D y pc ls (.long b :: .long a :: st) σ v τ :=
  hl_lcmp hd (hl_if_ge hd2 ht (fun h => kt (hl_cmp0.2.2.1.mp h)) (fun h => kf (fun e => h (hl_cmp0.2.2.1.mpr e))))
theorem hl_lc_gt {a b : Int64} {n2 : Nat} {off : Int} (hd : hl_d y.2.1 pc .lcmp 1 n2) (hd2 : hl_d y.2.1 n2 (.ifCond .gt off) 3 nx) (ht : (n2 : Int) + off = (tg : Int)) (kt : b < a → hl_R X D y tg ls st σ v τ) (kf : ¬ b < a → hl_R X D y nx ls st σ v τ) : hl_R X D y pc ls (.long b :: .long a :: st) σ v τ :=
  hl_lcmp hd (hl_if_gt hd2 ht (fun h => kt (hl_cmp0.2.2.2.1.mp h)) (fun h => kf (fun e => h (hl_cmp0.2.2.2.1.mpr e))))
theorem hl_lc_le {a b : Int64} {n2 : Nat} {off : Int} (hd : hl_d y.2.1 pc .lcmp 1 n2) (hd2 : hl_d y.2.1 n2 (.ifCond .le off) 3 nx) (ht : (n2 : Int) + off = (tg : Int)) (kt : a ≤ b → hl_R X D y tg ls st σ v τ) (kf : ¬ a ≤ b → hl_R X D y nx ls st σ v τ) : hl_R X D y pc ls (.long b :: .long a :: st) σ v τ :=
  hl_lcmp hd (hl_if_le hd2 ht (fun h => kt (hl_cmp0.2.2.2.2.mp h)) (fun h => kf (fun e => h (hl_cmp0.2.2.2.2.mpr e))))
theorem hl_tabD {dflt lo hi : Int} {offs : Array Int} {n : Nat} {a : Int32} (hd : hl_d y.2.1 pc (.tableswitch dflt lo hi offs) n nx) (h : ∀ k : Int, lo ≤ k → k ≤ hi → ¬ a.toInt = k) (ht : (pc : Int) + dflt = (tg : Int)) (k : hl_R X D y tg ls st σ v τ) : hl_R X D y pc ls (.int a :: st) σ v τ :=
  hl_tabOut hd (by
    by_cases h1 : a.toInt < lo
    · exact Or.inl h1
    · by_cases h2 : hi < a.toInt
      · exact Or.inr h2
      · exact absurd rfl (h a.toInt (by omega) (by omega))) ht k
end HLL
/-! the rules with what they ask in one piece -/
def hl_GF (own : String) (i q k t : Nat) : Prop := ∃ c z, hl_FL own i c k ∧ hl_shp q = (c, z) ∧ c < 100 ∧ (hl_ftl c)[k]? = some t
def hl_PF (own : String) (i q k t : Nat) (ty : FieldType) : Prop := ∃ c z, hl_FP own i c k ty ∧ hl_shp q = (c, z) ∧ c < 100 ∧ (hl_ftl c)[k]? = some t
def hl_LV (own : String) (i : Nat) (z : hl_Y) (n : Nat) : Prop := Cond.methodLink own i z.1 ∈ hl_T ∧ Cond.instanceMethod z.1 ∈ hl_T ∧ Cond.selects z.1.cls z.1 z.1 ∈ hl_T ∧ hl_Z z n
def hl_LS (own : String) (i : Nat) (z : hl_Y) (n : Nat) : Prop := Cond.methodLink own i z.1 ∈ hl_T ∧ Cond.static z.1 ∈ hl_T ∧ hl_Z z n
def hl_LN (own : String) (i : Nat) (z : hl_Y) (n : Nat) : Prop := (∃ host, Cond.methodLinkNest own i z.1 host ∈ tables_1) ∧ Cond.static z.1 ∈ hl_T ∧ hl_Z z n
section HLB
variable {X : hl_X} {D : Nat} {y z : hl_Y} {pc nx : Nat} {ls : List (Nat × Value)} {st av : List Value} {σ σ1 τ : hl_M} {v : Option Value}
theorem hl_gi {i q k : Nat} (hd : hl_d y.2.1 pc (.getfield i) 3 nx) (hf : hl_GF y.1.cls i q k 0) (kk : hl_R X D y nx ls (.int (σ.1 q k) :: st) σ v τ) : hl_R X D y pc ls (.ref q :: st) σ v τ := by
  obtain ⟨c, z, h1, h2, h3, h4⟩ := hf
  exact hl_geti hd h1 h2 h3 h4 kk
theorem hl_gz {i q k : Nat} (hd : hl_d y.2.1 pc (.getfield i) 3 nx) (hf : hl_GF y.1.cls i q k 3) (kk : hl_R X D y nx ls (.int (σ.1 q k) :: st) σ v τ) : hl_R X D y pc ls (.ref q :: st) σ v τ := by
  obtain ⟨c, z, h1, h2, h3, h4⟩ := hf
  exact hl_getz hd h1 h2 h3 h4 kk
theorem hl_gl {i q k : Nat} (hd : hl_d y.2.1 pc (.getfield i) 3 nx) (hf : hl_GF y.1.cls i q k 1) (kk : hl_R X D y nx ls (.long (σ.2 q k) :: st) σ v τ) : hl_R X D y pc ls (.ref q :: st) σ v τ := by
  obtain ⟨c, z, h1, h2, h3, h4⟩ := hf
  exact hl_getl hd h1 h2 h3 h4 kk
theorem hl_gr {i q k r : Nat} (hd : hl_d y.2.1 pc (.getfield i) 3 nx) (hf : hl_GF y.1.cls i q k 2 ∧ hl_rf q k = r ∧ r < 900) (kk : hl_R X D y nx ls (.ref r :: st) σ v τ) : hl_R X D y pc ls (.ref q :: st) σ v τ := by
  obtain ⟨⟨c, z, h1, h2, h3, h4⟩, h5, h6⟩ := hf
  exact hl_getr hd h1 h2 h3 h4 h5 h6 kk
theorem hl_pi {i q k : Nat} {x : Int32} (hd : hl_d y.2.1 pc (.putfield i) 3 nx) (hf : hl_PF y.1.cls i q k 0 .int) (kk : hl_R X D y nx ls st (hl_si σ q k x) v τ) : hl_R X D y pc ls (.int x :: .ref q :: st) σ v τ := by
  obtain ⟨c, z, h1, h2, h3, h4⟩ := hf
  exact hl_puti hd h1 h2 h3 h4 kk
theorem hl_pz {i q k : Nat} {x : Int32} (hd : hl_d y.2.1 pc (.putfield i) 3 nx) (hf : hl_PF y.1.cls i q k 3 .boolean) (hx : x = 0 ∨ x = 1) (kk : hl_R X D y nx ls st (hl_si σ q k x) v τ) : hl_R X D y pc ls (.int x :: .ref q :: st) σ v τ := by
  obtain ⟨c, z, h1, h2, h3, h4⟩ := hf
  exact hl_putz hd h1 h2 h3 h4 hx kk
theorem hl_pl {i q k : Nat} {x : Int64} (hd : hl_d y.2.1 pc (.putfield i) 3 nx) (hf : hl_PF y.1.cls i q k 1 .long) (kk : hl_R X D y nx ls st (hl_sl σ q k x) v τ) : hl_R X D y pc ls (.long x :: .ref q :: st) σ v τ := by
  obtain ⟨c, z, h1, h2, h3, h4⟩ := hf
  exact hl_putl hd h1 h2 h3 h4 kk
theorem hl_cVi {i n q : Nat} {r : Int32} (hd : hl_d y.2.1 pc (.invokevirtual i) 3 nx) (hL : hl_LV y.1.cls i z n) (hn : av.length = n) (hav : (lg_sl (.ref q :: av)).length ≤ z.2.2.1) (hst : (st.map fun v => v.category).sum ≤ 8) (hrc : hl_rc q z.1.cls) (k1 : hl_R X D z 0 (lv_args 0 (.ref q :: av)) [] σ (some (.int r)) σ1) (kk : hl_R X (D + 1) y nx ls (.int r :: st) σ1 v τ) : hl_R X (D + 1) y pc ls (av.reverse ++ .ref q :: st) σ v τ :=
  hl_callV hd hL.1 hL.2.1 hL.2.2.1 hL.2.2.2 hn hav hst hrc k1 (fun _ => rfl) kk
theorem hl_cSi {i n : Nat} {r : Int32} (hd : hl_d y.2.1 pc (.invokestatic i) 3 nx) (hL : hl_LS y.1.cls i z n) (hn : av.length = n) (hav : (lg_sl av).length ≤ z.2.2.1) (hst : (st.map fun v => v.category).sum ≤ 8) (k1 : hl_R X D z 0 (lv_args 0 av) [] σ (some (.int r)) σ1) (kk : hl_R X (D + 1) y nx ls (.int r :: st) σ1 v τ) : hl_R X (D + 1) y pc ls (av.reverse ++ st) σ v τ :=
  hl_callS hd hL.1 hL.2.1 hL.2.2 hn hav hst k1 (fun _ => rfl) kk
theorem hl_cNi {i n : Nat} {r : Int32} (hd : hl_d y.2.1 pc (.invokestatic i) 3 nx) (hL : hl_LN y.1.cls i z n) (hn : av.length = n) (hav : (lg_sl av).length ≤ z.2.2.1) (hst : (st.map fun v => v.category).sum ≤ 8) (k1 : hl_R X D z 0 (lv_args 0 av) [] σ (some (.int r)) σ1) (kk : hl_R X (D + 1) y nx ls (.int r :: st) σ1 v τ) : hl_R X (D + 1) y pc ls (av.reverse ++ st) σ v τ := by
  obtain ⟨⟨host, h1⟩, h2, h3⟩ := hL
  exact hl_callN hd h1 h2 h3 hn hav hst k1 (fun _ => rfl) kk
theorem hl_cVl {i n q : Nat} {r : Int64} (hd : hl_d y.2.1 pc (.invokevirtual i) 3 nx) (hL : hl_LV y.1.cls i z n) (hn : av.length = n) (hav : (lg_sl (.ref q :: av)).length ≤ z.2.2.1) (hst : (st.map fun v => v.category).sum ≤ 8) (hrc : hl_rc q z.1.cls) (k1 : hl_R X D z 0 (lv_args 0 (.ref q :: av)) [] σ (some (.long r)) σ1) (kk : hl_R X (D + 1) y nx ls (.long r :: st) σ1 v τ) : hl_R X (D + 1) y pc ls (av.reverse ++ .ref q :: st) σ v τ :=
  hl_callV hd hL.1 hL.2.1 hL.2.2.1 hL.2.2.2 hn hav hst hrc k1 (fun _ => rfl) kk
theorem hl_cSl {i n : Nat} {r : Int64} (hd : hl_d y.2.1 pc (.invokestatic i) 3 nx) (hL : hl_LS y.1.cls i z n) (hn : av.length = n) (hav : (lg_sl av).length ≤ z.2.2.1) (hst : (st.map fun v => v.category).sum ≤ 8) (k1 : hl_R X D z 0 (lv_args 0 av) [] σ (some (.long r)) σ1) (kk : hl_R X (D + 1) y nx ls (.long r :: st) σ1 v τ) : hl_R X (D + 1) y pc ls (av.reverse ++ st) σ v τ :=
  hl_callS hd hL.1 hL.2.1 hL.2.2 hn hav hst k1 (fun _ => rfl) kk
theorem hl_cNl {i n : Nat} {r : Int64} (hd : hl_d y.2.1 pc (.invokestatic i) 3 nx) (hL : hl_LN y.1.cls i z n) (hn : av.length = n) (hav : (lg_sl av).length ≤ z.2.2.1) (hst : (st.map fun v => v.category).sum ≤ 8) (k1 : hl_R X D z 0 (lv_args 0 av) [] σ (some (.long r)) σ1) (kk : hl_R X (D + 1) y nx ls (.long r :: st) σ1 v τ) : hl_R X (D + 1) y pc ls (av.reverse ++ st) σ v τ := by
  obtain ⟨⟨host, h1⟩, h2, h3⟩ := hL
  exact hl_callN hd h1 h2 h3 hn hav hst k1 (fun _ => rfl) kk
theorem hl_cVv {i n q : Nat}  (hd : hl_d y.2.1 pc (.invokevirtual i) 3 nx) (hL : hl_LV y.1.cls i z n) (hn : av.length = n) (hav : (lg_sl (.ref q :: av)).length ≤ z.2.2.1) (hst : (st.map fun v => v.category).sum ≤ 8) (hrc : hl_rc q z.1.cls) (k1 : hl_R X D z 0 (lv_args 0 (.ref q :: av)) [] σ none σ1) (kk : hl_R X (D + 1) y nx ls st σ1 v τ) : hl_R X (D + 1) y pc ls (av.reverse ++ .ref q :: st) σ v τ :=
  hl_callV hd hL.1 hL.2.1 hL.2.2.1 hL.2.2.2 hn hav hst hrc k1 (fun _ => rfl) kk
theorem hl_cSv {i n : Nat}  (hd : hl_d y.2.1 pc (.invokestatic i) 3 nx) (hL : hl_LS y.1.cls i z n) (hn : av.length = n) (hav : (lg_sl av).length ≤ z.2.2.1) (hst : (st.map fun v => v.category).sum ≤ 8) (k1 : hl_R X D z 0 (lv_args 0 av) [] σ none σ1) (kk : hl_R X (D + 1) y nx ls st σ1 v τ) : hl_R X (D + 1) y pc ls (av.reverse ++ st) σ v τ :=
  hl_callS hd hL.1 hL.2.1 hL.2.2 hn hav hst k1 (fun _ => rfl) kk
theorem hl_cNv {i n : Nat}  (hd : hl_d y.2.1 pc (.invokestatic i) 3 nx) (hL : hl_LN y.1.cls i z n) (hn : av.length = n) (hav : (lg_sl av).length ≤ z.2.2.1) (hst : (st.map fun v => v.category).sum ≤ 8) (k1 : hl_R X D z 0 (lv_args 0 av) [] σ none σ1) (kk : hl_R X (D + 1) y nx ls st σ1 v τ) : hl_R X (D + 1) y pc ls (av.reverse ++ st) σ v τ := by
  obtain ⟨⟨host, h1⟩, h2, h3⟩ := hL
  exact hl_callN hd h1 h2 h3 hn hav hst k1 (fun _ => rfl) kk
end HLB
theorem hl_pos {α : Type} {c : Prop} [Decidable c] {a b r : α} (hc : c) (h : (if c then a else b) = r) : a = r := by rw [if_pos hc] at h; exact h
theorem hl_neg {α : Type} {c : Prop} [Decidable c] {a b r : α} (hc : ¬ c) (h : (if c then a else b) = r) : b = r := by rw [if_neg hc] at h; exact h
theorem hl_gd {α : Type} {c : Prop} [Decidable c] {a : Option α} {r : α} (h : (if c then a else none) = some r) : c ∧ a = some r := by
  by_cases hc : c
  · rw [if_pos hc] at h; exact ⟨hc, h⟩
  · rw [if_neg hc] at h; cases h
theorem hl_gn {α : Type} {c : Prop} [Decidable c] {a : Option α} {r : α} (h : (if c then none else a) = some r) : ¬ c ∧ a = some r := by
  by_cases hc : c
  · rw [if_pos hc] at h; cases h
  · rw [if_neg hc] at h; exact ⟨hc, h⟩
theorem hl_sum {α β γ : Type} {f : α → γ} {k : β → γ} {x : α ⊕ β} {r : γ} (h : Sum.elim f k x = r) : (∃ a, x = .inl a ∧ f a = r) ∨ ∃ b, x = .inr b ∧ k b = r := by
  cases x with
  | inl a => exact Or.inl ⟨a, rfl, h⟩
  | inr b => exact Or.inr ⟨b, rfl, h⟩
def hl_let {α β : Type} (a : α) (f : α → β) : β := f a
section HLM
variable {X : hl_X} {D : Nat} {y : hl_Y} {pc : Nat} {ls : List (Nat × Value)} {st : List Value} {σ τ : hl_M} {v : Option Value}
theorem hl_nmi {β : Type} {e : Int32} {f : Int32 → β} {r : β} (h : hl_let e f = r) (k : ∀ w : Int32, f w = r → hl_R X D y pc ls (.int w :: st) σ v τ) : hl_R X D y pc ls (.int e :: st) σ v τ := k e h
theorem hl_nml {β : Type} {e : Int64} {f : Int64 → β} {r : β} (h : hl_let e f = r) (k : ∀ w : Int64, f w = r → hl_R X D y pc ls (.long w :: st) σ v τ) : hl_R X D y pc ls (.long e :: st) σ v τ := k e h
theorem hl_nmm {β : Type} {f : hl_M → β} {r : β} (h : hl_let σ f = r) (k : ∀ w : hl_M, f w = r → hl_R X D y pc ls st w v τ) : hl_R X D y pc ls st σ v τ := k σ h
end HLM
/-! a String constant by its wide entry -/
theorem hl_ldcwT {p : Program} {l : Launch} {e : Env} {R : Room} {s : State} {m : MethodId} {args : Array Value} {below : List Frame} {meth : Method} {c : Code} {T : State} {locs : List Loc} {cells slots : Nat}
    (X : Stand p l e R s m args below meth c T locs cells slots) (hexec : p.tables.exec = Jvm.exec) {own text : String} {index : Nat} {a : Addr} (hown : s.vm.findClass own = some m.cls)
    (hconst : (Cond.stringRef own index text).before args s = true) (hev : (Term.string own index).eval args s none [] s = some (.ref a)) {g : JFrame} (hg : g.method = m) (hdg : decode c.code g.pc = .ok (.ldc_w index, 3)) :
    ∀ target, Steps p.tables e below (T.setTop { g with pc := g.pc + 3, stack := .ref a :: g.stack }) target → Steps p.tables e below (T.setTop g) target := by
  obtain ⟨k, cf, i, a', hk, hcf, hcp, -, hr, hev'⟩ := Cond.stringRef_spec hown hconst
  cases hev.symm.trans hev'
  obtain ⟨k', hk', he⟩ := X.warmed.alike.2.2 _ _ hk
  have hr' : k'.resolved[index]? = some (some (.string a)) := by
    rcases X.warmed.entry hk hk' index with h | ⟨h, -⟩
    · rw [h]; exact hr
    · rw [hr] at h; cases h
  intro target hrest
  subst hg
  jvm_step X.here [hexec, hdg, ldc_w.wp_string (e := e) (s := T) (f := g) X.here.top hk' (by rw [he]; exact hcf) hcp hr']
  exact hrest
section HLW
variable {X : hl_X} {D : Nat} {y : hl_Y} {pc nx : Nat} {ls : List (Nat × Value)} {st : List Value} {σ τ : hl_M} {v : Option Value}
theorem hl_ldcwS {i j : Nat} (hd : hl_d y.2.1 pc (.ldc_w i) 3 nx) (hj : j < hl_nS) (hw : (hl_str.getD j ("", 0, "", [])).1 = y.1.cls ∧ (hl_str.getD j ("", 0, "", [])).2.1 = i) (k : hl_R X D y nx ls (.ref (200 + j) :: st) σ v τ) : hl_R X D y pc ls st σ v τ := by
  obtain ⟨hd, rfl⟩ := hd
  intro g p l e R s m args below meth c H locs cells slots Q la hC hI hL hret
  have hk := k g p l e R s m args below meth c H locs cells slots Q la hC hI hL hret
  rw [List.map_cons, hl_cv_ref (by have : hl_nS = 38 := rfl; omega)] at hk
  have h1 := (hI.2.2.2.2.1.2.1 j hj).1
  rw [hw.1, hw.2] at h1
  intro T hT Y
  obtain ⟨t, a1, b1⟩ := hk T hT Y
  exact ⟨t, hl_ldcwT Y hC.1 hC.2.2.2.1 h1.1 h1.2 (g := F0 m pc la (st.map (hl_cv g))) rfl (by rw [hC.2.1]; exact hd) t a1, b1⟩
end HLW
theorem hl_shx {w k : Nat} (h : (hl_shp w).1 = k) : hl_shp w = (k, (hl_shp w).2) := by rw [← h]
theorem hl_ne9 {w : Nat} (h : w < 900) : ¬ w = 999 := by omega
theorem hl_row9 {q n : Nat} {i : Int32} (hb : hl_b i n) (hn : q + n < 900) : q + 1 + i.toNatClampNeg < 900 := by
  have h1 := hb.2
  have h2 : (i.toNatClampNeg : Int) = i.toInt := by
    have := hb.1
    unfold Int32.toNatClampNeg
    omega
  omega
/-- the instructions of a method, all at once -/
def hl_da (b : ByteArray) : List (Nat × Instr × Nat × Nat) → Bool
  | [] => true
  | q :: r => decide (decode b q.1 = .ok (q.2.1, q.2.2.1)) && (Nat.beq (q.1 + q.2.2.1) q.2.2.2 && hl_da b r)
theorem hl_dg {b : ByteArray} : ∀ {l : List (Nat × Instr × Nat × Nat)} (k : Nat) {pc n nx : Nat} {i : Instr}, hl_da b l = true → l[k]? = some (pc, i, n, nx) → hl_d b pc i n nx := by
  intro l
  induction l with
  | nil => intro k pc n nx i _ h; simp at h
  | cons q r ih =>
    intro k pc n nx i h hk
    unfold hl_da at h
    rw [Bool.and_eq_true, Bool.and_eq_true] at h
    cases k with
    | zero =>
      rw [List.getElem?_cons_zero] at hk
      cases hk
      exact ⟨of_decide_eq_true h.1, Nat.eq_of_beq_eq_true h.2.1⟩
    | succ k =>
      rw [List.getElem?_cons_succ] at hk
      exact ih k h.2.2 hk
