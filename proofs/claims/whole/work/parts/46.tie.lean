/-! the cells that the constructors made are the world, with the first memory -/
def hl_cs : List hl_bc := hl_c1 ++ hl_c2
def hl_vi : Value → Int32
  | .int x => x
  | _ => 0
def hl_s0c (c : Option hl_bc) (f : Nat) : Int32 := match c with
  | some (.inl o) => hl_vi (o.2.getD f .null)
  | some (.inr a) => a.2.2.getD f 0
  | none => 0
/-- the memory behind both constructors -/
def hl_s0 : hl_M := (fun p f => hl_s0c hl_cs[p]? f, fun _ _ => 0)
def hl_tf (p f t : Nat) (v : Value) : Bool := match v with
  | .ref q => Nat.beq t 2 && (Nat.beq (hl_rf p f) q && Nat.blt q 114)
  | .int _ => !Nat.beq t 1 && !Nat.beq t 2
  | .long x => Nat.beq t 1 && decide (x = 0)
  | _ => false
def hl_tc (p : Nat) (c : hl_bc) : Bool := match c with
  | .inl o => Nat.beq (hl_shp p).1 o.1 && (Nat.blt o.1 100 && (Nat.beq o.2.length (hl_ftl o.1).length && (List.range o.2.length).all (fun f => hl_tf p f ((hl_ftl o.1).getD f 0) (o.2.getD f .null))))
  | .inr a => Nat.beq (hl_shp p).1 a.1 && (Nat.beq (hl_shp p).2 a.2.1 && (!Nat.blt a.1 100 && (!Nat.beq a.1 105 || Nat.blt (p + a.2.1) 199)))
theorem hl_tie_ok : (List.range 114).all (fun p => match hl_cs[p]? with | some c => hl_tc p c | none => false) = true := by decide +kernel
theorem hl_tie_len : hl_cs.length = 114 := by decide +kernel
theorem hl_tie {g : hl_G} {ca : Nat → ClassId} {h0 p : Nat} {DD : va_G} {H : Heap} (hg : ∀ q, q < 200 → g.1 q = h0 + q) (hca : g.2.2.1 = ca) {c : hl_bc} (hc : hl_cs[p]? = some c) (hat : va_at DD hl_cl (h0 + p, hl_be ca h0 p c) H) : va_at DD hl_cl (g.1 p, hl_ent g hl_s0 p) H := by
  have hp : p < 114 := by
    have := (List.getElem?_eq_some_iff.mp hc).1
    rw [hl_tie_len] at this
    exact this
  have h := List.all_eq_true.mp hl_tie_ok p (List.mem_range.mpr hp)
  rw [hc] at h
  have hs : ∀ f, hl_s0.1 p f = hl_s0c (some c) f := fun f => by show hl_s0c hl_cs[p]? f = _; rw [hc]
  subst hca
  rw [hg p (by omega)]
  cases c with
  | inl o =>
    simp only [hl_tc, Bool.and_eq_true, Nat.blt_eq] at h
    obtain ⟨h1, h2, h3, h4⟩ := h
    have h1 := Nat.eq_of_beq_eq_true h1
    have h3 := Nat.eq_of_beq_eq_true h3
    have hsh : hl_shp p = (o.1, (hl_shp p).2) := by rw [← h1]
    rw [hl_ent_o hsh h2]
    have key : o.2.map (hl_bv h0) = hl_fs g hl_s0 p o.1 := by
      apply List.ext_getElem?
      intro f
      by_cases hf : f < o.2.length
      · have hft : (hl_ftl o.1)[f]? = some ((hl_ftl o.1).getD f 0) := by rw [List.getD_eq_getElem?_getD, List.getElem?_eq_getElem (by omega)]; rfl
        rw [hl_fs_get hft, List.getElem?_map, List.getElem?_eq_getElem hf]
        have h5 := List.all_eq_true.mp h4 f (List.mem_range.mpr hf)
        have e : o.2.getD f .null = o.2[f] := by rw [List.getD_eq_getElem?_getD, List.getElem?_eq_getElem hf]; rfl
        rw [e] at h5
        have hs2 : hl_s0.1 p f = hl_vi o.2[f] := by rw [hs f]; show hl_vi (o.2.getD f .null) = _; rw [e]
        show some (hl_bv h0 o.2[f]) = some (hl_fv g hl_s0 p f ((hl_ftl o.1).getD f 0))
        congr 1
        generalize o.2[f] = v at h5 hs2
        unfold hl_fv
        cases v with
        | ref q =>
          simp only [hl_tf, Bool.and_eq_true, Nat.blt_eq] at h5
          obtain ⟨k1, k2, k3⟩ := h5
          have k1 := Nat.eq_of_beq_eq_true k1
          have k2 := Nat.eq_of_beq_eq_true k2
          rw [k1, if_neg (by decide), if_pos rfl, k2, hg q (by omega)]
          rfl
        | int x =>
          simp only [hl_tf, Bool.and_eq_true, Bool.not_eq_true'] at h5
          have k1 : ¬ (hl_ftl o.1).getD f 0 = 1 := fun z => by rw [z] at h5; cases h5.1
          have k2 : ¬ (hl_ftl o.1).getD f 0 = 2 := fun z => by rw [z] at h5; cases h5.2
          rw [if_neg k1, if_neg k2, hs2]
          rfl
        | long x =>
          simp only [hl_tf, Bool.and_eq_true, decide_eq_true_eq] at h5
          obtain ⟨k1, rfl⟩ := h5
          have k1 := Nat.eq_of_beq_eq_true k1
          rw [k1, if_pos rfl]
          rfl
        | _ => cases h5
      · rw [List.getElem?_eq_none (by rw [List.length_map]; omega), List.getElem?_eq_none (by rw [hl_fs_len]; omega)]
    rw [← key]
    exact hat
  | inr a =>
    simp only [hl_tc, Bool.and_eq_true, Bool.not_eq_true', Bool.or_eq_true] at h
    obtain ⟨h1, h2, h3, h4⟩ := h
    have h1 := Nat.eq_of_beq_eq_true h1
    have h2 := Nat.eq_of_beq_eq_true h2
    have k3 : ¬ a.1 < 100 := fun z => by rw [Nat.blt_eq.mpr z] at h3; cases h3
    have hn : ¬ (hl_shp p).1 < 100 := by rw [h1]; exact k3
    by_cases e5 : a.1 = 105
    · have h6 : p + a.2.1 < 199 := by
        rcases h4 with h | h
        · rw [e5] at h; cases h
        · exact Nat.blt_eq.mp h
      have hsh : hl_shp p = (105, a.2.1) := by rw [← h2, ← e5, ← h1]
      rw [hl_ent_r hsh]
      have e4 : ¬ a.1 = 104 := by omega
      have hb : hl_be g.2.2.1 h0 p (.inr a) = .inl (g.2.2.1 5, a.2.1, .inr (.inr (.inr (.inr (fun j => some (h0 + (p + 1 + j))))))) := by
        show (if a.1 = 104 then _ else if a.1 = 105 then _ else _) = _
        rw [if_neg e4, if_pos e5]
      rw [hb] at hat
      have h7 : H[h0 + p]? = some (arrV (g.2.2.1 5) a.2.1 (fun j => va_rf (some (h0 + (p + 1 + j))))) := hat
      show H[h0 + p]? = some (arrV (g.2.2.1 5) a.2.1 (fun j => va_rf (some (g.1 (p + 1 + j)))))
      rw [h7]
      congr 1
      unfold arrV
      congr 1
      apply Array.ext
      · simp
      · intro i i1 i2
        have hi : i < a.2.1 := by simpa using i1
        simp [hg (p + 1 + i) (by omega)]
    · have he : hl_be g.2.2.1 h0 p (.inr a) = hl_ent g hl_s0 p := by
        unfold hl_be hl_ent
        rw [if_neg hn, h1, h2]
        show (if a.1 = 104 then _ else if a.1 = 105 then _ else _) = _
        by_cases e4 : a.1 = 104
        · rw [if_pos e4, if_pos e4]; rfl
        · rw [if_neg e4, if_neg e4, if_neg e5, if_neg e5]
          have : hl_s0.1 p = fun j => a.2.2.getD j 0 := by funext j; exact hs j
          rw [this]
      rw [← he]
      exact hat
theorem hl_tie_all {g : hl_G} {ca : Nat → ClassId} {h0 : Nat} {DD : va_G} {H : Heap} (hg : ∀ q, q < 200 → g.1 q = h0 + q) (hca : g.2.2.1 = ca) (hP : va_P DD hl_cl (hl_bw ca h0 hl_cs) H) : va_P DD hl_cl (hl_ws g hl_s0) H := by
  intro k q hk
  have hl : k < (hl_ws g hl_s0).length := (List.getElem?_eq_some_iff.mp hk).1
  have hn : k < hl_n := by simpa [hl_ws] using hl
  rw [hl_ws_get hn] at hk
  cases hk
  have hlt : k < hl_cs.length := by rw [hl_tie_len]; exact hn
  have hc := List.getElem?_eq_getElem hlt
  exact hl_tie hg hca hc (hP k _ (hl_bw_get hc))
