/-! questions: what codes tell, without memory -/
def hq_j (v : Nat) (x y : Int64) : Option Int64 :=
  if v = 1 then some (f_M_qClip (x + y)) else if v = 2 then some (f_M_qClip (x - y)) else if v = 3 then some (f_M_qClip (x * y)) else if v = 4 then f_M_qFloor x y else if v = 5 then some (if y ≤ x then y else x) else if v = 6 then some (if x ≤ y then y else x) else if v = 7 then some (if y ≤ x then 0 else 1) else if v = 8 then some (if x ≤ y then 0 else 1) else if v = 9 then some (if x = y then 1 else 0) else if v = 10 then (if (x = 0 ∨ x = 1) ∧ (y = 0 ∨ y = 1) then some (x * y) else none) else if v = 11 then (if (x = 0 ∨ x = 1) ∧ (y = 0 ∨ y = 1) then some (if x + y ≤ 0 then 0 else 1) else none) else none
def hq_pu (x : Int64) (p : List Int64) : Option (List Int64) := if p.length < 64 then some (x :: p) else none
def hq_e1 (pv : Nat → Nat) (ov : Nat → Int64 → Nat) (v : Nat) (p : List Int64) : Option (List Int64) :=
  if 1000 ≤ v then (if v < 20000 then hq_pu (lN (v - 1000)) p else none)
  else if 60 ≤ v then (if v < 63 then (match p with | [] => none | x :: q => some (lN (ov (v - 60) x) :: q)) else none)
  else if 40 ≤ v then (if v < 44 then hq_pu (lN (pv (v - 40))) p else none)
  else if v = 13 then hq_pu 1 p
  else if v = 12 then (match p with | [] => none | x :: q => if x = 0 ∨ x = 1 then some ((1 - x) :: q) else none)
  else (match p with | y :: x :: q => (hq_j v x y).map (fun z => z :: q) | _ => none)
def hq_ev (pv : Nat → Nat) (ov : Nat → Int64 → Nat) : List Nat → List Int64 → Option (List Int64)
  | [], p => some p
  | v :: l, p => (hq_e1 pv ov v p).bind (hq_ev pv ov l)
def hq_G (d : Nat) (l : List Nat) : Prop := ∀ pv ov p, p.length + d ≤ 64 → ∃ v, hq_ev pv ov l p = some (v :: p)
def hq_T (d : Nat) (l : List Nat) : Prop := ∀ pv ov p, p.length + d ≤ 64 → ∃ v : Int64, (v = 0 ∨ v = 1) ∧ hq_ev pv ov l p = some (v :: p)
section EV
variable {l a c : List Nat} {d d1 d2 v : Nat} {pv : Nat → Nat} {ov : Nat → Int64 → Nat}
theorem hq_ev_app : ∀ (l c : List Nat) (p : List Int64), hq_ev pv ov (l ++ c) p = (hq_ev pv ov l p).bind (hq_ev pv ov c)
  | [], c, p => rfl
  | v :: l, c, p => by
    show (hq_e1 pv ov v p).bind (hq_ev pv ov (l ++ c)) = ((hq_e1 pv ov v p).bind (hq_ev pv ov l)).bind (hq_ev pv ov c)
    rw [Option.bind_assoc]
    congr 1
    funext q
    exact hq_ev_app l c q
theorem hq_ev1 {p : List Int64} : hq_ev pv ov [v] p = hq_e1 pv ov v p := by
  show (hq_e1 pv ov v p).bind (hq_ev pv ov []) = _
  cases hq_e1 pv ov v p <;> rfl
theorem hq_G.mono (H : hq_G d1 l) (h : d1 ≤ d) : hq_G d l := fun pv ov p hp => H pv ov p (by omega)
theorem hq_T.mono (H : hq_T d1 l) (h : d1 ≤ d) : hq_T d l := fun pv ov p hp => H pv ov p (by omega)
theorem hq_T.G (H : hq_T d l) : hq_G d l := fun pv ov p hp => by
  obtain ⟨v, _, h⟩ := H pv ov p hp
  exact ⟨v, h⟩
theorem hq_G.num (h : 1000 ≤ v) (h2 : v < 20000) : hq_G 1 [v] := fun pv ov p hp => by
  rw [hq_ev1]
  unfold hq_e1 hq_pu
  rw [if_pos h, if_pos h2, if_pos (by omega)]
  exact ⟨_, rfl⟩
theorem hq_G.part (h1 : 40 ≤ v) (h2 : v < 44) : hq_G 1 [v] := fun pv ov p hp => by
  rw [hq_ev1]
  unfold hq_e1 hq_pu
  rw [if_neg (by omega), if_neg (by omega), if_pos h1, if_pos h2, if_pos (by omega)]
  exact ⟨_, rfl⟩
theorem hq_G.of (H : hq_G d l) (h1 : 60 ≤ v) (h2 : v < 63) : hq_G d (l ++ [v]) := fun pv ov p hp => by
  obtain ⟨x, h⟩ := H pv ov p hp
  rw [hq_ev_app, h, Option.bind_some, hq_ev1]
  unfold hq_e1
  rw [if_neg (by omega), if_pos h1, if_pos h2]
  exact ⟨_, rfl⟩
theorem hq_jS (h1 : 1 ≤ v) (h2 : v ≤ 9) (x y : Int64) : ∃ z, hq_j v x y = some z := by
  have fl : ∃ z, f_M_qFloor x y = some z := by
    unfold f_M_qFloor f_M_qFloor_j32 f_M_qFloor_j43
    split
    · exact ⟨_, rfl⟩
    · split
      · exact ⟨_, rfl⟩
      · split <;> split <;> split <;> exact ⟨_, rfl⟩
  have : v = 1 ∨ v = 2 ∨ v = 3 ∨ v = 4 ∨ v = 5 ∨ v = 6 ∨ v = 7 ∨ v = 8 ∨ v = 9 := by omega
  rcases this with rfl | rfl | rfl | rfl | rfl | rfl | rfl | rfl | rfl
  · unfold hq_j
    rw [if_pos rfl]
    exact ⟨_, rfl⟩
  · unfold hq_j
    rw [if_neg (by decide), if_pos rfl]
    exact ⟨_, rfl⟩
  · unfold hq_j
    rw [if_neg (by decide), if_neg (by decide), if_pos rfl]
    exact ⟨_, rfl⟩
  · unfold hq_j
    rw [if_neg (by decide), if_neg (by decide), if_neg (by decide), if_pos rfl]
    exact fl
  · unfold hq_j
    rw [if_neg (by decide), if_neg (by decide), if_neg (by decide), if_neg (by decide), if_pos rfl]
    exact ⟨_, rfl⟩
  · unfold hq_j
    rw [if_neg (by decide), if_neg (by decide), if_neg (by decide), if_neg (by decide), if_neg (by decide), if_pos rfl]
    exact ⟨_, rfl⟩
  · unfold hq_j
    rw [if_neg (by decide), if_neg (by decide), if_neg (by decide), if_neg (by decide), if_neg (by decide), if_neg (by decide), if_pos rfl]
    exact ⟨_, rfl⟩
  · unfold hq_j
    rw [if_neg (by decide), if_neg (by decide), if_neg (by decide), if_neg (by decide), if_neg (by decide), if_neg (by decide), if_neg (by decide), if_pos rfl]
    exact ⟨_, rfl⟩
  · unfold hq_j
    rw [if_neg (by decide), if_neg (by decide), if_neg (by decide), if_neg (by decide), if_neg (by decide), if_neg (by decide), if_neg (by decide), if_neg (by decide), if_pos rfl]
    exact ⟨_, rfl⟩
theorem hq_two (Ha : hq_G d1 a) (Hc : hq_G d2 c) (h1 : d1 ≤ d) (h2 : d2 + 1 ≤ d) {p : List Int64} (hp : p.length + d ≤ 64) (hv : v < 12) : ∃ x y, (hq_ev pv ov a p = some (x :: p)) ∧ (hq_ev pv ov c (x :: p) = some (y :: x :: p)) ∧ hq_ev pv ov (a ++ c ++ [v]) p = (hq_j v x y).map (fun z => z :: p) := by
  obtain ⟨x, e1⟩ := Ha pv ov p (by omega)
  obtain ⟨y, e2⟩ := Hc pv ov (x :: p) (by rw [List.length_cons]; omega)
  refine ⟨x, y, e1, e2, ?_⟩
  rw [hq_ev_app, hq_ev_app, e1, Option.bind_some, e2, Option.bind_some, hq_ev1]
  unfold hq_e1
  rw [if_neg (by omega), if_neg (by omega), if_neg (by omega), if_neg (by omega), if_neg (by omega)]
theorem hq_G.bin (Ha : hq_G d1 a) (Hc : hq_G d2 c) (h1 : d1 ≤ d) (h2 : d2 + 1 ≤ d) (hv : 1 ≤ v) (hv2 : v ≤ 9) : hq_G d (a ++ c ++ [v]) := fun pv ov p hp => by
  obtain ⟨x, y, -, -, e⟩ := hq_two (pv := pv) (ov := ov) (v := v) Ha Hc h1 h2 hp (by omega)
  obtain ⟨z, hz⟩ := hq_jS hv hv2 x y
  rw [e, hz]
  exact ⟨_, rfl⟩
theorem hq_T.cmp (Ha : hq_G d1 a) (Hc : hq_G d2 c) (h1 : d1 ≤ d) (h2 : d2 + 1 ≤ d) (hv : v = 7 ∨ v = 8 ∨ v = 9) : hq_T d (a ++ c ++ [v]) := fun pv ov p hp => by
  obtain ⟨x, y, -, -, e⟩ := hq_two (pv := pv) (ov := ov) (v := v) Ha Hc h1 h2 hp (by omega)
  rw [e]
  rcases hv with rfl | rfl | rfl
  · refine ⟨if y ≤ x then 0 else 1, ?_, rfl⟩
    split
    · exact .inl rfl
    · exact .inr rfl
  · refine ⟨if x ≤ y then 0 else 1, ?_, rfl⟩
    split
    · exact .inl rfl
    · exact .inr rfl
  · refine ⟨if x = y then 1 else 0, ?_, rfl⟩
    split
    · exact .inr rfl
    · exact .inl rfl
theorem hq_T.all : hq_T 1 [13] := fun pv ov p hp => by
  rw [hq_ev1]
  unfold hq_e1 hq_pu
  rw [if_neg (by omega), if_neg (by omega), if_neg (by omega), if_pos rfl, if_pos (by omega)]
  exact ⟨_, .inr rfl, rfl⟩
theorem hq_T.not (H : hq_T d l) : hq_T d (l ++ [12]) := fun pv ov p hp => by
  obtain ⟨x, hx, h⟩ := H pv ov p hp
  rw [hq_ev_app, h, Option.bind_some, hq_ev1]
  unfold hq_e1
  rw [if_neg (by omega), if_neg (by omega), if_neg (by omega), if_neg (by omega), if_pos rfl]
  refine ⟨1 - x, ?_, ?_⟩
  · rcases hx with rfl | rfl
    · exact .inr (by decide)
    · exact .inl (by decide)
  · show (if x = 0 ∨ x = 1 then some ((1 - x) :: p) else none) = _
    rw [if_pos hx]
theorem hq_T.log (Ha : hq_T d1 a) (Hc : hq_T d2 c) (h1 : d1 ≤ d) (h2 : d2 + 1 ≤ d) (hv : v = 10 ∨ v = 11) : hq_T d (a ++ c ++ [v]) := fun pv ov p hp => by
  obtain ⟨x, y, e1, e2, e⟩ := hq_two (pv := pv) (ov := ov) (v := v) Ha.G Hc.G h1 h2 hp (by omega)
  obtain ⟨x', hx, e3⟩ := Ha pv ov p (by omega)
  rw [e1] at e3
  have ex : x = x' := (List.cons.inj (Option.some.inj e3)).1
  obtain ⟨y', hy, e4⟩ := Hc pv ov (x :: p) (by rw [List.length_cons]; omega)
  rw [e2] at e4
  have ey : y = y' := (List.cons.inj (Option.some.inj e4)).1
  subst ex ey
  rw [e]
  rcases hv with rfl | rfl
  · refine ⟨x * y, ?_, ?_⟩
    · rcases hx with rfl | rfl <;> rcases hy with rfl | rfl
      · exact .inl (by decide)
      · exact .inl (by decide)
      · exact .inl (by decide)
      · exact .inr (by decide)
    · show (if (x = 0 ∨ x = 1) ∧ (y = 0 ∨ y = 1) then some (x * y) else none).map _ = _
      rw [if_pos ⟨hx, hy⟩]
      rfl
  · refine ⟨if x + y ≤ 0 then 0 else 1, ?_, ?_⟩
    · split
      · exact .inl rfl
      · exact .inr rfl
    · show (if (x = 0 ∨ x = 1) ∧ (y = 0 ∨ y = 1) then some (if x + y ≤ 0 then 0 else 1) else none).map _ = _
      rw [if_pos ⟨hx, hy⟩]
      rfl
end EV
