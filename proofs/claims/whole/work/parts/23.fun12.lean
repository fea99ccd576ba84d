def f_Law_law_j641 (X : hl_X) (v3 : Int32) (s0 : Int32) (s1 : Int32) (s3 : Int32) (σ : hl_M) : Option ((Int32 × hl_M) ⊕ ((hl_M) ⊕ (Int32 × hl_M))) :=
  (f_M_read s1 s0 σ).bind fun x26 =>
  if s3 = x26 then
  some (.inl ((v3 + 6, σ))) else
  some (.inr (.inr (((0, σ)))))
def f_Law_law_j619 (X : hl_X) (v3 : Int32) (s0 : Int32) (s1 : Int32) (σ : hl_M) : Option ((Int32 × hl_M) ⊕ ((hl_M) ⊕ (Int32 × hl_M))) :=
  (f_X_read s1 s0 σ).bind fun x25 =>
  if hl_b (v3 + 1) X.1 then
  if hl_b (v3 + 2) X.1 then
  if (X.2 (v3 + 2).toNatClampNeg) = 0 then
  f_Law_law_j641 X v3 0 (X.2 (v3 + 1).toNatClampNeg) x25.1 x25.2 else
  f_Law_law_j641 X v3 1 (X.2 (v3 + 1).toNatClampNeg) x25.1 x25.2 else none else none
def f_Law_law_j700 (X : hl_X) (v3 : Int32) (s0 : Int32) (s1 : Int32) (s2 : Int32) (s4 : Int32) (σ : hl_M) : Option ((Int32 × hl_M) ⊕ ((hl_M) ⊕ (Int32 × hl_M))) :=
  (f_M_far s2 s1 s0 σ).bind fun x28 =>
  if s4 = x28 then
  some (.inl ((v3 + 6, σ))) else
  some (.inr (.inr (((0, σ)))))
def f_Law_law_j673 (X : hl_X) (v3 : Int32) (s0 : Int32) (s1 : Int32) (s2 : Int32) (σ : hl_M) : Option ((Int32 × hl_M) ⊕ ((hl_M) ⊕ (Int32 × hl_M))) :=
  (f_X_far s2 s1 s0 σ).bind fun x27 =>
  if hl_b (v3 + 1) X.1 then
  if hl_b (v3 + 2) X.1 then
  if hl_b (v3 + 3) X.1 then
  if (X.2 (v3 + 3).toNatClampNeg) = 0 then
  f_Law_law_j700 X v3 0 (X.2 (v3 + 2).toNatClampNeg) (X.2 (v3 + 1).toNatClampNeg) x27.1 x27.2 else
  f_Law_law_j700 X v3 1 (X.2 (v3 + 2).toNatClampNeg) (X.2 (v3 + 1).toNatClampNeg) x27.1 x27.2 else none else none else none
def f_Law_law_L18 (X : hl_X) (s : Int32 × hl_M) : Option ((Int32 × hl_M) ⊕ ((hl_M) ⊕ (Int32 × hl_M))) :=
  if ((Int32.ofNat X.1) - 6) < s.1 then
  some (.inr (.inl s.2)) else
  if hl_b s.1 X.1 then
  if ((X.2 s.1.toNatClampNeg) &&& 63) = 0 then
  if hl_b (s.1 + 1) X.1 then
  if hl_b (s.1 + 2) X.1 then
  if hl_b (s.1 + 3) X.1 then
  if hl_b (s.1 + 4) X.1 then
  if hl_b (s.1 + 5) X.1 then
  (f_X_feed (X.2 (s.1 + 1).toNatClampNeg) (X.2 (s.1 + 2).toNatClampNeg) (X.2 (s.1 + 3).toNatClampNeg) (X.2 (s.1 + 4).toNatClampNeg) (X.2 (s.1 + 5).toNatClampNeg) s.2).bind fun x1 =>
  if hl_b (s.1 + 1) X.1 then
  if hl_b (s.1 + 2) X.1 then
  if hl_b (s.1 + 3) X.1 then
  if hl_b (s.1 + 4) X.1 then
  if hl_b (s.1 + 5) X.1 then
  (f_M_feed (X.2 (s.1 + 1).toNatClampNeg) (X.2 (s.1 + 2).toNatClampNeg) (X.2 (s.1 + 3).toNatClampNeg) (X.2 (s.1 + 4).toNatClampNeg) (X.2 (s.1 + 5).toNatClampNeg) x1.2).bind fun x2 =>
  if x1.1 = x2.1 then
  some (.inl ((s.1 + 6, x2.2))) else
  some (.inr (.inr (((0, x2.2))))) else none else none else none else none else none else none else none else none else none else none else
  if ((X.2 s.1.toNatClampNeg) &&& 63) = 1 then
  if hl_b (s.1 + 1) X.1 then
  if hl_b (s.1 + 1) X.1 then
  if ((f_X_end (X.2 (s.1 + 1).toNatClampNeg) s.2).1) = ((f_M_end (X.2 (s.1 + 1).toNatClampNeg) ((f_X_end (X.2 (s.1 + 1).toNatClampNeg) s.2).2)).1) then
  some (.inl ((s.1 + 6, (f_M_end (X.2 (s.1 + 1).toNatClampNeg) ((f_X_end (X.2 (s.1 + 1).toNatClampNeg) s.2).2)).2))) else
  some (.inr (.inr (((0, (f_M_end (X.2 (s.1 + 1).toNatClampNeg) ((f_X_end (X.2 (s.1 + 1).toNatClampNeg) s.2).2)).2))))) else none else none else
  if ((X.2 s.1.toNatClampNeg) &&& 63) = 2 then
  (f_X_text s.2).bind fun x3 =>
  (f_M_text x3.2).bind fun x4 =>
  if x3.1 = x4.1 then
  some (.inl ((s.1 + 6, x4.2))) else
  some (.inr (.inr (((0, x4.2))))) else
  if ((X.2 s.1.toNatClampNeg) &&& 63) = 3 then
  if hl_b (s.1 + 1) X.1 then
  if hl_b (s.1 + 1) X.1 then
  if (f_X_fault (X.2 (s.1 + 1).toNatClampNeg) s.2) = (f_M_fault (X.2 (s.1 + 1).toNatClampNeg) s.2) then
  some (.inl ((s.1 + 6, s.2))) else
  some (.inr (.inr (((0, s.2))))) else none else none else
  if ((X.2 s.1.toNatClampNeg) &&& 63) = 4 then
  if hl_b (s.1 + 1) X.1 then
  (f_X_ground (X.2 (s.1 + 1).toNatClampNeg) s.2).bind fun x5 =>
  if hl_b (s.1 + 1) X.1 then
  (f_M_ground (X.2 (s.1 + 1).toNatClampNeg) x5.2).bind fun x6 =>
  if x5.1 = x6 then
  some (.inl ((s.1 + 6, x5.2))) else
  some (.inr (.inr (((0, x5.2))))) else none else none else
  if ((X.2 s.1.toNatClampNeg) &&& 63) = 5 then
  if hl_b (s.1 + 1) X.1 then
  if hl_b (s.1 + 2) X.1 then
  if hl_b (s.1 + 3) X.1 then
  (f_X_letter (X.2 (s.1 + 1).toNatClampNeg) (X.2 (s.1 + 2).toNatClampNeg) (X.2 (s.1 + 3).toNatClampNeg) s.2).bind fun x7 =>
  if hl_b (s.1 + 1) X.1 then
  if hl_b (s.1 + 2) X.1 then
  if hl_b (s.1 + 3) X.1 then
  (f_M_letter (X.2 (s.1 + 1).toNatClampNeg) (X.2 (s.1 + 2).toNatClampNeg) (X.2 (s.1 + 3).toNatClampNeg) s.2).bind fun x8 =>
  if x7 = x8 then
  some (.inl ((s.1 + 6, s.2))) else
  some (.inr (.inr (((0, s.2))))) else none else none else none else none else none else none else
  if ((X.2 s.1.toNatClampNeg) &&& 63) = 6 then
  if hl_b (s.1 + 1) X.1 then
  if hl_b (s.1 + 2) X.1 then
  (f_X_person (X.2 (s.1 + 1).toNatClampNeg) (X.2 (s.1 + 2).toNatClampNeg) s.2).bind fun x9 =>
  if hl_b (s.1 + 1) X.1 then
  if hl_b (s.1 + 2) X.1 then
  (f_M_person (X.2 (s.1 + 1).toNatClampNeg) (X.2 (s.1 + 2).toNatClampNeg) x9.2).bind fun x10 =>
  if x9.1 = x10.1 then
  some (.inl ((s.1 + 6, x10.2))) else
  some (.inr (.inr (((0, x10.2))))) else none else none else none else none else
  if ((X.2 s.1.toNatClampNeg) &&& 63) = 7 then
  if hl_b (s.1 + 1) X.1 then
  if hl_b (s.1 + 2) X.1 then
  (f_X_word (X.2 (s.1 + 1).toNatClampNeg) (X.2 (s.1 + 2).toNatClampNeg) s.2).bind fun x11 =>
  if hl_b (s.1 + 1) X.1 then
  if hl_b (s.1 + 2) X.1 then
  (f_M_word (X.2 (s.1 + 1).toNatClampNeg) (X.2 (s.1 + 2).toNatClampNeg) s.2).bind fun x12 =>
  if x11 = x12 then
  some (.inl ((s.1 + 6, s.2))) else
  some (.inr (.inr (((0, s.2))))) else none else none else none else none else
  if ((X.2 s.1.toNatClampNeg) &&& 63) = 8 then
  if hl_b (s.1 + 1) X.1 then
  if hl_b (s.1 + 2) X.1 then
  (f_X_hymn (X.2 (s.1 + 1).toNatClampNeg) (X.2 (s.1 + 2).toNatClampNeg) s.2).bind fun x13 =>
  if hl_b (s.1 + 1) X.1 then
  if hl_b (s.1 + 2) X.1 then
  (f_M_hymn (X.2 (s.1 + 1).toNatClampNeg) (X.2 (s.1 + 2).toNatClampNeg) x13.2).bind fun x14 =>
  if x13.1 = x14 then
  some (.inl ((s.1 + 6, x13.2))) else
  some (.inr (.inr (((0, x13.2))))) else none else none else none else none else
  if ((X.2 s.1.toNatClampNeg) &&& 63) = 9 then
  if hl_b (s.1 + 1) X.1 then
  if hl_b (s.1 + 2) X.1 then
  (f_X_where (X.2 (s.1 + 1).toNatClampNeg) (X.2 (s.1 + 2).toNatClampNeg) s.2).bind fun x15 =>
  if hl_b (s.1 + 1) X.1 then
  if hl_b (s.1 + 2) X.1 then
  (f_M_where (X.2 (s.1 + 1).toNatClampNeg) (X.2 (s.1 + 2).toNatClampNeg) s.2).bind fun x16 =>
  if x15 = x16 then
  some (.inl ((s.1 + 6, s.2))) else
  some (.inr (.inr (((0, s.2))))) else none else none else none else none else
  if ((X.2 s.1.toNatClampNeg) &&& 63) = 10 then
  if hl_b (s.1 + 1) X.1 then
  if hl_b (s.1 + 2) X.1 then
  (f_X_lit (X.2 (s.1 + 1).toNatClampNeg) (X.2 (s.1 + 2).toNatClampNeg) s.2).bind fun x17 =>
  if hl_b (s.1 + 1) X.1 then
  if hl_b (s.1 + 2) X.1 then
  (f_M_lit (X.2 (s.1 + 1).toNatClampNeg) (X.2 (s.1 + 2).toNatClampNeg) x17.2).bind fun x18 =>
  if x17.1 = x18 then
  some (.inl ((s.1 + 6, x17.2))) else
  some (.inr (.inr (((0, x17.2))))) else none else none else none else none else
  if ((X.2 s.1.toNatClampNeg) &&& 63) = 11 then
  if hl_b (s.1 + 1) X.1 then
  (f_X_clash (X.2 (s.1 + 1).toNatClampNeg) s.2).bind fun x19 =>
  if hl_b (s.1 + 1) X.1 then
  (f_M_clash (X.2 (s.1 + 1).toNatClampNeg) s.2).bind fun x20 =>
  if x19 = x20 then
  some (.inl ((s.1 + 6, s.2))) else
  some (.inr (.inr (((0, s.2))))) else none else none else
  if ((X.2 s.1.toNatClampNeg) &&& 63) = 12 then
  (f_X_clashes s.2).bind fun x21 =>
  (f_M_clashes s.2).bind fun x22 =>
  if x21 = x22 then
  some (.inl ((s.1 + 6, s.2))) else
  some (.inr (.inr (((0, s.2))))) else
  if ((X.2 s.1.toNatClampNeg) &&& 63) = 13 then
  if hl_b (s.1 + 1) X.1 then
  (f_X_still (X.2 (s.1 + 1).toNatClampNeg) s.2).bind fun x23 =>
  if hl_b (s.1 + 1) X.1 then
  (f_M_still (X.2 (s.1 + 1).toNatClampNeg) s.2).bind fun x24 =>
  if x23 = x24 then
  some (.inl ((s.1 + 6, s.2))) else
  some (.inr (.inr (((0, s.2))))) else none else none else
  if ((X.2 s.1.toNatClampNeg) &&& 63) = 14 then
  if hl_b (s.1 + 1) X.1 then
  if hl_b (s.1 + 2) X.1 then
  if (X.2 (s.1 + 2).toNatClampNeg) = 0 then
  f_Law_law_j619 X s.1 0 (X.2 (s.1 + 1).toNatClampNeg) s.2 else
  f_Law_law_j619 X s.1 1 (X.2 (s.1 + 1).toNatClampNeg) s.2 else none else none else
  if ((X.2 s.1.toNatClampNeg) &&& 63) = 15 then
  if hl_b (s.1 + 1) X.1 then
  if hl_b (s.1 + 2) X.1 then
  if hl_b (s.1 + 3) X.1 then
  if (X.2 (s.1 + 3).toNatClampNeg) = 0 then
  f_Law_law_j673 X s.1 0 (X.2 (s.1 + 2).toNatClampNeg) (X.2 (s.1 + 1).toNatClampNeg) s.2 else
  f_Law_law_j673 X s.1 1 (X.2 (s.1 + 2).toNatClampNeg) (X.2 (s.1 + 1).toNatClampNeg) s.2 else none else none else none else
  if ((X.2 s.1.toNatClampNeg) &&& 63) = 16 then
  if hl_b (s.1 + 1) X.1 then
  if hl_b (s.1 + 2) X.1 then
  (f_X_nearest (X.2 (s.1 + 1).toNatClampNeg) (X.2 (s.1 + 2).toNatClampNeg) s.2).bind fun x29 =>
  if hl_b (s.1 + 1) X.1 then
  if hl_b (s.1 + 2) X.1 then
  (f_M_nearest (X.2 (s.1 + 1).toNatClampNeg) (X.2 (s.1 + 2).toNatClampNeg) x29.2).bind fun x30 =>
  if x29.1 = x30.1 then
  some (.inl ((s.1 + 6, x30.2))) else
  some (.inr (.inr (((0, x30.2))))) else none else none else none else none else
  if ((X.2 s.1.toNatClampNeg) &&& 63) = 17 then
  if hl_b (s.1 + 1) X.1 then
  (f_X_said (X.2 (s.1 + 1).toNatClampNeg) s.2).bind fun x31 =>
  if hl_b (s.1 + 1) X.1 then
  (f_M_said (X.2 (s.1 + 1).toNatClampNeg) x31.2).bind fun x32 =>
  if x31.1 = x32 then
  some (.inl ((s.1 + 6, x31.2))) else
  some (.inr (.inr (((0, x31.2))))) else none else none else
  if ((X.2 s.1.toNatClampNeg) &&& 63) = 18 then
  if hl_b (s.1 + 1) X.1 then
  if hl_b (s.1 + 2) X.1 then
  (f_X_between (X.2 (s.1 + 1).toNatClampNeg) (X.2 (s.1 + 2).toNatClampNeg) s.2).bind fun x33 =>
  if hl_b (s.1 + 1) X.1 then
  if hl_b (s.1 + 2) X.1 then
  (f_M_between (X.2 (s.1 + 1).toNatClampNeg) (X.2 (s.1 + 2).toNatClampNeg) x33.2).bind fun x34 =>
  if x33.1 = x34 then
  some (.inl ((s.1 + 6, x33.2))) else
  some (.inr (.inr (((0, x33.2))))) else none else none else none else none else
  if ((X.2 s.1.toNatClampNeg) &&& 63) = 19 then
  if hl_b (s.1 + 1) X.1 then
  (f_X_danger (X.2 (s.1 + 1).toNatClampNeg) s.2).bind fun x35 =>
  if hl_b (s.1 + 1) X.1 then
  (f_M_danger (X.2 (s.1 + 1).toNatClampNeg) x35.2).bind fun x36 =>
  if x35.1 = x36.1 then
  some (.inl ((s.1 + 6, x36.2))) else
  some (.inr (.inr (((0, x36.2))))) else none else none else
  if ((X.2 s.1.toNatClampNeg) &&& 63) = 20 then
  if hl_b (s.1 + 1) X.1 then
  if hl_b (s.1 + 2) X.1 then
  if hl_b (s.1 + 3) X.1 then
  (f_X_least (X.2 (s.1 + 1).toNatClampNeg) (X.2 (s.1 + 2).toNatClampNeg) (X.2 (s.1 + 3).toNatClampNeg) s.2).bind fun x37 =>
  if hl_b (s.1 + 1) X.1 then
  if hl_b (s.1 + 2) X.1 then
  if hl_b (s.1 + 3) X.1 then
  (f_M_least (X.2 (s.1 + 1).toNatClampNeg) (X.2 (s.1 + 2).toNatClampNeg) (X.2 (s.1 + 3).toNatClampNeg) x37.2).bind fun x38 =>
  if x37.1 = x38.1 then
  some (.inl ((s.1 + 6, x38.2))) else
  some (.inr (.inr (((0, x38.2))))) else none else none else none else none else none else none else
  if ((X.2 s.1.toNatClampNeg) &&& 63) = 21 then
  if hl_b (s.1 + 1) X.1 then
  if hl_b (s.1 + 2) X.1 then
  (f_X_soon (X.2 (s.1 + 1).toNatClampNeg) (X.2 (s.1 + 2).toNatClampNeg) s.2).bind fun x39 =>
  if hl_b (s.1 + 1) X.1 then
  if hl_b (s.1 + 2) X.1 then
  (f_M_soon (X.2 (s.1 + 1).toNatClampNeg) (X.2 (s.1 + 2).toNatClampNeg) x39.2).bind fun x40 =>
  if x39.1 = x40.1 then
  some (.inl ((s.1 + 6, x40.2))) else
  some (.inr (.inr (((0, x40.2))))) else none else none else none else none else
  if ((X.2 s.1.toNatClampNeg) &&& 63) = 22 then
  if hl_b (s.1 + 1) X.1 then
  if hl_b (s.1 + 2) X.1 then
  if hl_b (s.1 + 3) X.1 then
  if hl_b (s.1 + 4) X.1 then
  (f_X_way (X.2 (s.1 + 1).toNatClampNeg) (X.2 (s.1 + 2).toNatClampNeg) (X.2 (s.1 + 3).toNatClampNeg) (X.2 (s.1 + 4).toNatClampNeg) s.2).bind fun x41 =>
  if hl_b (s.1 + 1) X.1 then
  if hl_b (s.1 + 2) X.1 then
  if hl_b (s.1 + 3) X.1 then
  if hl_b (s.1 + 4) X.1 then
  (f_M_way (X.2 (s.1 + 1).toNatClampNeg) (X.2 (s.1 + 2).toNatClampNeg) (X.2 (s.1 + 3).toNatClampNeg) (X.2 (s.1 + 4).toNatClampNeg) x41.2).bind fun x42 =>
  if x41.1 = x42.1 then
  some (.inl ((s.1 + 6, x42.2))) else
  some (.inr (.inr (((0, x42.2))))) else none else none else none else none else none else none else none else none else
  if ((X.2 s.1.toNatClampNeg) &&& 63) = 23 then
  if hl_b (s.1 + 1) X.1 then
  if hl_b (s.1 + 2) X.1 then
  (f_X_steps (X.2 (s.1 + 1).toNatClampNeg) (X.2 (s.1 + 2).toNatClampNeg) s.2).bind fun x43 =>
  if hl_b (s.1 + 1) X.1 then
  if hl_b (s.1 + 2) X.1 then
  (f_M_steps (X.2 (s.1 + 1).toNatClampNeg) (X.2 (s.1 + 2).toNatClampNeg) x43.2).bind fun x44 =>
  if x43.1 = x44 then
  some (.inl ((s.1 + 6, x43.2))) else
  some (.inr (.inr (((0, x43.2))))) else none else none else none else none else
  if ((X.2 s.1.toNatClampNeg) &&& 63) = 24 then
  (f_X_paint s.2).bind fun x45 =>
  (f_M_paint x45.2).bind fun x46 =>
  if x45.1 = x46.1 then
  some (.inl ((s.1 + 6, x46.2))) else
  some (.inr (.inr (((0, x46.2))))) else
  if ((X.2 s.1.toNatClampNeg) &&& 63) = 25 then
  if hl_b (s.1 + 1) X.1 then
  if hl_b (s.1 + 2) X.1 then
  (f_X_missed (X.2 (s.1 + 1).toNatClampNeg) (X.2 (s.1 + 2).toNatClampNeg) s.2).bind fun x47 =>
  if hl_b (s.1 + 1) X.1 then
  if hl_b (s.1 + 2) X.1 then
  (f_M_missed (X.2 (s.1 + 1).toNatClampNeg) (X.2 (s.1 + 2).toNatClampNeg) x47.2).bind fun x48 =>
  if x47.1 = x48.1 then
  some (.inl ((s.1 + 6, x48.2))) else
  some (.inr (.inr (((0, x48.2))))) else none else none else none else none else
  if ((X.2 s.1.toNatClampNeg) &&& 63) = 26 then
  if hl_b (s.1 + 1) X.1 then
  (f_X_alike (X.2 (s.1 + 1).toNatClampNeg) s.2).bind fun x49 =>
  if hl_b (s.1 + 1) X.1 then
  (f_M_alike (X.2 (s.1 + 1).toNatClampNeg) s.2).bind fun x50 =>
  if x49 = x50 then
  some (.inl ((s.1 + 6, s.2))) else
  some (.inr (.inr (((0, s.2))))) else none else none else
  if ((X.2 s.1.toNatClampNeg) &&& 63) = 27 then
  if hl_b (s.1 + 1) X.1 then
  (f_X_teach (X.2 (s.1 + 1).toNatClampNeg) s.2).bind fun x51 =>
  if hl_b (s.1 + 1) X.1 then
  (f_M_teach (X.2 (s.1 + 1).toNatClampNeg) x51.2).bind fun x52 =>
  if x51.1 = x52.1 then
  some (.inl ((s.1 + 6, x52.2))) else
  some (.inr (.inr (((0, x52.2))))) else none else none else
  if ((X.2 s.1.toNatClampNeg) &&& 63) = 28 then
  if hl_b (s.1 + 1) X.1 then
  if hl_b (s.1 + 2) X.1 then
  (f_X_lamp (X.2 (s.1 + 1).toNatClampNeg) (X.2 (s.1 + 2).toNatClampNeg) s.2).bind fun x53 =>
  if hl_b (s.1 + 1) X.1 then
  if hl_b (s.1 + 2) X.1 then
  (f_M_lamp (X.2 (s.1 + 1).toNatClampNeg) (X.2 (s.1 + 2).toNatClampNeg) x53.2).bind fun x54 =>
  if x53.1 = x54.1 then
  some (.inl ((s.1 + 6, x54.2))) else
  some (.inr (.inr (((0, x54.2))))) else none else none else none else none else
  if ((X.2 s.1.toNatClampNeg) &&& 63) = 29 then
  if hl_b (s.1 + 1) X.1 then
  if hl_b (s.1 + 2) X.1 then
  (f_X_learn (X.2 (s.1 + 1).toNatClampNeg) (X.2 (s.1 + 2).toNatClampNeg) s.2).bind fun x55 =>
  if hl_b (s.1 + 1) X.1 then
  if hl_b (s.1 + 2) X.1 then
  (f_M_learn (X.2 (s.1 + 1).toNatClampNeg) (X.2 (s.1 + 2).toNatClampNeg) x55.2).bind fun x56 =>
  if x55.1 = x56.1 then
  some (.inl ((s.1 + 6, x56.2))) else
  some (.inr (.inr (((0, x56.2))))) else none else none else none else none else
  if ((X.2 s.1.toNatClampNeg) &&& 63) = 30 then
  (f_X_undo s.2).bind fun x57 =>
  (f_M_undo x57.2).bind fun x58 =>
  if x57.1 = x58.1 then
  some (.inl ((s.1 + 6, x58.2))) else
  some (.inr (.inr (((0, x58.2))))) else
  if ((X.2 s.1.toNatClampNeg) &&& 63) = 31 then
  (f_X_ask s.2).bind fun x59 =>
  (f_M_ask x59.2).bind fun x60 =>
  if x59.1 = x60.1 then
  some (.inl ((s.1 + 6, x60.2))) else
  some (.inr (.inr (((0, x60.2))))) else
  if ((X.2 s.1.toNatClampNeg) &&& 63) = 32 then
  (f_X_image s.2).bind fun x61 =>
  (f_M_image x61.2).bind fun x62 =>
  if x61.1 = x62.1 then
  some (.inl ((s.1 + 6, x62.2))) else
  some (.inr (.inr (((0, x62.2))))) else
  if ((X.2 s.1.toNatClampNeg) &&& 63) = 33 then
  if hl_b (s.1 + 1) X.1 then
  (f_X_octet (X.2 (s.1 + 1).toNatClampNeg) s.2).bind fun x63 =>
  if hl_b (s.1 + 1) X.1 then
  (f_M_octet (X.2 (s.1 + 1).toNatClampNeg) s.2).bind fun x64 =>
  if x63 = x64 then
  some (.inl ((s.1 + 6, s.2))) else
  some (.inr (.inr (((0, s.2))))) else none else none else
  if ((X.2 s.1.toNatClampNeg) &&& 63) = 34 then
  (f_X_on s.2).bind fun x65 =>
  (f_M_on x65.2).bind fun x66 =>
  if x65.1 = x66.1 then
  some (.inl ((s.1 + 6, x66.2))) else
  some (.inr (.inr (((0, x66.2))))) else
  some (.inl ((s.1 + 6, s.2))) else none
def f_Law_law (X : hl_X) (σ : hl_M) : Option (Int32 × hl_M) :=
  (hl_lp (f_Law_law_L18 X) hl_big ((0, σ))).bind fun x67 =>
  Sum.elim (fun x68 =>
  some ((1, x68))) (fun x69 =>
  some x69) x67
set_option maxRecDepth 20000 in
theorem p_Law_law_j641 {X : hl_X} (D : Nat) (v3 : Int32) (s0 : Int32) (s1 : Int32) (s3 : Int32) (σ : hl_M) {o : (Int32 × hl_M) ⊕ ((hl_M) ⊕ (Int32 × hl_M))} {v : Option Value} {τ : hl_M} (h : f_Law_law_j641 X v3 s0 s1 s3 σ = some o) (k1 : ∀ (c0 : Int32) (c1 : hl_M), o = .inl ((c0, c1)) → hl_R X (D + 49) y295 18 [(0, .ref 500), (1, .ref 0), (2, .ref 64), (3, .int c0)] [] c1 v τ) (k2 : ∀ (a0 : hl_M), o = .inr (.inl a0) → hl_R X (D + 49) y295 1222 [] [] a0 v τ) (kr : ∀ (a : Int32) (b : hl_M), o = .inr (.inr ((a, b))) → v = some (.int a) ∧ τ = b) : hl_R X (D + 49) y295 641 [(0, .ref 500), (1, .ref 0), (2, .ref 64), (3, .int v3)] [.int s0, .int s1, .ref 64, .int s3] σ v τ := by
  unfold f_Law_law_j641 at h
  obtain ⟨x26, hx26, h⟩ := hl_bind h
  refine hl_cVi (D := (D + 48)) (z := y159) (n := 2) (av := [.int s1, .int s0]) (st := [.int s3]) d295_641 mlLaw_79 rfl (Nat.le_of_ble_eq_true rfl) (Nat.le_of_ble_eq_true rfl) rc64 ((p_M_read D s1 s0 σ hx26).dle (by omega)) ?_
  refine hl_icmp_eq (tg := 1216) d295_644 rfl (fun hc => ?_) (fun hc => ?_)
  · have h := hl_pos hc h
    refine hl_iinc (ls2 := [(3, .int (v3 + 6)), (0, .ref 500), (1, .ref 0), (2, .ref 64)]) d295_1216 rfl kx6 (by decide) rfl ?_
    refine hl_goto (tg := 18) d295_1219 rfl ?_
    have h := Option.some.inj h
    subst h
    exact hl_loc (k1 (v3 + 6) σ rfl) ⟨rfl, rfl, rfl, rfl, trivial⟩
  · have h := hl_neg hc h
    refine hl_iconst d295_647 ki0 ?_
    have h := Option.some.inj h
    subst h
    obtain ⟨e1, e2⟩ := kr 0 σ rfl
    subst e1; subst e2
    exact hl_zret d295_648 rfl (by decide)
set_option maxRecDepth 20000 in
theorem p_Law_law_j619 {X : hl_X} (D : Nat) (v3 : Int32) (s0 : Int32) (s1 : Int32) (σ : hl_M) {o : (Int32 × hl_M) ⊕ ((hl_M) ⊕ (Int32 × hl_M))} {v : Option Value} {τ : hl_M} (h : f_Law_law_j619 X v3 s0 s1 σ = some o) (k1 : ∀ (c0 : Int32) (c1 : hl_M), o = .inl ((c0, c1)) → hl_R X (D + 49) y295 18 [(0, .ref 500), (1, .ref 0), (2, .ref 64), (3, .int c0)] [] c1 v τ) (k2 : ∀ (a0 : hl_M), o = .inr (.inl a0) → hl_R X (D + 49) y295 1222 [] [] a0 v τ) (kr : ∀ (a : Int32) (b : hl_M), o = .inr (.inr ((a, b))) → v = some (.int a) ∧ τ = b) : hl_R X (D + 49) y295 619 [(0, .ref 500), (1, .ref 0), (2, .ref 64), (3, .int v3)] [.int s0, .int s1, .ref 0] σ v τ := by
  unfold f_Law_law_j619 at h
  obtain ⟨x25, hx25, h⟩ := hl_bind h
  refine hl_cVi (D := (D + 48)) (z := y154) (n := 2) (av := [.int s1, .int s0]) (st := []) d295_619 mlLaw_75 rfl (Nat.le_of_ble_eq_true rfl) (Nat.le_of_ble_eq_true rfl) rc0 ((p_X_read D s1 s0 σ hx25).dle (by omega)) ?_
  refine hl_aload_n (i := 2) d295_622 rfl rfl (by decide) ?_
  refine hl_aload_n (i := 0) d295_623 rfl rfl (by decide) ?_
  refine hl_iload_n (i := 3) d295_624 rfl rfl ?_
  refine hl_iconst d295_625 ki1 ?_
  refine hl_iadd d295_626 ?_
  obtain ⟨hb, h⟩ := hl_gd h
  refine hl_ialR d295_627 (hs500 X) (hl_b_in hb) ?_
  refine hl_aload_n (i := 0) d295_628 rfl rfl (by decide) ?_
  refine hl_iload_n (i := 3) d295_629 rfl rfl ?_
  refine hl_iconst d295_630 ki2 ?_
  refine hl_iadd d295_631 ?_
  obtain ⟨hb, h⟩ := hl_gd h
  refine hl_ialR d295_632 (hs500 X) (hl_b_in hb) ?_
  refine hl_if_eq (tg := 640) d295_633 rfl (fun hc => ?_) (fun hc => ?_)
  · have h := hl_pos hc h
    refine hl_iconst d295_640 ki0 ?_
    exact hl_loc (p_Law_law_j641 D v3 0 (X.2 (v3 + 1).toNatClampNeg) x25.1 x25.2 h k1 k2 kr) ⟨rfl, rfl, rfl, rfl, trivial⟩
  · have h := hl_neg hc h
    refine hl_iconst d295_636 ki1 ?_
    refine hl_goto (tg := 641) d295_637 rfl ?_
    exact hl_loc (p_Law_law_j641 D v3 1 (X.2 (v3 + 1).toNatClampNeg) x25.1 x25.2 h k1 k2 kr) ⟨rfl, rfl, rfl, rfl, trivial⟩
set_option maxRecDepth 20000 in
theorem p_Law_law_j700 {X : hl_X} (D : Nat) (v3 : Int32) (s0 : Int32) (s1 : Int32) (s2 : Int32) (s4 : Int32) (σ : hl_M) {o : (Int32 × hl_M) ⊕ ((hl_M) ⊕ (Int32 × hl_M))} {v : Option Value} {τ : hl_M} (h : f_Law_law_j700 X v3 s0 s1 s2 s4 σ = some o) (k1 : ∀ (c0 : Int32) (c1 : hl_M), o = .inl ((c0, c1)) → hl_R X (D + 49) y295 18 [(0, .ref 500), (1, .ref 0), (2, .ref 64), (3, .int c0)] [] c1 v τ) (k2 : ∀ (a0 : hl_M), o = .inr (.inl a0) → hl_R X (D + 49) y295 1222 [] [] a0 v τ) (kr : ∀ (a : Int32) (b : hl_M), o = .inr (.inr ((a, b))) → v = some (.int a) ∧ τ = b) : hl_R X (D + 49) y295 700 [(0, .ref 500), (1, .ref 0), (2, .ref 64), (3, .int v3)] [.int s0, .int s1, .int s2, .ref 64, .int s4] σ v τ := by
  unfold f_Law_law_j700 at h
  obtain ⟨x28, hx28, h⟩ := hl_bind h
  refine hl_cVi (D := (D + 48)) (z := y162) (n := 3) (av := [.int s2, .int s1, .int s0]) (st := [.int s4]) d295_700 mlLaw_84 rfl (Nat.le_of_ble_eq_true rfl) (Nat.le_of_ble_eq_true rfl) rc64 ((p_M_far D s2 s1 s0 σ hx28).dle (by omega)) ?_
  refine hl_icmp_eq (tg := 1216) d295_703 rfl (fun hc => ?_) (fun hc => ?_)
  · have h := hl_pos hc h
    refine hl_iinc (ls2 := [(3, .int (v3 + 6)), (0, .ref 500), (1, .ref 0), (2, .ref 64)]) d295_1216 rfl kx6 (by decide) rfl ?_
    refine hl_goto (tg := 18) d295_1219 rfl ?_
    have h := Option.some.inj h
    subst h
    exact hl_loc (k1 (v3 + 6) σ rfl) ⟨rfl, rfl, rfl, rfl, trivial⟩
  · have h := hl_neg hc h
    refine hl_iconst d295_706 ki0 ?_
    have h := Option.some.inj h
    subst h
    obtain ⟨e1, e2⟩ := kr 0 σ rfl
    subst e1; subst e2
    exact hl_zret d295_707 rfl (by decide)
set_option maxRecDepth 20000 in
theorem p_Law_law_j673 {X : hl_X} (D : Nat) (v3 : Int32) (s0 : Int32) (s1 : Int32) (s2 : Int32) (σ : hl_M) {o : (Int32 × hl_M) ⊕ ((hl_M) ⊕ (Int32 × hl_M))} {v : Option Value} {τ : hl_M} (h : f_Law_law_j673 X v3 s0 s1 s2 σ = some o) (k1 : ∀ (c0 : Int32) (c1 : hl_M), o = .inl ((c0, c1)) → hl_R X (D + 49) y295 18 [(0, .ref 500), (1, .ref 0), (2, .ref 64), (3, .int c0)] [] c1 v τ) (k2 : ∀ (a0 : hl_M), o = .inr (.inl a0) → hl_R X (D + 49) y295 1222 [] [] a0 v τ) (kr : ∀ (a : Int32) (b : hl_M), o = .inr (.inr ((a, b))) → v = some (.int a) ∧ τ = b) : hl_R X (D + 49) y295 673 [(0, .ref 500), (1, .ref 0), (2, .ref 64), (3, .int v3)] [.int s0, .int s1, .int s2, .ref 0] σ v τ := by
  unfold f_Law_law_j673 at h
  obtain ⟨x27, hx27, h⟩ := hl_bind h
  refine hl_cVi (D := (D + 48)) (z := y161) (n := 3) (av := [.int s2, .int s1, .int s0]) (st := []) d295_673 mlLaw_80 rfl (Nat.le_of_ble_eq_true rfl) (Nat.le_of_ble_eq_true rfl) rc0 ((p_X_far D s2 s1 s0 σ hx27).dle (by omega)) ?_
  refine hl_aload_n (i := 2) d295_676 rfl rfl (by decide) ?_
  refine hl_aload_n (i := 0) d295_677 rfl rfl (by decide) ?_
  refine hl_iload_n (i := 3) d295_678 rfl rfl ?_
  refine hl_iconst d295_679 ki1 ?_
  refine hl_iadd d295_680 ?_
  obtain ⟨hb, h⟩ := hl_gd h
  refine hl_ialR d295_681 (hs500 X) (hl_b_in hb) ?_
  refine hl_aload_n (i := 0) d295_682 rfl rfl (by decide) ?_
  refine hl_iload_n (i := 3) d295_683 rfl rfl ?_
  refine hl_iconst d295_684 ki2 ?_
  refine hl_iadd d295_685 ?_
  obtain ⟨hb, h⟩ := hl_gd h
  refine hl_ialR d295_686 (hs500 X) (hl_b_in hb) ?_
  refine hl_aload_n (i := 0) d295_687 rfl rfl (by decide) ?_
  refine hl_iload_n (i := 3) d295_688 rfl rfl ?_
  refine hl_iconst d295_689 ki3 ?_
  refine hl_iadd d295_690 ?_
  obtain ⟨hb, h⟩ := hl_gd h
  refine hl_ialR d295_691 (hs500 X) (hl_b_in hb) ?_
  refine hl_if_eq (tg := 699) d295_692 rfl (fun hc => ?_) (fun hc => ?_)
  · have h := hl_pos hc h
    refine hl_iconst d295_699 ki0 ?_
    exact hl_loc (p_Law_law_j700 D v3 0 (X.2 (v3 + 2).toNatClampNeg) (X.2 (v3 + 1).toNatClampNeg) x27.1 x27.2 h k1 k2 kr) ⟨rfl, rfl, rfl, rfl, trivial⟩
  · have h := hl_neg hc h
    refine hl_iconst d295_695 ki1 ?_
    refine hl_goto (tg := 700) d295_696 rfl ?_
    exact hl_loc (p_Law_law_j700 D v3 1 (X.2 (v3 + 2).toNatClampNeg) (X.2 (v3 + 1).toNatClampNeg) x27.1 x27.2 h k1 k2 kr) ⟨rfl, rfl, rfl, rfl, trivial⟩
set_option maxRecDepth 20000 in
theorem p_Law_law_L18 {X : hl_X} (D : Nat) (s : Int32 × hl_M) {o : (Int32 × hl_M) ⊕ ((hl_M) ⊕ (Int32 × hl_M))} {v : Option Value} {τ : hl_M} (h : f_Law_law_L18 X s = some o) (k1 : ∀ (c0 : Int32) (c1 : hl_M), o = .inl ((c0, c1)) → hl_R X (D + 49) y295 18 [(0, .ref 500), (1, .ref 0), (2, .ref 64), (3, .int c0)] [] c1 v τ) (k2 : ∀ (a0 : hl_M), o = .inr (.inl a0) → hl_R X (D + 49) y295 1222 [] [] a0 v τ) (kr : ∀ (a : Int32) (b : hl_M), o = .inr (.inr ((a, b))) → v = some (.int a) ∧ τ = b) : hl_R X (D + 49) y295 18 [(0, .ref 500), (1, .ref 0), (2, .ref 64), (3, .int s.1)] [] s.2 v τ := by
  unfold f_Law_law_L18 at h
  refine hl_iload_n (i := 3) d295_18 rfl rfl ?_
  refine hl_aload_n (i := 0) d295_19 rfl rfl (by decide) ?_
  refine hl_alenR d295_20 (hs500 X) rfl ?_
  refine hl_bipush d295_21 kb6 ?_
  refine hl_isub d295_23 ?_
  refine hl_icmp_gt (tg := 1222) d295_24 rfl (fun hc => ?_) (fun hc => ?_)
  · have h := hl_pos hc h
    have h := Option.some.inj h
    subst h
    exact hl_loc (k2 s.2 rfl) trivial
  · have h := hl_neg hc h
    refine hl_aload_n (i := 0) d295_27 rfl rfl (by decide) ?_
    refine hl_iload_n (i := 3) d295_28 rfl rfl ?_
    obtain ⟨hb, h⟩ := hl_gd h
    refine hl_ialR d295_29 (hs500 X) (hl_b_in hb) ?_
    refine hl_bipush d295_30 kb63 ?_
    refine hl_iand d295_32 ?_
    by_cases hc33_0 : ((X.2 s.1.toNatClampNeg) &&& 63) = 0
    · have h := hl_pos hc33_0 h
      refine hl_tabIn (off := 155) (tg := 188) d295_33 (by rw [hc33_0]; decide) (by rw [hc33_0]; decide) (by rw [hc33_0]; rfl) rfl ?_
      refine hl_aload_n (i := 1) d295_188 rfl rfl (by decide) ?_
      refine hl_aload_n (i := 0) d295_189 rfl rfl (by decide) ?_
      refine hl_iload_n (i := 3) d295_190 rfl rfl ?_
      refine hl_iconst d295_191 ki1 ?_
      refine hl_iadd d295_192 ?_
      obtain ⟨hb, h⟩ := hl_gd h
      refine hl_ialR d295_193 (hs500 X) (hl_b_in hb) ?_
      refine hl_aload_n (i := 0) d295_194 rfl rfl (by decide) ?_
      refine hl_iload_n (i := 3) d295_195 rfl rfl ?_
      refine hl_iconst d295_196 ki2 ?_
      refine hl_iadd d295_197 ?_
      obtain ⟨hb, h⟩ := hl_gd h
      refine hl_ialR d295_198 (hs500 X) (hl_b_in hb) ?_
      refine hl_aload_n (i := 0) d295_199 rfl rfl (by decide) ?_
      refine hl_iload_n (i := 3) d295_200 rfl rfl ?_
      refine hl_iconst d295_201 ki3 ?_
      refine hl_iadd d295_202 ?_
      obtain ⟨hb, h⟩ := hl_gd h
      refine hl_ialR d295_203 (hs500 X) (hl_b_in hb) ?_
      refine hl_aload_n (i := 0) d295_204 rfl rfl (by decide) ?_
      refine hl_iload_n (i := 3) d295_205 rfl rfl ?_
      refine hl_iconst d295_206 ki4 ?_
      refine hl_iadd d295_207 ?_
      obtain ⟨hb, h⟩ := hl_gd h
      refine hl_ialR d295_208 (hs500 X) (hl_b_in hb) ?_
      refine hl_aload_n (i := 0) d295_209 rfl rfl (by decide) ?_
      refine hl_iload_n (i := 3) d295_210 rfl rfl ?_
      refine hl_iconst d295_211 ki5 ?_
      refine hl_iadd d295_212 ?_
      obtain ⟨hb, h⟩ := hl_gd h
      refine hl_ialR d295_213 (hs500 X) (hl_b_in hb) ?_
      obtain ⟨x1, hx1, h⟩ := hl_bind h
      refine hl_cVi (D := (D + 48)) (z := y0) (n := 5) (av := [.int (X.2 (s.1 + 1).toNatClampNeg), .int (X.2 (s.1 + 2).toNatClampNeg), .int (X.2 (s.1 + 3).toNatClampNeg), .int (X.2 (s.1 + 4).toNatClampNeg), .int (X.2 (s.1 + 5).toNatClampNeg)]) (st := []) d295_214 mlLaw_13 rfl (Nat.le_of_ble_eq_true rfl) (Nat.le_of_ble_eq_true rfl) rc0 ((p_X_feed D (X.2 (s.1 + 1).toNatClampNeg) (X.2 (s.1 + 2).toNatClampNeg) (X.2 (s.1 + 3).toNatClampNeg) (X.2 (s.1 + 4).toNatClampNeg) (X.2 (s.1 + 5).toNatClampNeg) s.2 hx1).dle (by omega)) ?_
      refine hl_aload_n (i := 2) d295_217 rfl rfl (by decide) ?_
      refine hl_aload_n (i := 0) d295_218 rfl rfl (by decide) ?_
      refine hl_iload_n (i := 3) d295_219 rfl rfl ?_
      refine hl_iconst d295_220 ki1 ?_
      refine hl_iadd d295_221 ?_
      obtain ⟨hb, h⟩ := hl_gd h
      refine hl_ialR d295_222 (hs500 X) (hl_b_in hb) ?_
      refine hl_aload_n (i := 0) d295_223 rfl rfl (by decide) ?_
      refine hl_iload_n (i := 3) d295_224 rfl rfl ?_
      refine hl_iconst d295_225 ki2 ?_
      refine hl_iadd d295_226 ?_
      obtain ⟨hb, h⟩ := hl_gd h
      refine hl_ialR d295_227 (hs500 X) (hl_b_in hb) ?_
      refine hl_aload_n (i := 0) d295_228 rfl rfl (by decide) ?_
      refine hl_iload_n (i := 3) d295_229 rfl rfl ?_
      refine hl_iconst d295_230 ki3 ?_
      refine hl_iadd d295_231 ?_
      obtain ⟨hb, h⟩ := hl_gd h
      refine hl_ialR d295_232 (hs500 X) (hl_b_in hb) ?_
      refine hl_aload_n (i := 0) d295_233 rfl rfl (by decide) ?_
      refine hl_iload_n (i := 3) d295_234 rfl rfl ?_
      refine hl_iconst d295_235 ki4 ?_
      refine hl_iadd d295_236 ?_
      obtain ⟨hb, h⟩ := hl_gd h
      refine hl_ialR d295_237 (hs500 X) (hl_b_in hb) ?_
      refine hl_aload_n (i := 0) d295_238 rfl rfl (by decide) ?_
      refine hl_iload_n (i := 3) d295_239 rfl rfl ?_
      refine hl_iconst d295_240 ki5 ?_
      refine hl_iadd d295_241 ?_
      obtain ⟨hb, h⟩ := hl_gd h
      refine hl_ialR d295_242 (hs500 X) (hl_b_in hb) ?_
      obtain ⟨x2, hx2, h⟩ := hl_bind h
      refine hl_cVi (D := (D + 48)) (z := y3) (n := 5) (av := [.int (X.2 (s.1 + 1).toNatClampNeg), .int (X.2 (s.1 + 2).toNatClampNeg), .int (X.2 (s.1 + 3).toNatClampNeg), .int (X.2 (s.1 + 4).toNatClampNeg), .int (X.2 (s.1 + 5).toNatClampNeg)]) (st := [.int x1.1]) d295_243 mlLaw_17 rfl (Nat.le_of_ble_eq_true rfl) (Nat.le_of_ble_eq_true rfl) rc64 ((p_M_feed D (X.2 (s.1 + 1).toNatClampNeg) (X.2 (s.1 + 2).toNatClampNeg) (X.2 (s.1 + 3).toNatClampNeg) (X.2 (s.1 + 4).toNatClampNeg) (X.2 (s.1 + 5).toNatClampNeg) x1.2 hx2).dle (by omega)) ?_
      refine hl_icmp_eq (tg := 1216) d295_246 rfl (fun hc => ?_) (fun hc => ?_)
      · have h := hl_pos hc h
        refine hl_iinc (ls2 := [(3, .int (s.1 + 6)), (0, .ref 500), (1, .ref 0), (2, .ref 64)]) d295_1216 rfl kx6 (by decide) rfl ?_
        refine hl_goto (tg := 18) d295_1219 rfl ?_
        have h := Option.some.inj h
        subst h
        exact hl_loc (k1 (s.1 + 6) x2.2 rfl) ⟨rfl, rfl, rfl, rfl, trivial⟩
      · have h := hl_neg hc h
        refine hl_iconst d295_249 ki0 ?_
        have h := Option.some.inj h
        subst h
        obtain ⟨e1, e2⟩ := kr 0 x2.2 rfl
        subst e1; subst e2
        exact hl_zret d295_250 rfl (by decide)
    have h := hl_neg hc33_0 h
    by_cases hc33_1 : ((X.2 s.1.toNatClampNeg) &&& 63) = 1
    · have h := hl_pos hc33_1 h
      refine hl_tabIn (off := 218) (tg := 251) d295_33 (by rw [hc33_1]; decide) (by rw [hc33_1]; decide) (by rw [hc33_1]; rfl) rfl ?_
      refine hl_aload_n (i := 1) d295_251 rfl rfl (by decide) ?_
      refine hl_aload_n (i := 0) d295_252 rfl rfl (by decide) ?_
      refine hl_iload_n (i := 3) d295_253 rfl rfl ?_
      refine hl_iconst d295_254 ki1 ?_
      refine hl_iadd d295_255 ?_
      obtain ⟨hb, h⟩ := hl_gd h
      refine hl_ialR d295_256 (hs500 X) (hl_b_in hb) ?_
      refine hl_cVi (D := (D + 48)) (z := y4) (n := 1) (av := [.int (X.2 (s.1 + 1).toNatClampNeg)]) (st := []) d295_257 mlLaw_18 rfl (Nat.le_of_ble_eq_true rfl) (Nat.le_of_ble_eq_true rfl) rc0 ((p_X_end D (X.2 (s.1 + 1).toNatClampNeg) s.2 rfl).dle (by omega)) ?_
      refine hl_aload_n (i := 2) d295_260 rfl rfl (by decide) ?_
      refine hl_aload_n (i := 0) d295_261 rfl rfl (by decide) ?_
      refine hl_iload_n (i := 3) d295_262 rfl rfl ?_
      refine hl_iconst d295_263 ki1 ?_
      refine hl_iadd d295_264 ?_
      obtain ⟨hb, h⟩ := hl_gd h
      refine hl_ialR d295_265 (hs500 X) (hl_b_in hb) ?_
      refine hl_cVi (D := (D + 48)) (z := y5) (n := 1) (av := [.int (X.2 (s.1 + 1).toNatClampNeg)]) (st := [.int ((f_X_end (X.2 (s.1 + 1).toNatClampNeg) s.2).1)]) d295_266 mlLaw_22 rfl (Nat.le_of_ble_eq_true rfl) (Nat.le_of_ble_eq_true rfl) rc64 ((p_M_end D (X.2 (s.1 + 1).toNatClampNeg) ((f_X_end (X.2 (s.1 + 1).toNatClampNeg) s.2).2) rfl).dle (by omega)) ?_
      refine hl_icmp_eq (tg := 1216) d295_269 rfl (fun hc => ?_) (fun hc => ?_)
      · have h := hl_pos hc h
        refine hl_iinc (ls2 := [(3, .int (s.1 + 6)), (0, .ref 500), (1, .ref 0), (2, .ref 64)]) d295_1216 rfl kx6 (by decide) rfl ?_
        refine hl_goto (tg := 18) d295_1219 rfl ?_
        have h := Option.some.inj h
        subst h
        exact hl_loc (k1 (s.1 + 6) ((f_M_end (X.2 (s.1 + 1).toNatClampNeg) ((f_X_end (X.2 (s.1 + 1).toNatClampNeg) s.2).2)).2) rfl) ⟨rfl, rfl, rfl, rfl, trivial⟩
      · have h := hl_neg hc h
        refine hl_iconst d295_272 ki0 ?_
        have h := Option.some.inj h
        subst h
        obtain ⟨e1, e2⟩ := kr 0 ((f_M_end (X.2 (s.1 + 1).toNatClampNeg) ((f_X_end (X.2 (s.1 + 1).toNatClampNeg) s.2).2)).2) rfl
        subst e1; subst e2
        exact hl_zret d295_273 rfl (by decide)
    have h := hl_neg hc33_1 h
    by_cases hc33_2 : ((X.2 s.1.toNatClampNeg) &&& 63) = 2
    · have h := hl_pos hc33_2 h
      refine hl_tabIn (off := 241) (tg := 274) d295_33 (by rw [hc33_2]; decide) (by rw [hc33_2]; decide) (by rw [hc33_2]; rfl) rfl ?_
      refine hl_aload_n (i := 1) d295_274 rfl rfl (by decide) ?_
      obtain ⟨x3, hx3, h⟩ := hl_bind h
      refine hl_cVi (D := (D + 48)) (z := y6) (n := 0) (av := []) (st := []) d295_275 mlLaw_23 rfl (Nat.le_of_ble_eq_true rfl) (Nat.le_of_ble_eq_true rfl) rc0 ((p_X_text D s.2 hx3).dle (by omega)) ?_
      refine hl_aload_n (i := 2) d295_278 rfl rfl (by decide) ?_
      obtain ⟨x4, hx4, h⟩ := hl_bind h
      refine hl_cVi (D := (D + 48)) (z := y61) (n := 0) (av := []) (st := [.int x3.1]) d295_279 mlLaw_27 rfl (Nat.le_of_ble_eq_true rfl) (Nat.le_of_ble_eq_true rfl) rc64 ((p_M_text D x3.2 hx4).dle (by omega)) ?_
      refine hl_icmp_eq (tg := 1216) d295_282 rfl (fun hc => ?_) (fun hc => ?_)
      · have h := hl_pos hc h
        refine hl_iinc (ls2 := [(3, .int (s.1 + 6)), (0, .ref 500), (1, .ref 0), (2, .ref 64)]) d295_1216 rfl kx6 (by decide) rfl ?_
        refine hl_goto (tg := 18) d295_1219 rfl ?_
        have h := Option.some.inj h
        subst h
        exact hl_loc (k1 (s.1 + 6) x4.2 rfl) ⟨rfl, rfl, rfl, rfl, trivial⟩
      · have h := hl_neg hc h
        refine hl_iconst d295_285 ki0 ?_
        have h := Option.some.inj h
        subst h
        obtain ⟨e1, e2⟩ := kr 0 x4.2 rfl
        subst e1; subst e2
        exact hl_zret d295_286 rfl (by decide)
    have h := hl_neg hc33_2 h
    by_cases hc33_3 : ((X.2 s.1.toNatClampNeg) &&& 63) = 3
    · have h := hl_pos hc33_3 h
      refine hl_tabIn (off := 254) (tg := 287) d295_33 (by rw [hc33_3]; decide) (by rw [hc33_3]; decide) (by rw [hc33_3]; rfl) rfl ?_
      refine hl_aload_n (i := 1) d295_287 rfl rfl (by decide) ?_
      refine hl_aload_n (i := 0) d295_288 rfl rfl (by decide) ?_
      refine hl_iload_n (i := 3) d295_289 rfl rfl ?_
      refine hl_iconst d295_290 ki1 ?_
      refine hl_iadd d295_291 ?_
      obtain ⟨hb, h⟩ := hl_gd h
      refine hl_ialR d295_292 (hs500 X) (hl_b_in hb) ?_
      refine hl_cVi (D := (D + 48)) (z := y96) (n := 1) (av := [.int (X.2 (s.1 + 1).toNatClampNeg)]) (st := []) d295_293 mlLaw_28 rfl (Nat.le_of_ble_eq_true rfl) (Nat.le_of_ble_eq_true rfl) rc0 ((p_X_fault D (X.2 (s.1 + 1).toNatClampNeg) s.2 rfl).dle (by omega)) ?_
      refine hl_aload_n (i := 2) d295_296 rfl rfl (by decide) ?_
      refine hl_aload_n (i := 0) d295_297 rfl rfl (by decide) ?_
      refine hl_iload_n (i := 3) d295_298 rfl rfl ?_
      refine hl_iconst d295_299 ki1 ?_
      refine hl_iadd d295_300 ?_
      obtain ⟨hb, h⟩ := hl_gd h
      refine hl_ialR d295_301 (hs500 X) (hl_b_in hb) ?_
      refine hl_cVi (D := (D + 48)) (z := y97) (n := 1) (av := [.int (X.2 (s.1 + 1).toNatClampNeg)]) (st := [.int (f_X_fault (X.2 (s.1 + 1).toNatClampNeg) s.2)]) d295_302 mlLaw_32 rfl (Nat.le_of_ble_eq_true rfl) (Nat.le_of_ble_eq_true rfl) rc64 ((p_M_fault D (X.2 (s.1 + 1).toNatClampNeg) s.2 rfl).dle (by omega)) ?_
      refine hl_icmp_eq (tg := 1216) d295_305 rfl (fun hc => ?_) (fun hc => ?_)
      · have h := hl_pos hc h
        refine hl_iinc (ls2 := [(3, .int (s.1 + 6)), (0, .ref 500), (1, .ref 0), (2, .ref 64)]) d295_1216 rfl kx6 (by decide) rfl ?_
        refine hl_goto (tg := 18) d295_1219 rfl ?_
        have h := Option.some.inj h
        subst h
        exact hl_loc (k1 (s.1 + 6) s.2 rfl) ⟨rfl, rfl, rfl, rfl, trivial⟩
      · have h := hl_neg hc h
        refine hl_iconst d295_308 ki0 ?_
        have h := Option.some.inj h
        subst h
        obtain ⟨e1, e2⟩ := kr 0 s.2 rfl
        subst e1; subst e2
        exact hl_zret d295_309 rfl (by decide)
    have h := hl_neg hc33_3 h
    by_cases hc33_4 : ((X.2 s.1.toNatClampNeg) &&& 63) = 4
    · have h := hl_pos hc33_4 h
      refine hl_tabIn (off := 277) (tg := 310) d295_33 (by rw [hc33_4]; decide) (by rw [hc33_4]; decide) (by rw [hc33_4]; rfl) rfl ?_
      refine hl_aload_n (i := 1) d295_310 rfl rfl (by decide) ?_
      refine hl_aload_n (i := 0) d295_311 rfl rfl (by decide) ?_
      refine hl_iload_n (i := 3) d295_312 rfl rfl ?_
      refine hl_iconst d295_313 ki1 ?_
      refine hl_iadd d295_314 ?_
      obtain ⟨hb, h⟩ := hl_gd h
      refine hl_ialR d295_315 (hs500 X) (hl_b_in hb) ?_
      obtain ⟨x5, hx5, h⟩ := hl_bind h
      refine hl_cVi (D := (D + 48)) (z := y98) (n := 1) (av := [.int (X.2 (s.1 + 1).toNatClampNeg)]) (st := []) d295_316 mlLaw_33 rfl (Nat.le_of_ble_eq_true rfl) (Nat.le_of_ble_eq_true rfl) rc0 ((p_X_ground D (X.2 (s.1 + 1).toNatClampNeg) s.2 hx5).dle (by omega)) ?_
      refine hl_aload_n (i := 2) d295_319 rfl rfl (by decide) ?_
      refine hl_aload_n (i := 0) d295_320 rfl rfl (by decide) ?_
      refine hl_iload_n (i := 3) d295_321 rfl rfl ?_
      refine hl_iconst d295_322 ki1 ?_
      refine hl_iadd d295_323 ?_
      obtain ⟨hb, h⟩ := hl_gd h
      refine hl_ialR d295_324 (hs500 X) (hl_b_in hb) ?_
      obtain ⟨x6, hx6, h⟩ := hl_bind h
      refine hl_cVi (D := (D + 48)) (z := y107) (n := 1) (av := [.int (X.2 (s.1 + 1).toNatClampNeg)]) (st := [.int x5.1]) d295_325 mlLaw_36 rfl (Nat.le_of_ble_eq_true rfl) (Nat.le_of_ble_eq_true rfl) rc64 ((p_M_ground D (X.2 (s.1 + 1).toNatClampNeg) x5.2 hx6).dle (by omega)) ?_
      refine hl_icmp_eq (tg := 1216) d295_328 rfl (fun hc => ?_) (fun hc => ?_)
      · have h := hl_pos hc h
        refine hl_iinc (ls2 := [(3, .int (s.1 + 6)), (0, .ref 500), (1, .ref 0), (2, .ref 64)]) d295_1216 rfl kx6 (by decide) rfl ?_
        refine hl_goto (tg := 18) d295_1219 rfl ?_
        have h := Option.some.inj h
        subst h
        exact hl_loc (k1 (s.1 + 6) x5.2 rfl) ⟨rfl, rfl, rfl, rfl, trivial⟩
      · have h := hl_neg hc h
        refine hl_iconst d295_331 ki0 ?_
        have h := Option.some.inj h
        subst h
        obtain ⟨e1, e2⟩ := kr 0 x5.2 rfl
        subst e1; subst e2
        exact hl_zret d295_332 rfl (by decide)
    have h := hl_neg hc33_4 h
    by_cases hc33_5 : ((X.2 s.1.toNatClampNeg) &&& 63) = 5
    · have h := hl_pos hc33_5 h
      refine hl_tabIn (off := 300) (tg := 333) d295_33 (by rw [hc33_5]; decide) (by rw [hc33_5]; decide) (by rw [hc33_5]; rfl) rfl ?_
      refine hl_aload_n (i := 1) d295_333 rfl rfl (by decide) ?_
      refine hl_aload_n (i := 0) d295_334 rfl rfl (by decide) ?_
      refine hl_iload_n (i := 3) d295_335 rfl rfl ?_
      refine hl_iconst d295_336 ki1 ?_
      refine hl_iadd d295_337 ?_
      obtain ⟨hb, h⟩ := hl_gd h
      refine hl_ialR d295_338 (hs500 X) (hl_b_in hb) ?_
      refine hl_aload_n (i := 0) d295_339 rfl rfl (by decide) ?_
      refine hl_iload_n (i := 3) d295_340 rfl rfl ?_
      refine hl_iconst d295_341 ki2 ?_
      refine hl_iadd d295_342 ?_
      obtain ⟨hb, h⟩ := hl_gd h
      refine hl_ialR d295_343 (hs500 X) (hl_b_in hb) ?_
      refine hl_aload_n (i := 0) d295_344 rfl rfl (by decide) ?_
      refine hl_iload_n (i := 3) d295_345 rfl rfl ?_
      refine hl_iconst d295_346 ki3 ?_
      refine hl_iadd d295_347 ?_
      obtain ⟨hb, h⟩ := hl_gd h
      refine hl_ialR d295_348 (hs500 X) (hl_b_in hb) ?_
      obtain ⟨x7, hx7, h⟩ := hl_bind h
      refine hl_cVi (D := (D + 48)) (z := y118) (n := 3) (av := [.int (X.2 (s.1 + 1).toNatClampNeg), .int (X.2 (s.1 + 2).toNatClampNeg), .int (X.2 (s.1 + 3).toNatClampNeg)]) (st := []) d295_349 mlLaw_37 rfl (Nat.le_of_ble_eq_true rfl) (Nat.le_of_ble_eq_true rfl) rc0 ((p_X_letter D (X.2 (s.1 + 1).toNatClampNeg) (X.2 (s.1 + 2).toNatClampNeg) (X.2 (s.1 + 3).toNatClampNeg) s.2 hx7).dle (by omega)) ?_
      refine hl_aload_n (i := 2) d295_352 rfl rfl (by decide) ?_
      refine hl_aload_n (i := 0) d295_353 rfl rfl (by decide) ?_
      refine hl_iload_n (i := 3) d295_354 rfl rfl ?_
      refine hl_iconst d295_355 ki1 ?_
      refine hl_iadd d295_356 ?_
      obtain ⟨hb, h⟩ := hl_gd h
      refine hl_ialR d295_357 (hs500 X) (hl_b_in hb) ?_
      refine hl_aload_n (i := 0) d295_358 rfl rfl (by decide) ?_
      refine hl_iload_n (i := 3) d295_359 rfl rfl ?_
      refine hl_iconst d295_360 ki2 ?_
      refine hl_iadd d295_361 ?_
      obtain ⟨hb, h⟩ := hl_gd h
      refine hl_ialR d295_362 (hs500 X) (hl_b_in hb) ?_
      refine hl_aload_n (i := 0) d295_363 rfl rfl (by decide) ?_
      refine hl_iload_n (i := 3) d295_364 rfl rfl ?_
      refine hl_iconst d295_365 ki3 ?_
      refine hl_iadd d295_366 ?_
      obtain ⟨hb, h⟩ := hl_gd h
      refine hl_ialR d295_367 (hs500 X) (hl_b_in hb) ?_
      obtain ⟨x8, hx8, h⟩ := hl_bind h
      refine hl_cVi (D := (D + 48)) (z := y120) (n := 3) (av := [.int (X.2 (s.1 + 1).toNatClampNeg), .int (X.2 (s.1 + 2).toNatClampNeg), .int (X.2 (s.1 + 3).toNatClampNeg)]) (st := [.int x7]) d295_368 mlLaw_41 rfl (Nat.le_of_ble_eq_true rfl) (Nat.le_of_ble_eq_true rfl) rc64 ((p_M_letter D (X.2 (s.1 + 1).toNatClampNeg) (X.2 (s.1 + 2).toNatClampNeg) (X.2 (s.1 + 3).toNatClampNeg) s.2 hx8).dle (by omega)) ?_
      refine hl_icmp_eq (tg := 1216) d295_371 rfl (fun hc => ?_) (fun hc => ?_)
      · have h := hl_pos hc h
        refine hl_iinc (ls2 := [(3, .int (s.1 + 6)), (0, .ref 500), (1, .ref 0), (2, .ref 64)]) d295_1216 rfl kx6 (by decide) rfl ?_
        refine hl_goto (tg := 18) d295_1219 rfl ?_
        have h := Option.some.inj h
        subst h
        exact hl_loc (k1 (s.1 + 6) s.2 rfl) ⟨rfl, rfl, rfl, rfl, trivial⟩
      · have h := hl_neg hc h
        refine hl_iconst d295_374 ki0 ?_
        have h := Option.some.inj h
        subst h
        obtain ⟨e1, e2⟩ := kr 0 s.2 rfl
        subst e1; subst e2
        exact hl_zret d295_375 rfl (by decide)
    have h := hl_neg hc33_5 h
    by_cases hc33_6 : ((X.2 s.1.toNatClampNeg) &&& 63) = 6
    · have h := hl_pos hc33_6 h
      refine hl_tabIn (off := 343) (tg := 376) d295_33 (by rw [hc33_6]; decide) (by rw [hc33_6]; decide) (by rw [hc33_6]; rfl) rfl ?_
      refine hl_aload_n (i := 1) d295_376 rfl rfl (by decide) ?_
      refine hl_aload_n (i := 0) d295_377 rfl rfl (by decide) ?_
      refine hl_iload_n (i := 3) d295_378 rfl rfl ?_
      refine hl_iconst d295_379 ki1 ?_
      refine hl_iadd d295_380 ?_
      obtain ⟨hb, h⟩ := hl_gd h
      refine hl_ialR d295_381 (hs500 X) (hl_b_in hb) ?_
      refine hl_aload_n (i := 0) d295_382 rfl rfl (by decide) ?_
      refine hl_iload_n (i := 3) d295_383 rfl rfl ?_
      refine hl_iconst d295_384 ki2 ?_
      refine hl_iadd d295_385 ?_
      obtain ⟨hb, h⟩ := hl_gd h
      refine hl_ialR d295_386 (hs500 X) (hl_b_in hb) ?_
      obtain ⟨x9, hx9, h⟩ := hl_bind h
      refine hl_cVi (D := (D + 48)) (z := y121) (n := 2) (av := [.int (X.2 (s.1 + 1).toNatClampNeg), .int (X.2 (s.1 + 2).toNatClampNeg)]) (st := []) d295_387 mlLaw_42 rfl (Nat.le_of_ble_eq_true rfl) (Nat.le_of_ble_eq_true rfl) rc0 ((p_X_person D (X.2 (s.1 + 1).toNatClampNeg) (X.2 (s.1 + 2).toNatClampNeg) s.2 hx9).dle (by omega)) ?_
      refine hl_aload_n (i := 2) d295_390 rfl rfl (by decide) ?_
      refine hl_aload_n (i := 0) d295_391 rfl rfl (by decide) ?_
      refine hl_iload_n (i := 3) d295_392 rfl rfl ?_
      refine hl_iconst d295_393 ki1 ?_
      refine hl_iadd d295_394 ?_
      obtain ⟨hb, h⟩ := hl_gd h
      refine hl_ialR d295_395 (hs500 X) (hl_b_in hb) ?_
      refine hl_aload_n (i := 0) d295_396 rfl rfl (by decide) ?_
      refine hl_iload_n (i := 3) d295_397 rfl rfl ?_
      refine hl_iconst d295_398 ki2 ?_
      refine hl_iadd d295_399 ?_
      obtain ⟨hb, h⟩ := hl_gd h
      refine hl_ialR d295_400 (hs500 X) (hl_b_in hb) ?_
      obtain ⟨x10, hx10, h⟩ := hl_bind h
      refine hl_cVi (D := (D + 48)) (z := y125) (n := 2) (av := [.int (X.2 (s.1 + 1).toNatClampNeg), .int (X.2 (s.1 + 2).toNatClampNeg)]) (st := [.int x9.1]) d295_401 mlLaw_46 rfl (Nat.le_of_ble_eq_true rfl) (Nat.le_of_ble_eq_true rfl) rc64 ((p_M_person D (X.2 (s.1 + 1).toNatClampNeg) (X.2 (s.1 + 2).toNatClampNeg) x9.2 hx10).dle (by omega)) ?_
      refine hl_icmp_eq (tg := 1216) d295_404 rfl (fun hc => ?_) (fun hc => ?_)
      · have h := hl_pos hc h
        refine hl_iinc (ls2 := [(3, .int (s.1 + 6)), (0, .ref 500), (1, .ref 0), (2, .ref 64)]) d295_1216 rfl kx6 (by decide) rfl ?_
        refine hl_goto (tg := 18) d295_1219 rfl ?_
        have h := Option.some.inj h
        subst h
        exact hl_loc (k1 (s.1 + 6) x10.2 rfl) ⟨rfl, rfl, rfl, rfl, trivial⟩
      · have h := hl_neg hc h
        refine hl_iconst d295_407 ki0 ?_
        have h := Option.some.inj h
        subst h
        obtain ⟨e1, e2⟩ := kr 0 x10.2 rfl
        subst e1; subst e2
        exact hl_zret d295_408 rfl (by decide)
    have h := hl_neg hc33_6 h
    by_cases hc33_7 : ((X.2 s.1.toNatClampNeg) &&& 63) = 7
    · have h := hl_pos hc33_7 h
      refine hl_tabIn (off := 376) (tg := 409) d295_33 (by rw [hc33_7]; decide) (by rw [hc33_7]; decide) (by rw [hc33_7]; rfl) rfl ?_
      refine hl_aload_n (i := 1) d295_409 rfl rfl (by decide) ?_
      refine hl_aload_n (i := 0) d295_410 rfl rfl (by decide) ?_
      refine hl_iload_n (i := 3) d295_411 rfl rfl ?_
      refine hl_iconst d295_412 ki1 ?_
      refine hl_iadd d295_413 ?_
      obtain ⟨hb, h⟩ := hl_gd h
      refine hl_ialR d295_414 (hs500 X) (hl_b_in hb) ?_
      refine hl_aload_n (i := 0) d295_415 rfl rfl (by decide) ?_
      refine hl_iload_n (i := 3) d295_416 rfl rfl ?_
      refine hl_iconst d295_417 ki2 ?_
      refine hl_iadd d295_418 ?_
      obtain ⟨hb, h⟩ := hl_gd h
      refine hl_ialR d295_419 (hs500 X) (hl_b_in hb) ?_
      obtain ⟨x11, hx11, h⟩ := hl_bind h
      refine hl_cVi (D := (D + 48)) (z := y130) (n := 2) (av := [.int (X.2 (s.1 + 1).toNatClampNeg), .int (X.2 (s.1 + 2).toNatClampNeg)]) (st := []) d295_420 mlLaw_47 rfl (Nat.le_of_ble_eq_true rfl) (Nat.le_of_ble_eq_true rfl) rc0 ((p_X_word D (X.2 (s.1 + 1).toNatClampNeg) (X.2 (s.1 + 2).toNatClampNeg) s.2 hx11).dle (by omega)) ?_
      refine hl_aload_n (i := 2) d295_423 rfl rfl (by decide) ?_
      refine hl_aload_n (i := 0) d295_424 rfl rfl (by decide) ?_
      refine hl_iload_n (i := 3) d295_425 rfl rfl ?_
      refine hl_iconst d295_426 ki1 ?_
      refine hl_iadd d295_427 ?_
      obtain ⟨hb, h⟩ := hl_gd h
      refine hl_ialR d295_428 (hs500 X) (hl_b_in hb) ?_
      refine hl_aload_n (i := 0) d295_429 rfl rfl (by decide) ?_
      refine hl_iload_n (i := 3) d295_430 rfl rfl ?_
      refine hl_iconst d295_431 ki2 ?_
      refine hl_iadd d295_432 ?_
      obtain ⟨hb, h⟩ := hl_gd h
      refine hl_ialR d295_433 (hs500 X) (hl_b_in hb) ?_
      obtain ⟨x12, hx12, h⟩ := hl_bind h
      refine hl_cVi (D := (D + 48)) (z := y131) (n := 2) (av := [.int (X.2 (s.1 + 1).toNatClampNeg), .int (X.2 (s.1 + 2).toNatClampNeg)]) (st := [.int x11]) d295_434 mlLaw_50 rfl (Nat.le_of_ble_eq_true rfl) (Nat.le_of_ble_eq_true rfl) rc64 ((p_M_word D (X.2 (s.1 + 1).toNatClampNeg) (X.2 (s.1 + 2).toNatClampNeg) s.2 hx12).dle (by omega)) ?_
      refine hl_icmp_eq (tg := 1216) d295_437 rfl (fun hc => ?_) (fun hc => ?_)
      · have h := hl_pos hc h
        refine hl_iinc (ls2 := [(3, .int (s.1 + 6)), (0, .ref 500), (1, .ref 0), (2, .ref 64)]) d295_1216 rfl kx6 (by decide) rfl ?_
        refine hl_goto (tg := 18) d295_1219 rfl ?_
        have h := Option.some.inj h
        subst h
        exact hl_loc (k1 (s.1 + 6) s.2 rfl) ⟨rfl, rfl, rfl, rfl, trivial⟩
      · have h := hl_neg hc h
        refine hl_iconst d295_440 ki0 ?_
        have h := Option.some.inj h
        subst h
        obtain ⟨e1, e2⟩ := kr 0 s.2 rfl
        subst e1; subst e2
        exact hl_zret d295_441 rfl (by decide)
    have h := hl_neg hc33_7 h
    by_cases hc33_8 : ((X.2 s.1.toNatClampNeg) &&& 63) = 8
    · have h := hl_pos hc33_8 h
      refine hl_tabIn (off := 409) (tg := 442) d295_33 (by rw [hc33_8]; decide) (by rw [hc33_8]; decide) (by rw [hc33_8]; rfl) rfl ?_
      refine hl_aload_n (i := 1) d295_442 rfl rfl (by decide) ?_
      refine hl_aload_n (i := 0) d295_443 rfl rfl (by decide) ?_
      refine hl_iload_n (i := 3) d295_444 rfl rfl ?_
      refine hl_iconst d295_445 ki1 ?_
      refine hl_iadd d295_446 ?_
      obtain ⟨hb, h⟩ := hl_gd h
      refine hl_ialR d295_447 (hs500 X) (hl_b_in hb) ?_
      refine hl_aload_n (i := 0) d295_448 rfl rfl (by decide) ?_
      refine hl_iload_n (i := 3) d295_449 rfl rfl ?_
      refine hl_iconst d295_450 ki2 ?_
      refine hl_iadd d295_451 ?_
      obtain ⟨hb, h⟩ := hl_gd h
      refine hl_ialR d295_452 (hs500 X) (hl_b_in hb) ?_
      obtain ⟨x13, hx13, h⟩ := hl_bind h
      refine hl_cVi (D := (D + 48)) (z := y135) (n := 2) (av := [.int (X.2 (s.1 + 1).toNatClampNeg), .int (X.2 (s.1 + 2).toNatClampNeg)]) (st := []) d295_453 mlLaw_51 rfl (Nat.le_of_ble_eq_true rfl) (Nat.le_of_ble_eq_true rfl) rc0 ((p_X_hymn D (X.2 (s.1 + 1).toNatClampNeg) (X.2 (s.1 + 2).toNatClampNeg) s.2 hx13).dle (by omega)) ?_
      refine hl_aload_n (i := 2) d295_456 rfl rfl (by decide) ?_
      refine hl_aload_n (i := 0) d295_457 rfl rfl (by decide) ?_
      refine hl_iload_n (i := 3) d295_458 rfl rfl ?_
      refine hl_iconst d295_459 ki1 ?_
      refine hl_iadd d295_460 ?_
      obtain ⟨hb, h⟩ := hl_gd h
      refine hl_ialR d295_461 (hs500 X) (hl_b_in hb) ?_
      refine hl_aload_n (i := 0) d295_462 rfl rfl (by decide) ?_
      refine hl_iload_n (i := 3) d295_463 rfl rfl ?_
      refine hl_iconst d295_464 ki2 ?_
      refine hl_iadd d295_465 ?_
      obtain ⟨hb, h⟩ := hl_gd h
      refine hl_ialR d295_466 (hs500 X) (hl_b_in hb) ?_
      obtain ⟨x14, hx14, h⟩ := hl_bind h
      refine hl_cVi (D := (D + 48)) (z := y136) (n := 2) (av := [.int (X.2 (s.1 + 1).toNatClampNeg), .int (X.2 (s.1 + 2).toNatClampNeg)]) (st := [.int x13.1]) d295_467 mlLaw_54 rfl (Nat.le_of_ble_eq_true rfl) (Nat.le_of_ble_eq_true rfl) rc64 ((p_M_hymn D (X.2 (s.1 + 1).toNatClampNeg) (X.2 (s.1 + 2).toNatClampNeg) x13.2 hx14).dle (by omega)) ?_
      refine hl_icmp_eq (tg := 1216) d295_470 rfl (fun hc => ?_) (fun hc => ?_)
      · have h := hl_pos hc h
        refine hl_iinc (ls2 := [(3, .int (s.1 + 6)), (0, .ref 500), (1, .ref 0), (2, .ref 64)]) d295_1216 rfl kx6 (by decide) rfl ?_
        refine hl_goto (tg := 18) d295_1219 rfl ?_
        have h := Option.some.inj h
        subst h
        exact hl_loc (k1 (s.1 + 6) x13.2 rfl) ⟨rfl, rfl, rfl, rfl, trivial⟩
      · have h := hl_neg hc h
        refine hl_iconst d295_473 ki0 ?_
        have h := Option.some.inj h
        subst h
        obtain ⟨e1, e2⟩ := kr 0 x13.2 rfl
        subst e1; subst e2
        exact hl_zret d295_474 rfl (by decide)
    have h := hl_neg hc33_8 h
    by_cases hc33_9 : ((X.2 s.1.toNatClampNeg) &&& 63) = 9
    · have h := hl_pos hc33_9 h
      refine hl_tabIn (off := 442) (tg := 475) d295_33 (by rw [hc33_9]; decide) (by rw [hc33_9]; decide) (by rw [hc33_9]; rfl) rfl ?_
      refine hl_aload_n (i := 1) d295_475 rfl rfl (by decide) ?_
      refine hl_aload_n (i := 0) d295_476 rfl rfl (by decide) ?_
      refine hl_iload_n (i := 3) d295_477 rfl rfl ?_
      refine hl_iconst d295_478 ki1 ?_
      refine hl_iadd d295_479 ?_
      obtain ⟨hb, h⟩ := hl_gd h
      refine hl_ialR d295_480 (hs500 X) (hl_b_in hb) ?_
      refine hl_aload_n (i := 0) d295_481 rfl rfl (by decide) ?_
      refine hl_iload_n (i := 3) d295_482 rfl rfl ?_
      refine hl_iconst d295_483 ki2 ?_
      refine hl_iadd d295_484 ?_
      obtain ⟨hb, h⟩ := hl_gd h
      refine hl_ialR d295_485 (hs500 X) (hl_b_in hb) ?_
      obtain ⟨x15, hx15, h⟩ := hl_bind h
      refine hl_cVi (D := (D + 48)) (z := y137) (n := 2) (av := [.int (X.2 (s.1 + 1).toNatClampNeg), .int (X.2 (s.1 + 2).toNatClampNeg)]) (st := []) d295_486 mlLaw_55 rfl (Nat.le_of_ble_eq_true rfl) (Nat.le_of_ble_eq_true rfl) rc0 ((p_X_where D (X.2 (s.1 + 1).toNatClampNeg) (X.2 (s.1 + 2).toNatClampNeg) s.2 hx15).dle (by omega)) ?_
      refine hl_aload_n (i := 2) d295_489 rfl rfl (by decide) ?_
      refine hl_aload_n (i := 0) d295_490 rfl rfl (by decide) ?_
      refine hl_iload_n (i := 3) d295_491 rfl rfl ?_
      refine hl_iconst d295_492 ki1 ?_
      refine hl_iadd d295_493 ?_
      obtain ⟨hb, h⟩ := hl_gd h
      refine hl_ialR d295_494 (hs500 X) (hl_b_in hb) ?_
      refine hl_aload_n (i := 0) d295_495 rfl rfl (by decide) ?_
      refine hl_iload_n (i := 3) d295_496 rfl rfl ?_
      refine hl_iconst d295_497 ki2 ?_
      refine hl_iadd d295_498 ?_
      obtain ⟨hb, h⟩ := hl_gd h
      refine hl_ialR d295_499 (hs500 X) (hl_b_in hb) ?_
      obtain ⟨x16, hx16, h⟩ := hl_bind h
      refine hl_cVi (D := (D + 48)) (z := y138) (n := 2) (av := [.int (X.2 (s.1 + 1).toNatClampNeg), .int (X.2 (s.1 + 2).toNatClampNeg)]) (st := [.int x15]) d295_500 mlLaw_58 rfl (Nat.le_of_ble_eq_true rfl) (Nat.le_of_ble_eq_true rfl) rc64 ((p_M_where D (X.2 (s.1 + 1).toNatClampNeg) (X.2 (s.1 + 2).toNatClampNeg) s.2 hx16).dle (by omega)) ?_
      refine hl_icmp_eq (tg := 1216) d295_503 rfl (fun hc => ?_) (fun hc => ?_)
      · have h := hl_pos hc h
        refine hl_iinc (ls2 := [(3, .int (s.1 + 6)), (0, .ref 500), (1, .ref 0), (2, .ref 64)]) d295_1216 rfl kx6 (by decide) rfl ?_
        refine hl_goto (tg := 18) d295_1219 rfl ?_
        have h := Option.some.inj h
        subst h
        exact hl_loc (k1 (s.1 + 6) s.2 rfl) ⟨rfl, rfl, rfl, rfl, trivial⟩
      · have h := hl_neg hc h
        refine hl_iconst d295_506 ki0 ?_
        have h := Option.some.inj h
        subst h
        obtain ⟨e1, e2⟩ := kr 0 s.2 rfl
        subst e1; subst e2
        exact hl_zret d295_507 rfl (by decide)
    have h := hl_neg hc33_9 h
    by_cases hc33_10 : ((X.2 s.1.toNatClampNeg) &&& 63) = 10
    · have h := hl_pos hc33_10 h
      refine hl_tabIn (off := 475) (tg := 508) d295_33 (by rw [hc33_10]; decide) (by rw [hc33_10]; decide) (by rw [hc33_10]; rfl) rfl ?_
      refine hl_aload_n (i := 1) d295_508 rfl rfl (by decide) ?_
      refine hl_aload_n (i := 0) d295_509 rfl rfl (by decide) ?_
      refine hl_iload_n (i := 3) d295_510 rfl rfl ?_
      refine hl_iconst d295_511 ki1 ?_
      refine hl_iadd d295_512 ?_
      obtain ⟨hb, h⟩ := hl_gd h
      refine hl_ialR d295_513 (hs500 X) (hl_b_in hb) ?_
      refine hl_aload_n (i := 0) d295_514 rfl rfl (by decide) ?_
      refine hl_iload_n (i := 3) d295_515 rfl rfl ?_
      refine hl_iconst d295_516 ki2 ?_
      refine hl_iadd d295_517 ?_
      obtain ⟨hb, h⟩ := hl_gd h
      refine hl_ialR d295_518 (hs500 X) (hl_b_in hb) ?_
      obtain ⟨x17, hx17, h⟩ := hl_bind h
      refine hl_cVi (D := (D + 48)) (z := y140) (n := 2) (av := [.int (X.2 (s.1 + 1).toNatClampNeg), .int (X.2 (s.1 + 2).toNatClampNeg)]) (st := []) d295_519 mlLaw_59 rfl (Nat.le_of_ble_eq_true rfl) (Nat.le_of_ble_eq_true rfl) rc0 ((p_X_lit D (X.2 (s.1 + 1).toNatClampNeg) (X.2 (s.1 + 2).toNatClampNeg) s.2 hx17).dle (by omega)) ?_
      refine hl_aload_n (i := 2) d295_522 rfl rfl (by decide) ?_
      refine hl_aload_n (i := 0) d295_523 rfl rfl (by decide) ?_
      refine hl_iload_n (i := 3) d295_524 rfl rfl ?_
      refine hl_iconst d295_525 ki1 ?_
      refine hl_iadd d295_526 ?_
      obtain ⟨hb, h⟩ := hl_gd h
      refine hl_ialR d295_527 (hs500 X) (hl_b_in hb) ?_
      refine hl_aload_n (i := 0) d295_528 rfl rfl (by decide) ?_
      refine hl_iload_n (i := 3) d295_529 rfl rfl ?_
      refine hl_iconst d295_530 ki2 ?_
      refine hl_iadd d295_531 ?_
      obtain ⟨hb, h⟩ := hl_gd h
      refine hl_ialR d295_532 (hs500 X) (hl_b_in hb) ?_
      obtain ⟨x18, hx18, h⟩ := hl_bind h
      refine hl_cVi (D := (D + 48)) (z := y142) (n := 2) (av := [.int (X.2 (s.1 + 1).toNatClampNeg), .int (X.2 (s.1 + 2).toNatClampNeg)]) (st := [.int x17.1]) d295_533 mlLaw_62 rfl (Nat.le_of_ble_eq_true rfl) (Nat.le_of_ble_eq_true rfl) rc64 ((p_M_lit D (X.2 (s.1 + 1).toNatClampNeg) (X.2 (s.1 + 2).toNatClampNeg) x17.2 hx18).dle (by omega)) ?_
      refine hl_icmp_eq (tg := 1216) d295_536 rfl (fun hc => ?_) (fun hc => ?_)
      · have h := hl_pos hc h
        refine hl_iinc (ls2 := [(3, .int (s.1 + 6)), (0, .ref 500), (1, .ref 0), (2, .ref 64)]) d295_1216 rfl kx6 (by decide) rfl ?_
        refine hl_goto (tg := 18) d295_1219 rfl ?_
        have h := Option.some.inj h
        subst h
        exact hl_loc (k1 (s.1 + 6) x17.2 rfl) ⟨rfl, rfl, rfl, rfl, trivial⟩
      · have h := hl_neg hc h
        refine hl_iconst d295_539 ki0 ?_
        have h := Option.some.inj h
        subst h
        obtain ⟨e1, e2⟩ := kr 0 x17.2 rfl
        subst e1; subst e2
        exact hl_zret d295_540 rfl (by decide)
    have h := hl_neg hc33_10 h
    by_cases hc33_11 : ((X.2 s.1.toNatClampNeg) &&& 63) = 11
    · have h := hl_pos hc33_11 h
      refine hl_tabIn (off := 508) (tg := 541) d295_33 (by rw [hc33_11]; decide) (by rw [hc33_11]; decide) (by rw [hc33_11]; rfl) rfl ?_
      refine hl_aload_n (i := 1) d295_541 rfl rfl (by decide) ?_
      refine hl_aload_n (i := 0) d295_542 rfl rfl (by decide) ?_
      refine hl_iload_n (i := 3) d295_543 rfl rfl ?_
      refine hl_iconst d295_544 ki1 ?_
      refine hl_iadd d295_545 ?_
      obtain ⟨hb, h⟩ := hl_gd h
      refine hl_ialR d295_546 (hs500 X) (hl_b_in hb) ?_
      obtain ⟨x19, hx19, h⟩ := hl_bind h
      refine hl_cVi (D := (D + 48)) (z := y143) (n := 1) (av := [.int (X.2 (s.1 + 1).toNatClampNeg)]) (st := []) d295_547 mlLaw_63 rfl (Nat.le_of_ble_eq_true rfl) (Nat.le_of_ble_eq_true rfl) rc0 ((p_X_clash D (X.2 (s.1 + 1).toNatClampNeg) s.2 hx19).dle (by omega)) ?_
      refine hl_aload_n (i := 2) d295_550 rfl rfl (by decide) ?_
      refine hl_aload_n (i := 0) d295_551 rfl rfl (by decide) ?_
      refine hl_iload_n (i := 3) d295_552 rfl rfl ?_
      refine hl_iconst d295_553 ki1 ?_
      refine hl_iadd d295_554 ?_
      obtain ⟨hb, h⟩ := hl_gd h
      refine hl_ialR d295_555 (hs500 X) (hl_b_in hb) ?_
      obtain ⟨x20, hx20, h⟩ := hl_bind h
      refine hl_cVi (D := (D + 48)) (z := y146) (n := 1) (av := [.int (X.2 (s.1 + 1).toNatClampNeg)]) (st := [.int x19]) d295_556 mlLaw_66 rfl (Nat.le_of_ble_eq_true rfl) (Nat.le_of_ble_eq_true rfl) rc64 ((p_M_clash D (X.2 (s.1 + 1).toNatClampNeg) s.2 hx20).dle (by omega)) ?_
      refine hl_icmp_eq (tg := 1216) d295_559 rfl (fun hc => ?_) (fun hc => ?_)
      · have h := hl_pos hc h
        refine hl_iinc (ls2 := [(3, .int (s.1 + 6)), (0, .ref 500), (1, .ref 0), (2, .ref 64)]) d295_1216 rfl kx6 (by decide) rfl ?_
        refine hl_goto (tg := 18) d295_1219 rfl ?_
        have h := Option.some.inj h
        subst h
        exact hl_loc (k1 (s.1 + 6) s.2 rfl) ⟨rfl, rfl, rfl, rfl, trivial⟩
      · have h := hl_neg hc h
        refine hl_iconst d295_562 ki0 ?_
        have h := Option.some.inj h
        subst h
        obtain ⟨e1, e2⟩ := kr 0 s.2 rfl
        subst e1; subst e2
        exact hl_zret d295_563 rfl (by decide)
    have h := hl_neg hc33_11 h
    by_cases hc33_12 : ((X.2 s.1.toNatClampNeg) &&& 63) = 12
    · have h := hl_pos hc33_12 h
      refine hl_tabIn (off := 531) (tg := 564) d295_33 (by rw [hc33_12]; decide) (by rw [hc33_12]; decide) (by rw [hc33_12]; rfl) rfl ?_
      refine hl_aload_n (i := 1) d295_564 rfl rfl (by decide) ?_
      obtain ⟨x21, hx21, h⟩ := hl_bind h
      refine hl_cVi (D := (D + 48)) (z := y149) (n := 0) (av := []) (st := []) d295_565 mlLaw_67 rfl (Nat.le_of_ble_eq_true rfl) (Nat.le_of_ble_eq_true rfl) rc0 ((p_X_clashes D s.2 hx21).dle (by omega)) ?_
      refine hl_aload_n (i := 2) d295_568 rfl rfl (by decide) ?_
      obtain ⟨x22, hx22, h⟩ := hl_bind h
      refine hl_cVi (D := (D + 48)) (z := y150) (n := 0) (av := []) (st := [.int x21]) d295_569 mlLaw_70 rfl (Nat.le_of_ble_eq_true rfl) (Nat.le_of_ble_eq_true rfl) rc64 ((p_M_clashes D s.2 hx22).dle (by omega)) ?_
      refine hl_icmp_eq (tg := 1216) d295_572 rfl (fun hc => ?_) (fun hc => ?_)
      · have h := hl_pos hc h
        refine hl_iinc (ls2 := [(3, .int (s.1 + 6)), (0, .ref 500), (1, .ref 0), (2, .ref 64)]) d295_1216 rfl kx6 (by decide) rfl ?_
        refine hl_goto (tg := 18) d295_1219 rfl ?_
        have h := Option.some.inj h
        subst h
        exact hl_loc (k1 (s.1 + 6) s.2 rfl) ⟨rfl, rfl, rfl, rfl, trivial⟩
      · have h := hl_neg hc h
        refine hl_iconst d295_575 ki0 ?_
        have h := Option.some.inj h
        subst h
        obtain ⟨e1, e2⟩ := kr 0 s.2 rfl
        subst e1; subst e2
        exact hl_zret d295_576 rfl (by decide)
    have h := hl_neg hc33_12 h
    by_cases hc33_13 : ((X.2 s.1.toNatClampNeg) &&& 63) = 13
    · have h := hl_pos hc33_13 h
      refine hl_tabIn (off := 544) (tg := 577) d295_33 (by rw [hc33_13]; decide) (by rw [hc33_13]; decide) (by rw [hc33_13]; rfl) rfl ?_
      refine hl_aload_n (i := 1) d295_577 rfl rfl (by decide) ?_
      refine hl_aload_n (i := 0) d295_578 rfl rfl (by decide) ?_
      refine hl_iload_n (i := 3) d295_579 rfl rfl ?_
      refine hl_iconst d295_580 ki1 ?_
      refine hl_iadd d295_581 ?_
      obtain ⟨hb, h⟩ := hl_gd h
      refine hl_ialR d295_582 (hs500 X) (hl_b_in hb) ?_
      obtain ⟨x23, hx23, h⟩ := hl_bind h
      refine hl_cVi (D := (D + 48)) (z := y151) (n := 1) (av := [.int (X.2 (s.1 + 1).toNatClampNeg)]) (st := []) d295_583 mlLaw_71 rfl (Nat.le_of_ble_eq_true rfl) (Nat.le_of_ble_eq_true rfl) rc0 ((p_X_still D (X.2 (s.1 + 1).toNatClampNeg) s.2 hx23).dle (by omega)) ?_
      refine hl_aload_n (i := 2) d295_586 rfl rfl (by decide) ?_
      refine hl_aload_n (i := 0) d295_587 rfl rfl (by decide) ?_
      refine hl_iload_n (i := 3) d295_588 rfl rfl ?_
      refine hl_iconst d295_589 ki1 ?_
      refine hl_iadd d295_590 ?_
      obtain ⟨hb, h⟩ := hl_gd h
      refine hl_ialR d295_591 (hs500 X) (hl_b_in hb) ?_
      obtain ⟨x24, hx24, h⟩ := hl_bind h
      refine hl_cVi (D := (D + 48)) (z := y153) (n := 1) (av := [.int (X.2 (s.1 + 1).toNatClampNeg)]) (st := [.int x23]) d295_592 mlLaw_74 rfl (Nat.le_of_ble_eq_true rfl) (Nat.le_of_ble_eq_true rfl) rc64 ((p_M_still D (X.2 (s.1 + 1).toNatClampNeg) s.2 hx24).dle (by omega)) ?_
      refine hl_icmp_eq (tg := 1216) d295_595 rfl (fun hc => ?_) (fun hc => ?_)
      · have h := hl_pos hc h
        refine hl_iinc (ls2 := [(3, .int (s.1 + 6)), (0, .ref 500), (1, .ref 0), (2, .ref 64)]) d295_1216 rfl kx6 (by decide) rfl ?_
        refine hl_goto (tg := 18) d295_1219 rfl ?_
        have h := Option.some.inj h
        subst h
        exact hl_loc (k1 (s.1 + 6) s.2 rfl) ⟨rfl, rfl, rfl, rfl, trivial⟩
      · have h := hl_neg hc h
        refine hl_iconst d295_598 ki0 ?_
        have h := Option.some.inj h
        subst h
        obtain ⟨e1, e2⟩ := kr 0 s.2 rfl
        subst e1; subst e2
        exact hl_zret d295_599 rfl (by decide)
    have h := hl_neg hc33_13 h
    by_cases hc33_14 : ((X.2 s.1.toNatClampNeg) &&& 63) = 14
    · have h := hl_pos hc33_14 h
      refine hl_tabIn (off := 567) (tg := 600) d295_33 (by rw [hc33_14]; decide) (by rw [hc33_14]; decide) (by rw [hc33_14]; rfl) rfl ?_
      refine hl_aload_n (i := 1) d295_600 rfl rfl (by decide) ?_
      refine hl_aload_n (i := 0) d295_601 rfl rfl (by decide) ?_
      refine hl_iload_n (i := 3) d295_602 rfl rfl ?_
      refine hl_iconst d295_603 ki1 ?_
      refine hl_iadd d295_604 ?_
      obtain ⟨hb, h⟩ := hl_gd h
      refine hl_ialR d295_605 (hs500 X) (hl_b_in hb) ?_
      refine hl_aload_n (i := 0) d295_606 rfl rfl (by decide) ?_
      refine hl_iload_n (i := 3) d295_607 rfl rfl ?_
      refine hl_iconst d295_608 ki2 ?_
      refine hl_iadd d295_609 ?_
      obtain ⟨hb, h⟩ := hl_gd h
      refine hl_ialR d295_610 (hs500 X) (hl_b_in hb) ?_
      refine hl_if_eq (tg := 618) d295_611 rfl (fun hc => ?_) (fun hc => ?_)
      · have h := hl_pos hc h
        refine hl_iconst d295_618 ki0 ?_
        exact hl_loc (p_Law_law_j619 D s.1 0 (X.2 (s.1 + 1).toNatClampNeg) s.2 h k1 k2 kr) ⟨rfl, rfl, rfl, rfl, trivial⟩
      · have h := hl_neg hc h
        refine hl_iconst d295_614 ki1 ?_
        refine hl_goto (tg := 619) d295_615 rfl ?_
        exact hl_loc (p_Law_law_j619 D s.1 1 (X.2 (s.1 + 1).toNatClampNeg) s.2 h k1 k2 kr) ⟨rfl, rfl, rfl, rfl, trivial⟩
    have h := hl_neg hc33_14 h
    by_cases hc33_15 : ((X.2 s.1.toNatClampNeg) &&& 63) = 15
    · have h := hl_pos hc33_15 h
      refine hl_tabIn (off := 616) (tg := 649) d295_33 (by rw [hc33_15]; decide) (by rw [hc33_15]; decide) (by rw [hc33_15]; rfl) rfl ?_
      refine hl_aload_n (i := 1) d295_649 rfl rfl (by decide) ?_
      refine hl_aload_n (i := 0) d295_650 rfl rfl (by decide) ?_
      refine hl_iload_n (i := 3) d295_651 rfl rfl ?_
      refine hl_iconst d295_652 ki1 ?_
      refine hl_iadd d295_653 ?_
      obtain ⟨hb, h⟩ := hl_gd h
      refine hl_ialR d295_654 (hs500 X) (hl_b_in hb) ?_
      refine hl_aload_n (i := 0) d295_655 rfl rfl (by decide) ?_
      refine hl_iload_n (i := 3) d295_656 rfl rfl ?_
      refine hl_iconst d295_657 ki2 ?_
      refine hl_iadd d295_658 ?_
      obtain ⟨hb, h⟩ := hl_gd h
      refine hl_ialR d295_659 (hs500 X) (hl_b_in hb) ?_
      refine hl_aload_n (i := 0) d295_660 rfl rfl (by decide) ?_
      refine hl_iload_n (i := 3) d295_661 rfl rfl ?_
      refine hl_iconst d295_662 ki3 ?_
      refine hl_iadd d295_663 ?_
      obtain ⟨hb, h⟩ := hl_gd h
      refine hl_ialR d295_664 (hs500 X) (hl_b_in hb) ?_
      refine hl_if_eq (tg := 672) d295_665 rfl (fun hc => ?_) (fun hc => ?_)
      · have h := hl_pos hc h
        refine hl_iconst d295_672 ki0 ?_
        exact hl_loc (p_Law_law_j673 D s.1 0 (X.2 (s.1 + 2).toNatClampNeg) (X.2 (s.1 + 1).toNatClampNeg) s.2 h k1 k2 kr) ⟨rfl, rfl, rfl, rfl, trivial⟩
      · have h := hl_neg hc h
        refine hl_iconst d295_668 ki1 ?_
        refine hl_goto (tg := 673) d295_669 rfl ?_
        exact hl_loc (p_Law_law_j673 D s.1 1 (X.2 (s.1 + 2).toNatClampNeg) (X.2 (s.1 + 1).toNatClampNeg) s.2 h k1 k2 kr) ⟨rfl, rfl, rfl, rfl, trivial⟩
    have h := hl_neg hc33_15 h
    by_cases hc33_16 : ((X.2 s.1.toNatClampNeg) &&& 63) = 16
    · have h := hl_pos hc33_16 h
      refine hl_tabIn (off := 675) (tg := 708) d295_33 (by rw [hc33_16]; decide) (by rw [hc33_16]; decide) (by rw [hc33_16]; rfl) rfl ?_
      refine hl_aload_n (i := 1) d295_708 rfl rfl (by decide) ?_
      refine hl_aload_n (i := 0) d295_709 rfl rfl (by decide) ?_
      refine hl_iload_n (i := 3) d295_710 rfl rfl ?_
      refine hl_iconst d295_711 ki1 ?_
      refine hl_iadd d295_712 ?_
      obtain ⟨hb, h⟩ := hl_gd h
      refine hl_ialR d295_713 (hs500 X) (hl_b_in hb) ?_
      refine hl_aload_n (i := 0) d295_714 rfl rfl (by decide) ?_
      refine hl_iload_n (i := 3) d295_715 rfl rfl ?_
      refine hl_iconst d295_716 ki2 ?_
      refine hl_iadd d295_717 ?_
      obtain ⟨hb, h⟩ := hl_gd h
      refine hl_ialR d295_718 (hs500 X) (hl_b_in hb) ?_
      obtain ⟨x29, hx29, h⟩ := hl_bind h
      refine hl_cVi (D := (D + 48)) (z := y163) (n := 2) (av := [.int (X.2 (s.1 + 1).toNatClampNeg), .int (X.2 (s.1 + 2).toNatClampNeg)]) (st := []) d295_719 mlLaw_85 rfl (Nat.le_of_ble_eq_true rfl) (Nat.le_of_ble_eq_true rfl) rc0 ((p_X_nearest D (X.2 (s.1 + 1).toNatClampNeg) (X.2 (s.1 + 2).toNatClampNeg) s.2 hx29).dle (by omega)) ?_
      refine hl_aload_n (i := 2) d295_722 rfl rfl (by decide) ?_
      refine hl_aload_n (i := 0) d295_723 rfl rfl (by decide) ?_
      refine hl_iload_n (i := 3) d295_724 rfl rfl ?_
      refine hl_iconst d295_725 ki1 ?_
      refine hl_iadd d295_726 ?_
      obtain ⟨hb, h⟩ := hl_gd h
      refine hl_ialR d295_727 (hs500 X) (hl_b_in hb) ?_
      refine hl_aload_n (i := 0) d295_728 rfl rfl (by decide) ?_
      refine hl_iload_n (i := 3) d295_729 rfl rfl ?_
      refine hl_iconst d295_730 ki2 ?_
      refine hl_iadd d295_731 ?_
      obtain ⟨hb, h⟩ := hl_gd h
      refine hl_ialR d295_732 (hs500 X) (hl_b_in hb) ?_
      obtain ⟨x30, hx30, h⟩ := hl_bind h
      refine hl_cVi (D := (D + 48)) (z := y167) (n := 2) (av := [.int (X.2 (s.1 + 1).toNatClampNeg), .int (X.2 (s.1 + 2).toNatClampNeg)]) (st := [.int x29.1]) d295_733 mlLaw_88 rfl (Nat.le_of_ble_eq_true rfl) (Nat.le_of_ble_eq_true rfl) rc64 ((p_M_nearest D (X.2 (s.1 + 1).toNatClampNeg) (X.2 (s.1 + 2).toNatClampNeg) x29.2 hx30).dle (by omega)) ?_
      refine hl_icmp_eq (tg := 1216) d295_736 rfl (fun hc => ?_) (fun hc => ?_)
      · have h := hl_pos hc h
        refine hl_iinc (ls2 := [(3, .int (s.1 + 6)), (0, .ref 500), (1, .ref 0), (2, .ref 64)]) d295_1216 rfl kx6 (by decide) rfl ?_
        refine hl_goto (tg := 18) d295_1219 rfl ?_
        have h := Option.some.inj h
        subst h
        exact hl_loc (k1 (s.1 + 6) x30.2 rfl) ⟨rfl, rfl, rfl, rfl, trivial⟩
      · have h := hl_neg hc h
        refine hl_iconst d295_739 ki0 ?_
        have h := Option.some.inj h
        subst h
        obtain ⟨e1, e2⟩ := kr 0 x30.2 rfl
        subst e1; subst e2
        exact hl_zret d295_740 rfl (by decide)
    have h := hl_neg hc33_16 h
    by_cases hc33_17 : ((X.2 s.1.toNatClampNeg) &&& 63) = 17
    · have h := hl_pos hc33_17 h
      refine hl_tabIn (off := 708) (tg := 741) d295_33 (by rw [hc33_17]; decide) (by rw [hc33_17]; decide) (by rw [hc33_17]; rfl) rfl ?_
      refine hl_aload_n (i := 1) d295_741 rfl rfl (by decide) ?_
      refine hl_aload_n (i := 0) d295_742 rfl rfl (by decide) ?_
      refine hl_iload_n (i := 3) d295_743 rfl rfl ?_
      refine hl_iconst d295_744 ki1 ?_
      refine hl_iadd d295_745 ?_
      obtain ⟨hb, h⟩ := hl_gd h
      refine hl_ialR d295_746 (hs500 X) (hl_b_in hb) ?_
      obtain ⟨x31, hx31, h⟩ := hl_bind h
      refine hl_cVi (D := (D + 48)) (z := y170) (n := 1) (av := [.int (X.2 (s.1 + 1).toNatClampNeg)]) (st := []) d295_747 mlLaw_89 rfl (Nat.le_of_ble_eq_true rfl) (Nat.le_of_ble_eq_true rfl) rc0 ((p_X_said D (X.2 (s.1 + 1).toNatClampNeg) s.2 hx31).dle (by omega)) ?_
      refine hl_aload_n (i := 2) d295_750 rfl rfl (by decide) ?_
      refine hl_aload_n (i := 0) d295_751 rfl rfl (by decide) ?_
      refine hl_iload_n (i := 3) d295_752 rfl rfl ?_
      refine hl_iconst d295_753 ki1 ?_
      refine hl_iadd d295_754 ?_
      obtain ⟨hb, h⟩ := hl_gd h
      refine hl_ialR d295_755 (hs500 X) (hl_b_in hb) ?_
      obtain ⟨x32, hx32, h⟩ := hl_bind h
      refine hl_cVi (D := (D + 48)) (z := y171) (n := 1) (av := [.int (X.2 (s.1 + 1).toNatClampNeg)]) (st := [.int x31.1]) d295_756 mlLaw_92 rfl (Nat.le_of_ble_eq_true rfl) (Nat.le_of_ble_eq_true rfl) rc64 ((p_M_said D (X.2 (s.1 + 1).toNatClampNeg) x31.2 hx32).dle (by omega)) ?_
      refine hl_icmp_eq (tg := 1216) d295_759 rfl (fun hc => ?_) (fun hc => ?_)
      · have h := hl_pos hc h
        refine hl_iinc (ls2 := [(3, .int (s.1 + 6)), (0, .ref 500), (1, .ref 0), (2, .ref 64)]) d295_1216 rfl kx6 (by decide) rfl ?_
        refine hl_goto (tg := 18) d295_1219 rfl ?_
        have h := Option.some.inj h
        subst h
        exact hl_loc (k1 (s.1 + 6) x31.2 rfl) ⟨rfl, rfl, rfl, rfl, trivial⟩
      · have h := hl_neg hc h
        refine hl_iconst d295_762 ki0 ?_
        have h := Option.some.inj h
        subst h
        obtain ⟨e1, e2⟩ := kr 0 x31.2 rfl
        subst e1; subst e2
        exact hl_zret d295_763 rfl (by decide)
    have h := hl_neg hc33_17 h
    by_cases hc33_18 : ((X.2 s.1.toNatClampNeg) &&& 63) = 18
    · have h := hl_pos hc33_18 h
      refine hl_tabIn (off := 731) (tg := 764) d295_33 (by rw [hc33_18]; decide) (by rw [hc33_18]; decide) (by rw [hc33_18]; rfl) rfl ?_
      refine hl_aload_n (i := 1) d295_764 rfl rfl (by decide) ?_
      refine hl_aload_n (i := 0) d295_765 rfl rfl (by decide) ?_
      refine hl_iload_n (i := 3) d295_766 rfl rfl ?_
      refine hl_iconst d295_767 ki1 ?_
      refine hl_iadd d295_768 ?_
      obtain ⟨hb, h⟩ := hl_gd h
      refine hl_ialR d295_769 (hs500 X) (hl_b_in hb) ?_
      refine hl_aload_n (i := 0) d295_770 rfl rfl (by decide) ?_
      refine hl_iload_n (i := 3) d295_771 rfl rfl ?_
      refine hl_iconst d295_772 ki2 ?_
      refine hl_iadd d295_773 ?_
      obtain ⟨hb, h⟩ := hl_gd h
      refine hl_ialR d295_774 (hs500 X) (hl_b_in hb) ?_
      obtain ⟨x33, hx33, h⟩ := hl_bind h
      refine hl_cVi (D := (D + 48)) (z := y172) (n := 2) (av := [.int (X.2 (s.1 + 1).toNatClampNeg), .int (X.2 (s.1 + 2).toNatClampNeg)]) (st := []) d295_775 mlLaw_93 rfl (Nat.le_of_ble_eq_true rfl) (Nat.le_of_ble_eq_true rfl) rc0 ((p_X_between D (X.2 (s.1 + 1).toNatClampNeg) (X.2 (s.1 + 2).toNatClampNeg) s.2 hx33).dle (by omega)) ?_
      refine hl_aload_n (i := 2) d295_778 rfl rfl (by decide) ?_
      refine hl_aload_n (i := 0) d295_779 rfl rfl (by decide) ?_
      refine hl_iload_n (i := 3) d295_780 rfl rfl ?_
      refine hl_iconst d295_781 ki1 ?_
      refine hl_iadd d295_782 ?_
      obtain ⟨hb, h⟩ := hl_gd h
      refine hl_ialR d295_783 (hs500 X) (hl_b_in hb) ?_
      refine hl_aload_n (i := 0) d295_784 rfl rfl (by decide) ?_
      refine hl_iload_n (i := 3) d295_785 rfl rfl ?_
      refine hl_iconst d295_786 ki2 ?_
      refine hl_iadd d295_787 ?_
      obtain ⟨hb, h⟩ := hl_gd h
      refine hl_ialR d295_788 (hs500 X) (hl_b_in hb) ?_
      obtain ⟨x34, hx34, h⟩ := hl_bind h
      refine hl_cVi (D := (D + 48)) (z := y173) (n := 2) (av := [.int (X.2 (s.1 + 1).toNatClampNeg), .int (X.2 (s.1 + 2).toNatClampNeg)]) (st := [.int x33.1]) d295_789 mlLaw_96 rfl (Nat.le_of_ble_eq_true rfl) (Nat.le_of_ble_eq_true rfl) rc64 ((p_M_between D (X.2 (s.1 + 1).toNatClampNeg) (X.2 (s.1 + 2).toNatClampNeg) x33.2 hx34).dle (by omega)) ?_
      refine hl_icmp_eq (tg := 1216) d295_792 rfl (fun hc => ?_) (fun hc => ?_)
      · have h := hl_pos hc h
        refine hl_iinc (ls2 := [(3, .int (s.1 + 6)), (0, .ref 500), (1, .ref 0), (2, .ref 64)]) d295_1216 rfl kx6 (by decide) rfl ?_
        refine hl_goto (tg := 18) d295_1219 rfl ?_
        have h := Option.some.inj h
        subst h
        exact hl_loc (k1 (s.1 + 6) x33.2 rfl) ⟨rfl, rfl, rfl, rfl, trivial⟩
      · have h := hl_neg hc h
        refine hl_iconst d295_795 ki0 ?_
        have h := Option.some.inj h
        subst h
        obtain ⟨e1, e2⟩ := kr 0 x33.2 rfl
        subst e1; subst e2
        exact hl_zret d295_796 rfl (by decide)
    have h := hl_neg hc33_18 h
    by_cases hc33_19 : ((X.2 s.1.toNatClampNeg) &&& 63) = 19
    · have h := hl_pos hc33_19 h
      refine hl_tabIn (off := 764) (tg := 797) d295_33 (by rw [hc33_19]; decide) (by rw [hc33_19]; decide) (by rw [hc33_19]; rfl) rfl ?_
      refine hl_aload_n (i := 1) d295_797 rfl rfl (by decide) ?_
      refine hl_aload_n (i := 0) d295_798 rfl rfl (by decide) ?_
      refine hl_iload_n (i := 3) d295_799 rfl rfl ?_
      refine hl_iconst d295_800 ki1 ?_
      refine hl_iadd d295_801 ?_
      obtain ⟨hb, h⟩ := hl_gd h
      refine hl_ialR d295_802 (hs500 X) (hl_b_in hb) ?_
      obtain ⟨x35, hx35, h⟩ := hl_bind h
      refine hl_cVi (D := (D + 48)) (z := y174) (n := 1) (av := [.int (X.2 (s.1 + 1).toNatClampNeg)]) (st := []) d295_803 mlLaw_97 rfl (Nat.le_of_ble_eq_true rfl) (Nat.le_of_ble_eq_true rfl) rc0 ((p_X_danger D (X.2 (s.1 + 1).toNatClampNeg) s.2 hx35).dle (by omega)) ?_
      refine hl_aload_n (i := 2) d295_806 rfl rfl (by decide) ?_
      refine hl_aload_n (i := 0) d295_807 rfl rfl (by decide) ?_
      refine hl_iload_n (i := 3) d295_808 rfl rfl ?_
      refine hl_iconst d295_809 ki1 ?_
      refine hl_iadd d295_810 ?_
      obtain ⟨hb, h⟩ := hl_gd h
      refine hl_ialR d295_811 (hs500 X) (hl_b_in hb) ?_
      obtain ⟨x36, hx36, h⟩ := hl_bind h
      refine hl_cVi (D := (D + 48)) (z := y175) (n := 1) (av := [.int (X.2 (s.1 + 1).toNatClampNeg)]) (st := [.int x35.1]) d295_812 mlLaw_100 rfl (Nat.le_of_ble_eq_true rfl) (Nat.le_of_ble_eq_true rfl) rc64 ((p_M_danger D (X.2 (s.1 + 1).toNatClampNeg) x35.2 hx36).dle (by omega)) ?_
      refine hl_icmp_eq (tg := 1216) d295_815 rfl (fun hc => ?_) (fun hc => ?_)
      · have h := hl_pos hc h
        refine hl_iinc (ls2 := [(3, .int (s.1 + 6)), (0, .ref 500), (1, .ref 0), (2, .ref 64)]) d295_1216 rfl kx6 (by decide) rfl ?_
        refine hl_goto (tg := 18) d295_1219 rfl ?_
        have h := Option.some.inj h
        subst h
        exact hl_loc (k1 (s.1 + 6) x36.2 rfl) ⟨rfl, rfl, rfl, rfl, trivial⟩
      · have h := hl_neg hc h
        refine hl_iconst d295_818 ki0 ?_
        have h := Option.some.inj h
        subst h
        obtain ⟨e1, e2⟩ := kr 0 x36.2 rfl
        subst e1; subst e2
        exact hl_zret d295_819 rfl (by decide)
    have h := hl_neg hc33_19 h
    by_cases hc33_20 : ((X.2 s.1.toNatClampNeg) &&& 63) = 20
    · have h := hl_pos hc33_20 h
      refine hl_tabIn (off := 787) (tg := 820) d295_33 (by rw [hc33_20]; decide) (by rw [hc33_20]; decide) (by rw [hc33_20]; rfl) rfl ?_
      refine hl_aload_n (i := 1) d295_820 rfl rfl (by decide) ?_
      refine hl_aload_n (i := 0) d295_821 rfl rfl (by decide) ?_
      refine hl_iload_n (i := 3) d295_822 rfl rfl ?_
      refine hl_iconst d295_823 ki1 ?_
      refine hl_iadd d295_824 ?_
      obtain ⟨hb, h⟩ := hl_gd h
      refine hl_ialR d295_825 (hs500 X) (hl_b_in hb) ?_
      refine hl_aload_n (i := 0) d295_826 rfl rfl (by decide) ?_
      refine hl_iload_n (i := 3) d295_827 rfl rfl ?_
      refine hl_iconst d295_828 ki2 ?_
      refine hl_iadd d295_829 ?_
      obtain ⟨hb, h⟩ := hl_gd h
      refine hl_ialR d295_830 (hs500 X) (hl_b_in hb) ?_
      refine hl_aload_n (i := 0) d295_831 rfl rfl (by decide) ?_
      refine hl_iload_n (i := 3) d295_832 rfl rfl ?_
      refine hl_iconst d295_833 ki3 ?_
      refine hl_iadd d295_834 ?_
      obtain ⟨hb, h⟩ := hl_gd h
      refine hl_ialR d295_835 (hs500 X) (hl_b_in hb) ?_
      obtain ⟨x37, hx37, h⟩ := hl_bind h
      refine hl_cVi (D := (D + 48)) (z := y176) (n := 3) (av := [.int (X.2 (s.1 + 1).toNatClampNeg), .int (X.2 (s.1 + 2).toNatClampNeg), .int (X.2 (s.1 + 3).toNatClampNeg)]) (st := []) d295_836 mlLaw_101 rfl (Nat.le_of_ble_eq_true rfl) (Nat.le_of_ble_eq_true rfl) rc0 ((p_X_least D (X.2 (s.1 + 1).toNatClampNeg) (X.2 (s.1 + 2).toNatClampNeg) (X.2 (s.1 + 3).toNatClampNeg) s.2 hx37).dle (by omega)) ?_
      refine hl_aload_n (i := 2) d295_839 rfl rfl (by decide) ?_
      refine hl_aload_n (i := 0) d295_840 rfl rfl (by decide) ?_
      refine hl_iload_n (i := 3) d295_841 rfl rfl ?_
      refine hl_iconst d295_842 ki1 ?_
      refine hl_iadd d295_843 ?_
      obtain ⟨hb, h⟩ := hl_gd h
      refine hl_ialR d295_844 (hs500 X) (hl_b_in hb) ?_
      refine hl_aload_n (i := 0) d295_845 rfl rfl (by decide) ?_
      refine hl_iload_n (i := 3) d295_846 rfl rfl ?_
      refine hl_iconst d295_847 ki2 ?_
      refine hl_iadd d295_848 ?_
      obtain ⟨hb, h⟩ := hl_gd h
      refine hl_ialR d295_849 (hs500 X) (hl_b_in hb) ?_
      refine hl_aload_n (i := 0) d295_850 rfl rfl (by decide) ?_
      refine hl_iload_n (i := 3) d295_851 rfl rfl ?_
      refine hl_iconst d295_852 ki3 ?_
      refine hl_iadd d295_853 ?_
      obtain ⟨hb, h⟩ := hl_gd h
      refine hl_ialR d295_854 (hs500 X) (hl_b_in hb) ?_
      obtain ⟨x38, hx38, h⟩ := hl_bind h
      refine hl_cVi (D := (D + 48)) (z := y184) (n := 3) (av := [.int (X.2 (s.1 + 1).toNatClampNeg), .int (X.2 (s.1 + 2).toNatClampNeg), .int (X.2 (s.1 + 3).toNatClampNeg)]) (st := [.int x37.1]) d295_855 mlLaw_104 rfl (Nat.le_of_ble_eq_true rfl) (Nat.le_of_ble_eq_true rfl) rc64 ((p_M_least D (X.2 (s.1 + 1).toNatClampNeg) (X.2 (s.1 + 2).toNatClampNeg) (X.2 (s.1 + 3).toNatClampNeg) x37.2 hx38).dle (by omega)) ?_
      refine hl_icmp_eq (tg := 1216) d295_858 rfl (fun hc => ?_) (fun hc => ?_)
      · have h := hl_pos hc h
        refine hl_iinc (ls2 := [(3, .int (s.1 + 6)), (0, .ref 500), (1, .ref 0), (2, .ref 64)]) d295_1216 rfl kx6 (by decide) rfl ?_
        refine hl_goto (tg := 18) d295_1219 rfl ?_
        have h := Option.some.inj h
        subst h
        exact hl_loc (k1 (s.1 + 6) x38.2 rfl) ⟨rfl, rfl, rfl, rfl, trivial⟩
      · have h := hl_neg hc h
        refine hl_iconst d295_861 ki0 ?_
        have h := Option.some.inj h
        subst h
        obtain ⟨e1, e2⟩ := kr 0 x38.2 rfl
        subst e1; subst e2
        exact hl_zret d295_862 rfl (by decide)
    have h := hl_neg hc33_20 h
    by_cases hc33_21 : ((X.2 s.1.toNatClampNeg) &&& 63) = 21
    · have h := hl_pos hc33_21 h
      refine hl_tabIn (off := 830) (tg := 863) d295_33 (by rw [hc33_21]; decide) (by rw [hc33_21]; decide) (by rw [hc33_21]; rfl) rfl ?_
      refine hl_aload_n (i := 1) d295_863 rfl rfl (by decide) ?_
      refine hl_aload_n (i := 0) d295_864 rfl rfl (by decide) ?_
      refine hl_iload_n (i := 3) d295_865 rfl rfl ?_
      refine hl_iconst d295_866 ki1 ?_
      refine hl_iadd d295_867 ?_
      obtain ⟨hb, h⟩ := hl_gd h
      refine hl_ialR d295_868 (hs500 X) (hl_b_in hb) ?_
      refine hl_aload_n (i := 0) d295_869 rfl rfl (by decide) ?_
      refine hl_iload_n (i := 3) d295_870 rfl rfl ?_
      refine hl_iconst d295_871 ki2 ?_
      refine hl_iadd d295_872 ?_
      obtain ⟨hb, h⟩ := hl_gd h
      refine hl_ialR d295_873 (hs500 X) (hl_b_in hb) ?_
      obtain ⟨x39, hx39, h⟩ := hl_bind h
      refine hl_cVi (D := (D + 48)) (z := y190) (n := 2) (av := [.int (X.2 (s.1 + 1).toNatClampNeg), .int (X.2 (s.1 + 2).toNatClampNeg)]) (st := []) d295_874 mlLaw_105 rfl (Nat.le_of_ble_eq_true rfl) (Nat.le_of_ble_eq_true rfl) rc0 ((p_X_soon D (X.2 (s.1 + 1).toNatClampNeg) (X.2 (s.1 + 2).toNatClampNeg) s.2 hx39).dle (by omega)) ?_
      refine hl_aload_n (i := 2) d295_877 rfl rfl (by decide) ?_
      refine hl_aload_n (i := 0) d295_878 rfl rfl (by decide) ?_
      refine hl_iload_n (i := 3) d295_879 rfl rfl ?_
      refine hl_iconst d295_880 ki1 ?_
      refine hl_iadd d295_881 ?_
      obtain ⟨hb, h⟩ := hl_gd h
      refine hl_ialR d295_882 (hs500 X) (hl_b_in hb) ?_
      refine hl_aload_n (i := 0) d295_883 rfl rfl (by decide) ?_
      refine hl_iload_n (i := 3) d295_884 rfl rfl ?_
      refine hl_iconst d295_885 ki2 ?_
      refine hl_iadd d295_886 ?_
      obtain ⟨hb, h⟩ := hl_gd h
      refine hl_ialR d295_887 (hs500 X) (hl_b_in hb) ?_
      obtain ⟨x40, hx40, h⟩ := hl_bind h
      refine hl_cVi (D := (D + 48)) (z := y192) (n := 2) (av := [.int (X.2 (s.1 + 1).toNatClampNeg), .int (X.2 (s.1 + 2).toNatClampNeg)]) (st := [.int x39.1]) d295_888 mlLaw_108 rfl (Nat.le_of_ble_eq_true rfl) (Nat.le_of_ble_eq_true rfl) rc64 ((p_M_soon D (X.2 (s.1 + 1).toNatClampNeg) (X.2 (s.1 + 2).toNatClampNeg) x39.2 hx40).dle (by omega)) ?_
      refine hl_icmp_eq (tg := 1216) d295_891 rfl (fun hc => ?_) (fun hc => ?_)
      · have h := hl_pos hc h
        refine hl_iinc (ls2 := [(3, .int (s.1 + 6)), (0, .ref 500), (1, .ref 0), (2, .ref 64)]) d295_1216 rfl kx6 (by decide) rfl ?_
        refine hl_goto (tg := 18) d295_1219 rfl ?_
        have h := Option.some.inj h
        subst h
        exact hl_loc (k1 (s.1 + 6) x40.2 rfl) ⟨rfl, rfl, rfl, rfl, trivial⟩
      · have h := hl_neg hc h
        refine hl_iconst d295_894 ki0 ?_
        have h := Option.some.inj h
        subst h
        obtain ⟨e1, e2⟩ := kr 0 x40.2 rfl
        subst e1; subst e2
        exact hl_zret d295_895 rfl (by decide)
    have h := hl_neg hc33_21 h
    by_cases hc33_22 : ((X.2 s.1.toNatClampNeg) &&& 63) = 22
    · have h := hl_pos hc33_22 h
      refine hl_tabIn (off := 863) (tg := 896) d295_33 (by rw [hc33_22]; decide) (by rw [hc33_22]; decide) (by rw [hc33_22]; rfl) rfl ?_
      refine hl_aload_n (i := 1) d295_896 rfl rfl (by decide) ?_
      refine hl_aload_n (i := 0) d295_897 rfl rfl (by decide) ?_
      refine hl_iload_n (i := 3) d295_898 rfl rfl ?_
      refine hl_iconst d295_899 ki1 ?_
      refine hl_iadd d295_900 ?_
      obtain ⟨hb, h⟩ := hl_gd h
      refine hl_ialR d295_901 (hs500 X) (hl_b_in hb) ?_
      refine hl_aload_n (i := 0) d295_902 rfl rfl (by decide) ?_
      refine hl_iload_n (i := 3) d295_903 rfl rfl ?_
      refine hl_iconst d295_904 ki2 ?_
      refine hl_iadd d295_905 ?_
      obtain ⟨hb, h⟩ := hl_gd h
      refine hl_ialR d295_906 (hs500 X) (hl_b_in hb) ?_
      refine hl_aload_n (i := 0) d295_907 rfl rfl (by decide) ?_
      refine hl_iload_n (i := 3) d295_908 rfl rfl ?_
      refine hl_iconst d295_909 ki3 ?_
      refine hl_iadd d295_910 ?_
      obtain ⟨hb, h⟩ := hl_gd h
      refine hl_ialR d295_911 (hs500 X) (hl_b_in hb) ?_
      refine hl_aload_n (i := 0) d295_912 rfl rfl (by decide) ?_
      refine hl_iload_n (i := 3) d295_913 rfl rfl ?_
      refine hl_iconst d295_914 ki4 ?_
      refine hl_iadd d295_915 ?_
      obtain ⟨hb, h⟩ := hl_gd h
      refine hl_ialR d295_916 (hs500 X) (hl_b_in hb) ?_
      obtain ⟨x41, hx41, h⟩ := hl_bind h
      refine hl_cVi (D := (D + 48)) (z := y193) (n := 4) (av := [.int (X.2 (s.1 + 1).toNatClampNeg), .int (X.2 (s.1 + 2).toNatClampNeg), .int (X.2 (s.1 + 3).toNatClampNeg), .int (X.2 (s.1 + 4).toNatClampNeg)]) (st := []) d295_917 mlLaw_109 rfl (Nat.le_of_ble_eq_true rfl) (Nat.le_of_ble_eq_true rfl) rc0 ((p_X_way D (X.2 (s.1 + 1).toNatClampNeg) (X.2 (s.1 + 2).toNatClampNeg) (X.2 (s.1 + 3).toNatClampNeg) (X.2 (s.1 + 4).toNatClampNeg) s.2 hx41).dle (by omega)) ?_
      refine hl_aload_n (i := 2) d295_920 rfl rfl (by decide) ?_
      refine hl_aload_n (i := 0) d295_921 rfl rfl (by decide) ?_
      refine hl_iload_n (i := 3) d295_922 rfl rfl ?_
      refine hl_iconst d295_923 ki1 ?_
      refine hl_iadd d295_924 ?_
      obtain ⟨hb, h⟩ := hl_gd h
      refine hl_ialR d295_925 (hs500 X) (hl_b_in hb) ?_
      refine hl_aload_n (i := 0) d295_926 rfl rfl (by decide) ?_
      refine hl_iload_n (i := 3) d295_927 rfl rfl ?_
      refine hl_iconst d295_928 ki2 ?_
      refine hl_iadd d295_929 ?_
      obtain ⟨hb, h⟩ := hl_gd h
      refine hl_ialR d295_930 (hs500 X) (hl_b_in hb) ?_
      refine hl_aload_n (i := 0) d295_931 rfl rfl (by decide) ?_
      refine hl_iload_n (i := 3) d295_932 rfl rfl ?_
      refine hl_iconst d295_933 ki3 ?_
      refine hl_iadd d295_934 ?_
      obtain ⟨hb, h⟩ := hl_gd h
      refine hl_ialR d295_935 (hs500 X) (hl_b_in hb) ?_
      refine hl_aload_n (i := 0) d295_936 rfl rfl (by decide) ?_
      refine hl_iload_n (i := 3) d295_937 rfl rfl ?_
      refine hl_iconst d295_938 ki4 ?_
      refine hl_iadd d295_939 ?_
      obtain ⟨hb, h⟩ := hl_gd h
      refine hl_ialR d295_940 (hs500 X) (hl_b_in hb) ?_
      obtain ⟨x42, hx42, h⟩ := hl_bind h
      refine hl_cVi (D := (D + 48)) (z := y197) (n := 4) (av := [.int (X.2 (s.1 + 1).toNatClampNeg), .int (X.2 (s.1 + 2).toNatClampNeg), .int (X.2 (s.1 + 3).toNatClampNeg), .int (X.2 (s.1 + 4).toNatClampNeg)]) (st := [.int x41.1]) d295_941 mlLaw_113 rfl (Nat.le_of_ble_eq_true rfl) (Nat.le_of_ble_eq_true rfl) rc64 ((p_M_way D (X.2 (s.1 + 1).toNatClampNeg) (X.2 (s.1 + 2).toNatClampNeg) (X.2 (s.1 + 3).toNatClampNeg) (X.2 (s.1 + 4).toNatClampNeg) x41.2 hx42).dle (by omega)) ?_
      refine hl_icmp_eq (tg := 1216) d295_944 rfl (fun hc => ?_) (fun hc => ?_)
      · have h := hl_pos hc h
        refine hl_iinc (ls2 := [(3, .int (s.1 + 6)), (0, .ref 500), (1, .ref 0), (2, .ref 64)]) d295_1216 rfl kx6 (by decide) rfl ?_
        refine hl_goto (tg := 18) d295_1219 rfl ?_
        have h := Option.some.inj h
        subst h
        exact hl_loc (k1 (s.1 + 6) x42.2 rfl) ⟨rfl, rfl, rfl, rfl, trivial⟩
      · have h := hl_neg hc h
        refine hl_iconst d295_947 ki0 ?_
        have h := Option.some.inj h
        subst h
        obtain ⟨e1, e2⟩ := kr 0 x42.2 rfl
        subst e1; subst e2
        exact hl_zret d295_948 rfl (by decide)
    have h := hl_neg hc33_22 h
    by_cases hc33_23 : ((X.2 s.1.toNatClampNeg) &&& 63) = 23
    · have h := hl_pos hc33_23 h
      refine hl_tabIn (off := 916) (tg := 949) d295_33 (by rw [hc33_23]; decide) (by rw [hc33_23]; decide) (by rw [hc33_23]; rfl) rfl ?_
      refine hl_aload_n (i := 1) d295_949 rfl rfl (by decide) ?_
      refine hl_aload_n (i := 0) d295_950 rfl rfl (by decide) ?_
      refine hl_iload_n (i := 3) d295_951 rfl rfl ?_
      refine hl_iconst d295_952 ki1 ?_
      refine hl_iadd d295_953 ?_
      obtain ⟨hb, h⟩ := hl_gd h
      refine hl_ialR d295_954 (hs500 X) (hl_b_in hb) ?_
      refine hl_aload_n (i := 0) d295_955 rfl rfl (by decide) ?_
      refine hl_iload_n (i := 3) d295_956 rfl rfl ?_
      refine hl_iconst d295_957 ki2 ?_
      refine hl_iadd d295_958 ?_
      obtain ⟨hb, h⟩ := hl_gd h
      refine hl_ialR d295_959 (hs500 X) (hl_b_in hb) ?_
      obtain ⟨x43, hx43, h⟩ := hl_bind h
      refine hl_cVi (D := (D + 48)) (z := y200) (n := 2) (av := [.int (X.2 (s.1 + 1).toNatClampNeg), .int (X.2 (s.1 + 2).toNatClampNeg)]) (st := []) d295_960 mlLaw_114 rfl (Nat.le_of_ble_eq_true rfl) (Nat.le_of_ble_eq_true rfl) rc0 ((p_X_steps D (X.2 (s.1 + 1).toNatClampNeg) (X.2 (s.1 + 2).toNatClampNeg) s.2 hx43).dle (by omega)) ?_
      refine hl_aload_n (i := 2) d295_963 rfl rfl (by decide) ?_
      refine hl_aload_n (i := 0) d295_964 rfl rfl (by decide) ?_
      refine hl_iload_n (i := 3) d295_965 rfl rfl ?_
      refine hl_iconst d295_966 ki1 ?_
      refine hl_iadd d295_967 ?_
      obtain ⟨hb, h⟩ := hl_gd h
      refine hl_ialR d295_968 (hs500 X) (hl_b_in hb) ?_
      refine hl_aload_n (i := 0) d295_969 rfl rfl (by decide) ?_
      refine hl_iload_n (i := 3) d295_970 rfl rfl ?_
      refine hl_iconst d295_971 ki2 ?_
      refine hl_iadd d295_972 ?_
      obtain ⟨hb, h⟩ := hl_gd h
      refine hl_ialR d295_973 (hs500 X) (hl_b_in hb) ?_
      obtain ⟨x44, hx44, h⟩ := hl_bind h
      refine hl_cVi (D := (D + 48)) (z := y202) (n := 2) (av := [.int (X.2 (s.1 + 1).toNatClampNeg), .int (X.2 (s.1 + 2).toNatClampNeg)]) (st := [.int x43.1]) d295_974 mlLaw_117 rfl (Nat.le_of_ble_eq_true rfl) (Nat.le_of_ble_eq_true rfl) rc64 ((p_M_steps D (X.2 (s.1 + 1).toNatClampNeg) (X.2 (s.1 + 2).toNatClampNeg) x43.2 hx44).dle (by omega)) ?_
      refine hl_icmp_eq (tg := 1216) d295_977 rfl (fun hc => ?_) (fun hc => ?_)
      · have h := hl_pos hc h
        refine hl_iinc (ls2 := [(3, .int (s.1 + 6)), (0, .ref 500), (1, .ref 0), (2, .ref 64)]) d295_1216 rfl kx6 (by decide) rfl ?_
        refine hl_goto (tg := 18) d295_1219 rfl ?_
        have h := Option.some.inj h
        subst h
        exact hl_loc (k1 (s.1 + 6) x43.2 rfl) ⟨rfl, rfl, rfl, rfl, trivial⟩
      · have h := hl_neg hc h
        refine hl_iconst d295_980 ki0 ?_
        have h := Option.some.inj h
        subst h
        obtain ⟨e1, e2⟩ := kr 0 x43.2 rfl
        subst e1; subst e2
        exact hl_zret d295_981 rfl (by decide)
    have h := hl_neg hc33_23 h
    by_cases hc33_24 : ((X.2 s.1.toNatClampNeg) &&& 63) = 24
    · have h := hl_pos hc33_24 h
      refine hl_tabIn (off := 949) (tg := 982) d295_33 (by rw [hc33_24]; decide) (by rw [hc33_24]; decide) (by rw [hc33_24]; rfl) rfl ?_
      refine hl_aload_n (i := 1) d295_982 rfl rfl (by decide) ?_
      obtain ⟨x45, hx45, h⟩ := hl_bind h
      refine hl_cVi (D := (D + 48)) (z := y203) (n := 0) (av := []) (st := []) d295_983 mlLaw_118 rfl (Nat.le_of_ble_eq_true rfl) (Nat.le_of_ble_eq_true rfl) rc0 ((p_X_paint D s.2 hx45).dle (by omega)) ?_
      refine hl_aload_n (i := 2) d295_986 rfl rfl (by decide) ?_
      obtain ⟨x46, hx46, h⟩ := hl_bind h
      refine hl_cVi (D := (D + 48)) (z := y204) (n := 0) (av := []) (st := [.int x45.1]) d295_987 mlLaw_122 rfl (Nat.le_of_ble_eq_true rfl) (Nat.le_of_ble_eq_true rfl) rc64 ((p_M_paint D x45.2 hx46).dle (by omega)) ?_
      refine hl_icmp_eq (tg := 1216) d295_990 rfl (fun hc => ?_) (fun hc => ?_)
      · have h := hl_pos hc h
        refine hl_iinc (ls2 := [(3, .int (s.1 + 6)), (0, .ref 500), (1, .ref 0), (2, .ref 64)]) d295_1216 rfl kx6 (by decide) rfl ?_
        refine hl_goto (tg := 18) d295_1219 rfl ?_
        have h := Option.some.inj h
        subst h
        exact hl_loc (k1 (s.1 + 6) x46.2 rfl) ⟨rfl, rfl, rfl, rfl, trivial⟩
      · have h := hl_neg hc h
        refine hl_iconst d295_993 ki0 ?_
        have h := Option.some.inj h
        subst h
        obtain ⟨e1, e2⟩ := kr 0 x46.2 rfl
        subst e1; subst e2
        exact hl_zret d295_994 rfl (by decide)
    have h := hl_neg hc33_24 h
    by_cases hc33_25 : ((X.2 s.1.toNatClampNeg) &&& 63) = 25
    · have h := hl_pos hc33_25 h
      refine hl_tabIn (off := 962) (tg := 995) d295_33 (by rw [hc33_25]; decide) (by rw [hc33_25]; decide) (by rw [hc33_25]; rfl) rfl ?_
      refine hl_aload_n (i := 1) d295_995 rfl rfl (by decide) ?_
      refine hl_aload_n (i := 0) d295_996 rfl rfl (by decide) ?_
      refine hl_iload_n (i := 3) d295_997 rfl rfl ?_
      refine hl_iconst d295_998 ki1 ?_
      refine hl_iadd d295_999 ?_
      obtain ⟨hb, h⟩ := hl_gd h
      refine hl_ialR d295_1000 (hs500 X) (hl_b_in hb) ?_
      refine hl_aload_n (i := 0) d295_1001 rfl rfl (by decide) ?_
      refine hl_iload_n (i := 3) d295_1002 rfl rfl ?_
      refine hl_iconst d295_1003 ki2 ?_
      refine hl_iadd d295_1004 ?_
      obtain ⟨hb, h⟩ := hl_gd h
      refine hl_ialR d295_1005 (hs500 X) (hl_b_in hb) ?_
      obtain ⟨x47, hx47, h⟩ := hl_bind h
      refine hl_cVi (D := (D + 48)) (z := y205) (n := 2) (av := [.int (X.2 (s.1 + 1).toNatClampNeg), .int (X.2 (s.1 + 2).toNatClampNeg)]) (st := []) d295_1006 mlLaw_123 rfl (Nat.le_of_ble_eq_true rfl) (Nat.le_of_ble_eq_true rfl) rc0 ((p_X_missed D (X.2 (s.1 + 1).toNatClampNeg) (X.2 (s.1 + 2).toNatClampNeg) s.2 hx47).dle (by omega)) ?_
      refine hl_aload_n (i := 2) d295_1009 rfl rfl (by decide) ?_
      refine hl_aload_n (i := 0) d295_1010 rfl rfl (by decide) ?_
      refine hl_iload_n (i := 3) d295_1011 rfl rfl ?_
      refine hl_iconst d295_1012 ki1 ?_
      refine hl_iadd d295_1013 ?_
      obtain ⟨hb, h⟩ := hl_gd h
      refine hl_ialR d295_1014 (hs500 X) (hl_b_in hb) ?_
      refine hl_aload_n (i := 0) d295_1015 rfl rfl (by decide) ?_
      refine hl_iload_n (i := 3) d295_1016 rfl rfl ?_
      refine hl_iconst d295_1017 ki2 ?_
      refine hl_iadd d295_1018 ?_
      obtain ⟨hb, h⟩ := hl_gd h
      refine hl_ialR d295_1019 (hs500 X) (hl_b_in hb) ?_
      obtain ⟨x48, hx48, h⟩ := hl_bind h
      refine hl_cVi (D := (D + 48)) (z := y208) (n := 2) (av := [.int (X.2 (s.1 + 1).toNatClampNeg), .int (X.2 (s.1 + 2).toNatClampNeg)]) (st := [.int x47.1]) d295_1020 mlLaw_126 rfl (Nat.le_of_ble_eq_true rfl) (Nat.le_of_ble_eq_true rfl) rc64 ((p_M_missed D (X.2 (s.1 + 1).toNatClampNeg) (X.2 (s.1 + 2).toNatClampNeg) x47.2 hx48).dle (by omega)) ?_
      refine hl_icmp_eq (tg := 1216) d295_1023 rfl (fun hc => ?_) (fun hc => ?_)
      · have h := hl_pos hc h
        refine hl_iinc (ls2 := [(3, .int (s.1 + 6)), (0, .ref 500), (1, .ref 0), (2, .ref 64)]) d295_1216 rfl kx6 (by decide) rfl ?_
        refine hl_goto (tg := 18) d295_1219 rfl ?_
        have h := Option.some.inj h
        subst h
        exact hl_loc (k1 (s.1 + 6) x48.2 rfl) ⟨rfl, rfl, rfl, rfl, trivial⟩
      · have h := hl_neg hc h
        refine hl_iconst d295_1026 ki0 ?_
        have h := Option.some.inj h
        subst h
        obtain ⟨e1, e2⟩ := kr 0 x48.2 rfl
        subst e1; subst e2
        exact hl_zret d295_1027 rfl (by decide)
    have h := hl_neg hc33_25 h
    by_cases hc33_26 : ((X.2 s.1.toNatClampNeg) &&& 63) = 26
    · have h := hl_pos hc33_26 h
      refine hl_tabIn (off := 995) (tg := 1028) d295_33 (by rw [hc33_26]; decide) (by rw [hc33_26]; decide) (by rw [hc33_26]; rfl) rfl ?_
      refine hl_aload_n (i := 1) d295_1028 rfl rfl (by decide) ?_
      refine hl_aload_n (i := 0) d295_1029 rfl rfl (by decide) ?_
      refine hl_iload_n (i := 3) d295_1030 rfl rfl ?_
      refine hl_iconst d295_1031 ki1 ?_
      refine hl_iadd d295_1032 ?_
      obtain ⟨hb, h⟩ := hl_gd h
      refine hl_ialR d295_1033 (hs500 X) (hl_b_in hb) ?_
      obtain ⟨x49, hx49, h⟩ := hl_bind h
      refine hl_cVi (D := (D + 48)) (z := y211) (n := 1) (av := [.int (X.2 (s.1 + 1).toNatClampNeg)]) (st := []) d295_1034 mlLaw_127 rfl (Nat.le_of_ble_eq_true rfl) (Nat.le_of_ble_eq_true rfl) rc0 ((p_X_alike D (X.2 (s.1 + 1).toNatClampNeg) s.2 hx49).dle (by omega)) ?_
      refine hl_aload_n (i := 2) d295_1037 rfl rfl (by decide) ?_
      refine hl_aload_n (i := 0) d295_1038 rfl rfl (by decide) ?_
      refine hl_iload_n (i := 3) d295_1039 rfl rfl ?_
      refine hl_iconst d295_1040 ki1 ?_
      refine hl_iadd d295_1041 ?_
      obtain ⟨hb, h⟩ := hl_gd h
      refine hl_ialR d295_1042 (hs500 X) (hl_b_in hb) ?_
      obtain ⟨x50, hx50, h⟩ := hl_bind h
      refine hl_cVi (D := (D + 48)) (z := y213) (n := 1) (av := [.int (X.2 (s.1 + 1).toNatClampNeg)]) (st := [.int x49]) d295_1043 mlLaw_130 rfl (Nat.le_of_ble_eq_true rfl) (Nat.le_of_ble_eq_true rfl) rc64 ((p_M_alike D (X.2 (s.1 + 1).toNatClampNeg) s.2 hx50).dle (by omega)) ?_
      refine hl_icmp_eq (tg := 1216) d295_1046 rfl (fun hc => ?_) (fun hc => ?_)
      · have h := hl_pos hc h
        refine hl_iinc (ls2 := [(3, .int (s.1 + 6)), (0, .ref 500), (1, .ref 0), (2, .ref 64)]) d295_1216 rfl kx6 (by decide) rfl ?_
        refine hl_goto (tg := 18) d295_1219 rfl ?_
        have h := Option.some.inj h
        subst h
        exact hl_loc (k1 (s.1 + 6) s.2 rfl) ⟨rfl, rfl, rfl, rfl, trivial⟩
      · have h := hl_neg hc h
        refine hl_iconst d295_1049 ki0 ?_
        have h := Option.some.inj h
        subst h
        obtain ⟨e1, e2⟩ := kr 0 s.2 rfl
        subst e1; subst e2
        exact hl_zret d295_1050 rfl (by decide)
    have h := hl_neg hc33_26 h
    by_cases hc33_27 : ((X.2 s.1.toNatClampNeg) &&& 63) = 27
    · have h := hl_pos hc33_27 h
      refine hl_tabIn (off := 1018) (tg := 1051) d295_33 (by rw [hc33_27]; decide) (by rw [hc33_27]; decide) (by rw [hc33_27]; rfl) rfl ?_
      refine hl_aload_n (i := 1) d295_1051 rfl rfl (by decide) ?_
      refine hl_aload_n (i := 0) d295_1052 rfl rfl (by decide) ?_
      refine hl_iload_n (i := 3) d295_1053 rfl rfl ?_
      refine hl_iconst d295_1054 ki1 ?_
      refine hl_iadd d295_1055 ?_
      obtain ⟨hb, h⟩ := hl_gd h
      refine hl_ialR d295_1056 (hs500 X) (hl_b_in hb) ?_
      obtain ⟨x51, hx51, h⟩ := hl_bind h
      refine hl_cVi (D := (D + 48)) (z := y215) (n := 1) (av := [.int (X.2 (s.1 + 1).toNatClampNeg)]) (st := []) d295_1057 mlLaw_131 rfl (Nat.le_of_ble_eq_true rfl) (Nat.le_of_ble_eq_true rfl) rc0 ((p_X_teach D (X.2 (s.1 + 1).toNatClampNeg) s.2 hx51).dle (by omega)) ?_
      refine hl_aload_n (i := 2) d295_1060 rfl rfl (by decide) ?_
      refine hl_aload_n (i := 0) d295_1061 rfl rfl (by decide) ?_
      refine hl_iload_n (i := 3) d295_1062 rfl rfl ?_
      refine hl_iconst d295_1063 ki1 ?_
      refine hl_iadd d295_1064 ?_
      obtain ⟨hb, h⟩ := hl_gd h
      refine hl_ialR d295_1065 (hs500 X) (hl_b_in hb) ?_
      obtain ⟨x52, hx52, h⟩ := hl_bind h
      refine hl_cVi (D := (D + 48)) (z := y219) (n := 1) (av := [.int (X.2 (s.1 + 1).toNatClampNeg)]) (st := [.int x51.1]) d295_1066 mlLaw_134 rfl (Nat.le_of_ble_eq_true rfl) (Nat.le_of_ble_eq_true rfl) rc64 ((p_M_teach D (X.2 (s.1 + 1).toNatClampNeg) x51.2 hx52).dle (by omega)) ?_
      refine hl_icmp_eq (tg := 1216) d295_1069 rfl (fun hc => ?_) (fun hc => ?_)
      · have h := hl_pos hc h
        refine hl_iinc (ls2 := [(3, .int (s.1 + 6)), (0, .ref 500), (1, .ref 0), (2, .ref 64)]) d295_1216 rfl kx6 (by decide) rfl ?_
        refine hl_goto (tg := 18) d295_1219 rfl ?_
        have h := Option.some.inj h
        subst h
        exact hl_loc (k1 (s.1 + 6) x52.2 rfl) ⟨rfl, rfl, rfl, rfl, trivial⟩
      · have h := hl_neg hc h
        refine hl_iconst d295_1072 ki0 ?_
        have h := Option.some.inj h
        subst h
        obtain ⟨e1, e2⟩ := kr 0 x52.2 rfl
        subst e1; subst e2
        exact hl_zret d295_1073 rfl (by decide)
    have h := hl_neg hc33_27 h
    by_cases hc33_28 : ((X.2 s.1.toNatClampNeg) &&& 63) = 28
    · have h := hl_pos hc33_28 h
      refine hl_tabIn (off := 1041) (tg := 1074) d295_33 (by rw [hc33_28]; decide) (by rw [hc33_28]; decide) (by rw [hc33_28]; rfl) rfl ?_
      refine hl_aload_n (i := 1) d295_1074 rfl rfl (by decide) ?_
      refine hl_aload_n (i := 0) d295_1075 rfl rfl (by decide) ?_
      refine hl_iload_n (i := 3) d295_1076 rfl rfl ?_
      refine hl_iconst d295_1077 ki1 ?_
      refine hl_iadd d295_1078 ?_
      obtain ⟨hb, h⟩ := hl_gd h
      refine hl_ialR d295_1079 (hs500 X) (hl_b_in hb) ?_
      refine hl_aload_n (i := 0) d295_1080 rfl rfl (by decide) ?_
      refine hl_iload_n (i := 3) d295_1081 rfl rfl ?_
      refine hl_iconst d295_1082 ki2 ?_
      refine hl_iadd d295_1083 ?_
      obtain ⟨hb, h⟩ := hl_gd h
      refine hl_ialR d295_1084 (hs500 X) (hl_b_in hb) ?_
      obtain ⟨x53, hx53, h⟩ := hl_bind h
      refine hl_cVi (D := (D + 48)) (z := y221) (n := 2) (av := [.int (X.2 (s.1 + 1).toNatClampNeg), .int (X.2 (s.1 + 2).toNatClampNeg)]) (st := []) d295_1085 mlLaw_135 rfl (Nat.le_of_ble_eq_true rfl) (Nat.le_of_ble_eq_true rfl) rc0 ((p_X_lamp D (X.2 (s.1 + 1).toNatClampNeg) (X.2 (s.1 + 2).toNatClampNeg) s.2 hx53).dle (by omega)) ?_
      refine hl_aload_n (i := 2) d295_1088 rfl rfl (by decide) ?_
      refine hl_aload_n (i := 0) d295_1089 rfl rfl (by decide) ?_
      refine hl_iload_n (i := 3) d295_1090 rfl rfl ?_
      refine hl_iconst d295_1091 ki1 ?_
      refine hl_iadd d295_1092 ?_
      obtain ⟨hb, h⟩ := hl_gd h
      refine hl_ialR d295_1093 (hs500 X) (hl_b_in hb) ?_
      refine hl_aload_n (i := 0) d295_1094 rfl rfl (by decide) ?_
      refine hl_iload_n (i := 3) d295_1095 rfl rfl ?_
      refine hl_iconst d295_1096 ki2 ?_
      refine hl_iadd d295_1097 ?_
      obtain ⟨hb, h⟩ := hl_gd h
      refine hl_ialR d295_1098 (hs500 X) (hl_b_in hb) ?_
      obtain ⟨x54, hx54, h⟩ := hl_bind h
      refine hl_cVi (D := (D + 48)) (z := y222) (n := 2) (av := [.int (X.2 (s.1 + 1).toNatClampNeg), .int (X.2 (s.1 + 2).toNatClampNeg)]) (st := [.int x53.1]) d295_1099 mlLaw_139 rfl (Nat.le_of_ble_eq_true rfl) (Nat.le_of_ble_eq_true rfl) rc64 ((p_M_lamp D (X.2 (s.1 + 1).toNatClampNeg) (X.2 (s.1 + 2).toNatClampNeg) x53.2 hx54).dle (by omega)) ?_
      refine hl_icmp_eq (tg := 1216) d295_1102 rfl (fun hc => ?_) (fun hc => ?_)
      · have h := hl_pos hc h
        refine hl_iinc (ls2 := [(3, .int (s.1 + 6)), (0, .ref 500), (1, .ref 0), (2, .ref 64)]) d295_1216 rfl kx6 (by decide) rfl ?_
        refine hl_goto (tg := 18) d295_1219 rfl ?_
        have h := Option.some.inj h
        subst h
        exact hl_loc (k1 (s.1 + 6) x54.2 rfl) ⟨rfl, rfl, rfl, rfl, trivial⟩
      · have h := hl_neg hc h
        refine hl_iconst d295_1105 ki0 ?_
        have h := Option.some.inj h
        subst h
        obtain ⟨e1, e2⟩ := kr 0 x54.2 rfl
        subst e1; subst e2
        exact hl_zret d295_1106 rfl (by decide)
    have h := hl_neg hc33_28 h
    by_cases hc33_29 : ((X.2 s.1.toNatClampNeg) &&& 63) = 29
    · have h := hl_pos hc33_29 h
      refine hl_tabIn (off := 1074) (tg := 1107) d295_33 (by rw [hc33_29]; decide) (by rw [hc33_29]; decide) (by rw [hc33_29]; rfl) rfl ?_
      refine hl_aload_n (i := 1) d295_1107 rfl rfl (by decide) ?_
      refine hl_aload_n (i := 0) d295_1108 rfl rfl (by decide) ?_
      refine hl_iload_n (i := 3) d295_1109 rfl rfl ?_
      refine hl_iconst d295_1110 ki1 ?_
      refine hl_iadd d295_1111 ?_
      obtain ⟨hb, h⟩ := hl_gd h
      refine hl_ialR d295_1112 (hs500 X) (hl_b_in hb) ?_
      refine hl_aload_n (i := 0) d295_1113 rfl rfl (by decide) ?_
      refine hl_iload_n (i := 3) d295_1114 rfl rfl ?_
      refine hl_iconst d295_1115 ki2 ?_
      refine hl_iadd d295_1116 ?_
      obtain ⟨hb, h⟩ := hl_gd h
      refine hl_ialR d295_1117 (hs500 X) (hl_b_in hb) ?_
      obtain ⟨x55, hx55, h⟩ := hl_bind h
      refine hl_cVi (D := (D + 48)) (z := y223) (n := 2) (av := [.int (X.2 (s.1 + 1).toNatClampNeg), .int (X.2 (s.1 + 2).toNatClampNeg)]) (st := []) d295_1118 mlLaw_140 rfl (Nat.le_of_ble_eq_true rfl) (Nat.le_of_ble_eq_true rfl) rc0 ((p_X_learn D (X.2 (s.1 + 1).toNatClampNeg) (X.2 (s.1 + 2).toNatClampNeg) s.2 hx55).dle (by omega)) ?_
      refine hl_aload_n (i := 2) d295_1121 rfl rfl (by decide) ?_
      refine hl_aload_n (i := 0) d295_1122 rfl rfl (by decide) ?_
      refine hl_iload_n (i := 3) d295_1123 rfl rfl ?_
      refine hl_iconst d295_1124 ki1 ?_
      refine hl_iadd d295_1125 ?_
      obtain ⟨hb, h⟩ := hl_gd h
      refine hl_ialR d295_1126 (hs500 X) (hl_b_in hb) ?_
      refine hl_aload_n (i := 0) d295_1127 rfl rfl (by decide) ?_
      refine hl_iload_n (i := 3) d295_1128 rfl rfl ?_
      refine hl_iconst d295_1129 ki2 ?_
      refine hl_iadd d295_1130 ?_
      obtain ⟨hb, h⟩ := hl_gd h
      refine hl_ialR d295_1131 (hs500 X) (hl_b_in hb) ?_
      obtain ⟨x56, hx56, h⟩ := hl_bind h
      refine hl_cVi (D := (D + 48)) (z := y225) (n := 2) (av := [.int (X.2 (s.1 + 1).toNatClampNeg), .int (X.2 (s.1 + 2).toNatClampNeg)]) (st := [.int x55.1]) d295_1132 mlLaw_143 rfl (Nat.le_of_ble_eq_true rfl) (Nat.le_of_ble_eq_true rfl) rc64 ((p_M_learn D (X.2 (s.1 + 1).toNatClampNeg) (X.2 (s.1 + 2).toNatClampNeg) x55.2 hx56).dle (by omega)) ?_
      refine hl_icmp_eq (tg := 1216) d295_1135 rfl (fun hc => ?_) (fun hc => ?_)
      · have h := hl_pos hc h
        refine hl_iinc (ls2 := [(3, .int (s.1 + 6)), (0, .ref 500), (1, .ref 0), (2, .ref 64)]) d295_1216 rfl kx6 (by decide) rfl ?_
        refine hl_goto (tg := 18) d295_1219 rfl ?_
        have h := Option.some.inj h
        subst h
        exact hl_loc (k1 (s.1 + 6) x56.2 rfl) ⟨rfl, rfl, rfl, rfl, trivial⟩
      · have h := hl_neg hc h
        refine hl_iconst d295_1138 ki0 ?_
        have h := Option.some.inj h
        subst h
        obtain ⟨e1, e2⟩ := kr 0 x56.2 rfl
        subst e1; subst e2
        exact hl_zret d295_1139 rfl (by decide)
    have h := hl_neg hc33_29 h
    by_cases hc33_30 : ((X.2 s.1.toNatClampNeg) &&& 63) = 30
    · have h := hl_pos hc33_30 h
      refine hl_tabIn (off := 1107) (tg := 1140) d295_33 (by rw [hc33_30]; decide) (by rw [hc33_30]; decide) (by rw [hc33_30]; rfl) rfl ?_
      refine hl_aload_n (i := 1) d295_1140 rfl rfl (by decide) ?_
      obtain ⟨x57, hx57, h⟩ := hl_bind h
      refine hl_cVi (D := (D + 48)) (z := y226) (n := 0) (av := []) (st := []) d295_1141 mlLaw_144 rfl (Nat.le_of_ble_eq_true rfl) (Nat.le_of_ble_eq_true rfl) rc0 ((p_X_undo D s.2 hx57).dle (by omega)) ?_
      refine hl_aload_n (i := 2) d295_1144 rfl rfl (by decide) ?_
      obtain ⟨x58, hx58, h⟩ := hl_bind h
      refine hl_cVi (D := (D + 48)) (z := y227) (n := 0) (av := []) (st := [.int x57.1]) d295_1145 mlLaw_147 rfl (Nat.le_of_ble_eq_true rfl) (Nat.le_of_ble_eq_true rfl) rc64 ((p_M_undo D x57.2 hx58).dle (by omega)) ?_
      refine hl_icmp_eq (tg := 1216) d295_1148 rfl (fun hc => ?_) (fun hc => ?_)
      · have h := hl_pos hc h
        refine hl_iinc (ls2 := [(3, .int (s.1 + 6)), (0, .ref 500), (1, .ref 0), (2, .ref 64)]) d295_1216 rfl kx6 (by decide) rfl ?_
        refine hl_goto (tg := 18) d295_1219 rfl ?_
        have h := Option.some.inj h
        subst h
        exact hl_loc (k1 (s.1 + 6) x58.2 rfl) ⟨rfl, rfl, rfl, rfl, trivial⟩
      · have h := hl_neg hc h
        refine hl_iconst d295_1151 ki0 ?_
        have h := Option.some.inj h
        subst h
        obtain ⟨e1, e2⟩ := kr 0 x58.2 rfl
        subst e1; subst e2
        exact hl_zret d295_1152 rfl (by decide)
    have h := hl_neg hc33_30 h
    by_cases hc33_31 : ((X.2 s.1.toNatClampNeg) &&& 63) = 31
    · have h := hl_pos hc33_31 h
      refine hl_tabIn (off := 1120) (tg := 1153) d295_33 (by rw [hc33_31]; decide) (by rw [hc33_31]; decide) (by rw [hc33_31]; rfl) rfl ?_
      refine hl_aload_n (i := 1) d295_1153 rfl rfl (by decide) ?_
      obtain ⟨x59, hx59, h⟩ := hl_bind h
      refine hl_cVl (D := (D + 48)) (z := y228) (n := 0) (av := []) (st := []) d295_1154 mlLaw_148 rfl (Nat.le_of_ble_eq_true rfl) (Nat.le_of_ble_eq_true rfl) rc0 ((p_X_ask D s.2 hx59).dle (by omega)) ?_
      refine hl_aload_n (i := 2) d295_1157 rfl rfl (by decide) ?_
      obtain ⟨x60, hx60, h⟩ := hl_bind h
      refine hl_cVl (D := (D + 48)) (z := y253) (n := 0) (av := []) (st := [.long x59.1]) d295_1158 mlLaw_152 rfl (Nat.le_of_ble_eq_true rfl) (Nat.le_of_ble_eq_true rfl) rc64 ((p_M_ask D x59.2 hx60).dle (by omega)) ?_
      refine hl_lc_eq (tg := 1216) d295_1161 d295_1162 rfl (fun hc => ?_) (fun hc => ?_)
      · have h := hl_pos hc h
        refine hl_iinc (ls2 := [(3, .int (s.1 + 6)), (0, .ref 500), (1, .ref 0), (2, .ref 64)]) d295_1216 rfl kx6 (by decide) rfl ?_
        refine hl_goto (tg := 18) d295_1219 rfl ?_
        have h := Option.some.inj h
        subst h
        exact hl_loc (k1 (s.1 + 6) x60.2 rfl) ⟨rfl, rfl, rfl, rfl, trivial⟩
      · have h := hl_neg hc h
        refine hl_iconst d295_1165 ki0 ?_
        have h := Option.some.inj h
        subst h
        obtain ⟨e1, e2⟩ := kr 0 x60.2 rfl
        subst e1; subst e2
        exact hl_zret d295_1166 rfl (by decide)
    have h := hl_neg hc33_31 h
    by_cases hc33_32 : ((X.2 s.1.toNatClampNeg) &&& 63) = 32
    · have h := hl_pos hc33_32 h
      refine hl_tabIn (off := 1134) (tg := 1167) d295_33 (by rw [hc33_32]; decide) (by rw [hc33_32]; decide) (by rw [hc33_32]; rfl) rfl ?_
      refine hl_aload_n (i := 1) d295_1167 rfl rfl (by decide) ?_
      obtain ⟨x61, hx61, h⟩ := hl_bind h
      refine hl_cVi (D := (D + 48)) (z := y282) (n := 0) (av := []) (st := []) d295_1168 mlLaw_153 rfl (Nat.le_of_ble_eq_true rfl) (Nat.le_of_ble_eq_true rfl) rc0 ((p_X_image D s.2 hx61).dle (by omega)) ?_
      refine hl_aload_n (i := 2) d295_1171 rfl rfl (by decide) ?_
      obtain ⟨x62, hx62, h⟩ := hl_bind h
      refine hl_cVi (D := (D + 48)) (z := y286) (n := 0) (av := []) (st := [.int x61.1]) d295_1172 mlLaw_156 rfl (Nat.le_of_ble_eq_true rfl) (Nat.le_of_ble_eq_true rfl) rc64 ((p_M_image D x61.2 hx62).dle (by omega)) ?_
      refine hl_icmp_eq (tg := 1216) d295_1175 rfl (fun hc => ?_) (fun hc => ?_)
      · have h := hl_pos hc h
        refine hl_iinc (ls2 := [(3, .int (s.1 + 6)), (0, .ref 500), (1, .ref 0), (2, .ref 64)]) d295_1216 rfl kx6 (by decide) rfl ?_
        refine hl_goto (tg := 18) d295_1219 rfl ?_
        have h := Option.some.inj h
        subst h
        exact hl_loc (k1 (s.1 + 6) x62.2 rfl) ⟨rfl, rfl, rfl, rfl, trivial⟩
      · have h := hl_neg hc h
        refine hl_iconst d295_1178 ki0 ?_
        have h := Option.some.inj h
        subst h
        obtain ⟨e1, e2⟩ := kr 0 x62.2 rfl
        subst e1; subst e2
        exact hl_zret d295_1179 rfl (by decide)
    have h := hl_neg hc33_32 h
    by_cases hc33_33 : ((X.2 s.1.toNatClampNeg) &&& 63) = 33
    · have h := hl_pos hc33_33 h
      refine hl_tabIn (off := 1147) (tg := 1180) d295_33 (by rw [hc33_33]; decide) (by rw [hc33_33]; decide) (by rw [hc33_33]; rfl) rfl ?_
      refine hl_aload_n (i := 1) d295_1180 rfl rfl (by decide) ?_
      refine hl_aload_n (i := 0) d295_1181 rfl rfl (by decide) ?_
      refine hl_iload_n (i := 3) d295_1182 rfl rfl ?_
      refine hl_iconst d295_1183 ki1 ?_
      refine hl_iadd d295_1184 ?_
      obtain ⟨hb, h⟩ := hl_gd h
      refine hl_ialR d295_1185 (hs500 X) (hl_b_in hb) ?_
      obtain ⟨x63, hx63, h⟩ := hl_bind h
      refine hl_cVi (D := (D + 48)) (z := y288) (n := 1) (av := [.int (X.2 (s.1 + 1).toNatClampNeg)]) (st := []) d295_1186 mlLaw_157 rfl (Nat.le_of_ble_eq_true rfl) (Nat.le_of_ble_eq_true rfl) rc0 ((p_X_octet D (X.2 (s.1 + 1).toNatClampNeg) s.2 hx63).dle (by omega)) ?_
      refine hl_aload_n (i := 2) d295_1189 rfl rfl (by decide) ?_
      refine hl_aload_n (i := 0) d295_1190 rfl rfl (by decide) ?_
      refine hl_iload_n (i := 3) d295_1191 rfl rfl ?_
      refine hl_iconst d295_1192 ki1 ?_
      refine hl_iadd d295_1193 ?_
      obtain ⟨hb, h⟩ := hl_gd h
      refine hl_ialR d295_1194 (hs500 X) (hl_b_in hb) ?_
      obtain ⟨x64, hx64, h⟩ := hl_bind h
      refine hl_cVi (D := (D + 48)) (z := y289) (n := 1) (av := [.int (X.2 (s.1 + 1).toNatClampNeg)]) (st := [.int x63]) d295_1195 mlLaw_160 rfl (Nat.le_of_ble_eq_true rfl) (Nat.le_of_ble_eq_true rfl) rc64 ((p_M_octet D (X.2 (s.1 + 1).toNatClampNeg) s.2 hx64).dle (by omega)) ?_
      refine hl_icmp_eq (tg := 1216) d295_1198 rfl (fun hc => ?_) (fun hc => ?_)
      · have h := hl_pos hc h
        refine hl_iinc (ls2 := [(3, .int (s.1 + 6)), (0, .ref 500), (1, .ref 0), (2, .ref 64)]) d295_1216 rfl kx6 (by decide) rfl ?_
        refine hl_goto (tg := 18) d295_1219 rfl ?_
        have h := Option.some.inj h
        subst h
        exact hl_loc (k1 (s.1 + 6) s.2 rfl) ⟨rfl, rfl, rfl, rfl, trivial⟩
      · have h := hl_neg hc h
        refine hl_iconst d295_1201 ki0 ?_
        have h := Option.some.inj h
        subst h
        obtain ⟨e1, e2⟩ := kr 0 s.2 rfl
        subst e1; subst e2
        exact hl_zret d295_1202 rfl (by decide)
    have h := hl_neg hc33_33 h
    by_cases hc33_34 : ((X.2 s.1.toNatClampNeg) &&& 63) = 34
    · have h := hl_pos hc33_34 h
      refine hl_tabIn (off := 1170) (tg := 1203) d295_33 (by rw [hc33_34]; decide) (by rw [hc33_34]; decide) (by rw [hc33_34]; rfl) rfl ?_
      refine hl_aload_n (i := 1) d295_1203 rfl rfl (by decide) ?_
      obtain ⟨x65, hx65, h⟩ := hl_bind h
      refine hl_cVi (D := (D + 48)) (z := y290) (n := 0) (av := []) (st := []) d295_1204 mlLaw_161 rfl (Nat.le_of_ble_eq_true rfl) (Nat.le_of_ble_eq_true rfl) rc0 ((p_X_on D s.2 hx65).dle (by omega)) ?_
      refine hl_aload_n (i := 2) d295_1207 rfl rfl (by decide) ?_
      obtain ⟨x66, hx66, h⟩ := hl_bind h
      refine hl_cVi (D := (D + 48)) (z := y293) (n := 0) (av := []) (st := [.int x65.1]) d295_1208 mlLaw_164 rfl (Nat.le_of_ble_eq_true rfl) (Nat.le_of_ble_eq_true rfl) rc64 ((p_M_on D x65.2 hx66).dle (by omega)) ?_
      refine hl_icmp_eq (tg := 1216) d295_1211 rfl (fun hc => ?_) (fun hc => ?_)
      · have h := hl_pos hc h
        refine hl_iinc (ls2 := [(3, .int (s.1 + 6)), (0, .ref 500), (1, .ref 0), (2, .ref 64)]) d295_1216 rfl kx6 (by decide) rfl ?_
        refine hl_goto (tg := 18) d295_1219 rfl ?_
        have h := Option.some.inj h
        subst h
        exact hl_loc (k1 (s.1 + 6) x66.2 rfl) ⟨rfl, rfl, rfl, rfl, trivial⟩
      · have h := hl_neg hc h
        refine hl_iconst d295_1214 ki0 ?_
        have h := Option.some.inj h
        subst h
        obtain ⟨e1, e2⟩ := kr 0 x66.2 rfl
        subst e1; subst e2
        exact hl_zret d295_1215 rfl (by decide)
    have h := hl_neg hc33_34 h
    refine hl_tabD (tg := 1216) d295_33 (fun k g1 g2 e => by
          rcases (by omega : k = 0 ∨ k = 1 ∨ k = 2 ∨ k = 3 ∨ k = 4 ∨ k = 5 ∨ k = 6 ∨ k = 7 ∨ k = 8 ∨ k = 9 ∨ k = 10 ∨ k = 11 ∨ k = 12 ∨ k = 13 ∨ k = 14 ∨ k = 15 ∨ k = 16 ∨ k = 17 ∨ k = 18 ∨ k = 19 ∨ k = 20 ∨ k = 21 ∨ k = 22 ∨ k = 23 ∨ k = 24 ∨ k = 25 ∨ k = 26 ∨ k = 27 ∨ k = 28 ∨ k = 29 ∨ k = 30 ∨ k = 31 ∨ k = 32 ∨ k = 33 ∨ k = 34) with rfl | rfl | rfl | rfl | rfl | rfl | rfl | rfl | rfl | rfl | rfl | rfl | rfl | rfl | rfl | rfl | rfl | rfl | rfl | rfl | rfl | rfl | rfl | rfl | rfl | rfl | rfl | rfl | rfl | rfl | rfl | rfl | rfl | rfl | rfl
          · exact hc33_0 (Int32.toInt_inj.mp (e.trans (by decide)))
          · exact hc33_1 (Int32.toInt_inj.mp (e.trans (by decide)))
          · exact hc33_2 (Int32.toInt_inj.mp (e.trans (by decide)))
          · exact hc33_3 (Int32.toInt_inj.mp (e.trans (by decide)))
          · exact hc33_4 (Int32.toInt_inj.mp (e.trans (by decide)))
          · exact hc33_5 (Int32.toInt_inj.mp (e.trans (by decide)))
          · exact hc33_6 (Int32.toInt_inj.mp (e.trans (by decide)))
          · exact hc33_7 (Int32.toInt_inj.mp (e.trans (by decide)))
          · exact hc33_8 (Int32.toInt_inj.mp (e.trans (by decide)))
          · exact hc33_9 (Int32.toInt_inj.mp (e.trans (by decide)))
          · exact hc33_10 (Int32.toInt_inj.mp (e.trans (by decide)))
          · exact hc33_11 (Int32.toInt_inj.mp (e.trans (by decide)))
          · exact hc33_12 (Int32.toInt_inj.mp (e.trans (by decide)))
          · exact hc33_13 (Int32.toInt_inj.mp (e.trans (by decide)))
          · exact hc33_14 (Int32.toInt_inj.mp (e.trans (by decide)))
          · exact hc33_15 (Int32.toInt_inj.mp (e.trans (by decide)))
          · exact hc33_16 (Int32.toInt_inj.mp (e.trans (by decide)))
          · exact hc33_17 (Int32.toInt_inj.mp (e.trans (by decide)))
          · exact hc33_18 (Int32.toInt_inj.mp (e.trans (by decide)))
          · exact hc33_19 (Int32.toInt_inj.mp (e.trans (by decide)))
          · exact hc33_20 (Int32.toInt_inj.mp (e.trans (by decide)))
          · exact hc33_21 (Int32.toInt_inj.mp (e.trans (by decide)))
          · exact hc33_22 (Int32.toInt_inj.mp (e.trans (by decide)))
          · exact hc33_23 (Int32.toInt_inj.mp (e.trans (by decide)))
          · exact hc33_24 (Int32.toInt_inj.mp (e.trans (by decide)))
          · exact hc33_25 (Int32.toInt_inj.mp (e.trans (by decide)))
          · exact hc33_26 (Int32.toInt_inj.mp (e.trans (by decide)))
          · exact hc33_27 (Int32.toInt_inj.mp (e.trans (by decide)))
          · exact hc33_28 (Int32.toInt_inj.mp (e.trans (by decide)))
          · exact hc33_29 (Int32.toInt_inj.mp (e.trans (by decide)))
          · exact hc33_30 (Int32.toInt_inj.mp (e.trans (by decide)))
          · exact hc33_31 (Int32.toInt_inj.mp (e.trans (by decide)))
          · exact hc33_32 (Int32.toInt_inj.mp (e.trans (by decide)))
          · exact hc33_33 (Int32.toInt_inj.mp (e.trans (by decide)))
          · exact hc33_34 (Int32.toInt_inj.mp (e.trans (by decide)))
        ) rfl ?_
    refine hl_iinc (ls2 := [(3, .int (s.1 + 6)), (0, .ref 500), (1, .ref 0), (2, .ref 64)]) d295_1216 rfl kx6 (by decide) rfl ?_
    refine hl_goto (tg := 18) d295_1219 rfl ?_
    have h := Option.some.inj h
    subst h
    exact hl_loc (k1 (s.1 + 6) s.2 rfl) ⟨rfl, rfl, rfl, rfl, trivial⟩
set_option maxRecDepth 20000 in
theorem p_Law_law {X : hl_X} (D : Nat) (σ : hl_M) {r : Int32} {τ : hl_M} (h : f_Law_law X σ = some (r, τ)) : hl_R X (D + 49) y295 16 [(2, .ref 64), (1, .ref 0), (0, .ref 500)] [] σ (some (.int r)) τ := by
  unfold f_Law_law at h
  refine hl_iconst d295_16 ki0 ?_
  refine hl_istore_n (i := 3) (ls2 := [(3, .int 0), (2, .ref 64), (1, .ref 0), (0, .ref 500)]) d295_17 rfl (by decide) rfl ?_
  obtain ⟨x67, hx67, h⟩ := hl_bind h
  refine hl_R.loc (ls' := [(0, .ref 500), (1, .ref 0), (2, .ref 64), (3, .int 0)]) ⟨rfl, rfl, rfl, rfl, trivial⟩ ?_
  refine hl_lp_run2 (P := fun (c0 : Int32) (c1 : hl_M) => hl_R X (D + 49) y295 18 [(0, .ref 500), (1, .ref 0), (2, .ref 64), (3, .int c0)] [] c1 (some (.int r)) τ) (Sum.elim (fun x : hl_M => hl_R X (D + 49) y295 1222 [] [] x (some (.int r)) τ) (fun a : Int32 × hl_M => ((some (.int r)) : Option Value) = some (.int a.1) ∧ τ = a.2)) (fun c0 c1 o ho h1 h2 => p_Law_law_L18 D (c0, c1) ho h1 (fun a0 e => h2 (.inl a0) e) (fun a b e => h2 (.inr ((a, b))) e)) hl_big 0 σ x67 hx67 ?_
  rcases hl_sum h with ⟨x68, e_x68, h⟩ | ⟨x69, e_x69, h⟩
  · subst e_x68
    refine hl_iconst d295_1222 ki1 ?_
    obtain ⟨e1, e2⟩ := hl_some2 h
    subst e1; subst e2
    exact hl_zret d295_1223 rfl (by decide)
  · subst e_x69
    cases h
    exact ⟨rfl, rfl⟩
