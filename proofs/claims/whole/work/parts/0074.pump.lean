/-! pump, station, legs, lasts -/
set_option maxRecDepth 20000 in
theorem ix11 : ∀ i, i < 9 → ∀ j, j < 3 → vpb (((11 : Int32) + ((3 : Int32) * Int32.ofNat i)) + Int32.ofNat j) 300 = true ∧ (((11 : Int32) + ((3 : Int32) * Int32.ofNat i)) + Int32.ofNat j).toNatClampNeg = 11 + (3 * i + j) := by decide
theorem X11_pumpOf {F : Nat} {s : MS} {i j : Nat} (hi : i < 9) (hj : j < 3) : f_X11_pumpOf F s (Int32.ofNat i) (Int32.ofNat j) = some (s.2.2.1 15 (11 + (3 * i + j))) := by
  unfold f_X11_pumpOf
  obtain ⟨h1, h2⟩ := ix11 i hi j hj
  rw [gd_t h1, lz_t, h2]
theorem i9 : ∀ i, i < 9 → vpb (Int32.ofNat i) 9 = true ∧ (Int32.ofNat i).toNatClampNeg = i := by decide
/-- a place as a number -/
theorem ix_p {r : Nat → Int32} {a : Int32} (h5 : (r 5).toInt ≤ 9) (ha : isP r a = true) : ∃ i : Nat, i < 9 ∧ (i : Int) < (r 5).toInt ∧ a = Int32.ofNat i := by
  obtain ⟨i, j, h1, -, h3, -, h5, -⟩ := ix_ab h5 ha ha
  exact ⟨i, h1, h3, h5⟩
theorem P_pump {F : Nat} {sMn sRo sMo : MS} (hR : RR sRo (sMo.2.2.1 15)) (H : HR (sMo.2.2.1 15) (sMo.1 14)) (a w : Int32) :
    ∃ v sMn' sMo', f_X10_pump F sRo a w sMn = some (v, sMn') ∧ f_X11_pump F a w sMo = some (v, sMo') ∧ TT sMn sMo sMn' sMo' := by
  have h5 := hr_5 H
  unfold f_X10_pump f_X11_pump f_X10_pump_20 f_X11_pump_21 f_X10_pump_100 f_X11_pump_62
  rw [X9_isPlace hR, bd_some, X11_good, bd_some, X11_isPlace (HR_good H), bd_some, X11_no, bd_some, X10_refuse, bd_some, X11_in, bd_some]
  have e15 : (sI (sI sMo 0 0) 11 0).2.2.1 15 = sMo.2.2.1 15 := rfl
  rw [e15]
  cases h1 : isP (sMo.2.2.1 15) a with
  | false => exact ⟨-1, _, _, rfl, rfl, TT_no sMn sMo 1⟩
  | true =>
    rw [if_neg (c := bi true = 0) (by decide), if_neg (c := bi true = 0) (by decide)]
    have z0 : (0 : Int32).toInt = 0 := rfl
    have z2 : (2 : Int32).toInt = 2 := rfl
    simp only [i_lt w, i_le w, z0, z2]
    by_cases c1 : w.toInt < 0
    · rw [if_pos c1]
      have e : (decide (0 ≤ w.toInt) && decide (w.toInt ≤ 2)) = false := by
        have : ¬ 0 ≤ w.toInt := by omega
        simp [this]
      rw [e]
      exact ⟨-1, _, _, rfl, rfl, TT_no sMn sMo 1⟩
    · rw [if_neg c1]
      by_cases c2 : w.toInt ≤ 2
      · rw [if_pos c2]
        have e : (decide (0 ≤ w.toInt) && decide (w.toInt ≤ 2)) = true := by
          have : 0 ≤ w.toInt := by omega
          simp [this, c2]
        rw [e, if_neg (c := bi true = 0) (by decide)]
        obtain ⟨i, hi, -, rfl⟩ := ix_p h5.2 h1
        obtain ⟨g1, g2⟩ := i9 i hi
        obtain ⟨q1, q2, q3⟩ := hR.2.2.2.1 i hi
        have p0 := X11_pumpOf (F := F) (s := sI (sI sMo 0 0) 11 0) hi (j := 0) (by decide)
        have p1 := X11_pumpOf (F := F) (s := sI (sI sMo 0 0) 11 0) hi (j := 1) (by decide)
        have p2 := X11_pumpOf (F := F) (s := sI (sI sMo 0 0) 11 0) hi (j := 2) (by decide)
        rw [e15] at p0 p1 p2
        have l0 : Int32.ofNat 0 = 0 := rfl
        have l1 : Int32.ofNat 1 = 1 := rfl
        have l2 : Int32.ofNat 2 = 2 := rfl
        rw [l0] at p0
        rw [l1] at p1
        rw [l2] at p2
        have n0 : 11 + (3 * i + 0) = 11 + 3 * i := by omega
        have n1 : 11 + (3 * i + 1) = 12 + 3 * i := by omega
        have n2 : 11 + (3 * i + 2) = 13 + 3 * i := by omega
        rw [n0] at p0
        rw [n1] at p1
        rw [n2] at p2
        rw [gd_t g1, lz_t, g2, q1, p0, bd_some]
        by_cases c3 : sMo.2.2.1 15 (11 + 3 * i) = 0
        · rw [if_pos c3, if_pos c3]
          exact ⟨-1, _, _, rfl, rfl, TT_no sMn sMo 6⟩
        · rw [if_neg c3, if_neg c3]
          have hw : w = 0 ∨ w = 1 ∨ w = 2 := by
            rcases (show w.toInt = 0 ∨ w.toInt = 1 ∨ w.toInt = 2 by omega) with h | h | h
            · exact Or.inl (by rw [i_eq]; exact h)
            · exact Or.inr (Or.inl (by rw [i_eq]; exact h))
            · exact Or.inr (Or.inr (by rw [i_eq]; exact h))
          rcases hw with rfl | rfl | rfl
          · rw [if_pos rfl, if_neg (by decide), p0]
            exact ⟨_, _, _, rfl, rfl, TT_ok sMn sMo⟩
          · rw [if_neg (by decide), if_neg (by decide), gd_t g1, lz_t, q2, if_pos rfl, p1, bd_some]
            by_cases c4 : sMo.2.2.1 15 (12 + 3 * i) = 0
            · rw [if_pos c4, if_pos c4]
              exact ⟨-2, _, _, rfl, rfl, TT_ok sMn sMo⟩
            · rw [if_neg c4, if_neg c4]
              exact ⟨_, _, _, rfl, rfl, TT_ok sMn sMo⟩
          · rw [if_neg (by decide), if_pos rfl, gd_t g1, lz_t, q3, if_neg (by decide), p2]
            exact ⟨_, _, _, rfl, rfl, TT_ok sMn sMo⟩
      · rw [if_neg c2]
        have e : (decide (0 ≤ w.toInt) && decide (w.toInt ≤ 2)) = false := by simp [c2]
        rw [e]
        exact ⟨-1, _, _, rfl, rfl, TT_no sMn sMo 1⟩
/-- a station of the road -/
def isS (r : Nat → Int32) (i : Int32) : Bool := decide (0 ≤ i.toInt) && decide (i.toInt < (r 8).toInt)
theorem hr_8 {r : Nat → Int32} {h : Int32} (H : HR r h) : 0 ≤ (r 8).toInt ∧ (r 8).toInt ≤ 9 := by
  rcases H with ⟨-, h⟩ | ⟨-, h⟩
  · have := h.2.2.2.2.2.2.2.2.1; omega
  · rw [h 8 (by decide)]; decide
theorem X9_isStation {F : Nat} {s : MS} {r : Nat → Int32} (hR : RR s r) (p : Int32) : f_X9_isStation F s p = some (bi (isS r p)) := by
  have h5 : s.1 8 = r 8 := hR.1 8 (by decide)
  unfold f_X9_isStation isS
  rw [h5]
  simp only [i_lt, i_le]
  have h0 : (0 : Int32).toInt = 0 := rfl
  rw [h0]
  by_cases c1 : p.toInt < 0
  · rw [if_pos c1]
    have : ¬ 0 ≤ p.toInt := by omega
    simp [this, bi]
  · rw [if_neg c1]
    have c2 : 0 ≤ p.toInt := by omega
    by_cases c3 : (r 8).toInt ≤ p.toInt
    · rw [if_pos c3]
      have : ¬ p.toInt < (r 8).toInt := by omega
      simp [this, bi]
    · rw [if_neg c3]
      have : p.toInt < (r 8).toInt := by omega
      simp [this, c2, bi]
theorem X11_isStation {F : Nat} {s : MS} (H : HR (s.2.2.1 15) (s.1 14)) (p : Int32) : f_X11_isStation F s p = some (bi (isS (s.2.2.1 15) p)) := by
  unfold f_X11_isStation
  have h8 := hr_8 H
  rcases H with ⟨h1, h2⟩ | ⟨h1, h2⟩
  · rw [h1, if_neg (by decide), gd_t (by decide), lz_t, X11_in, bd_some]
    have e5 : (8 : Int32).toNatClampNeg = 8 := by decide
    rw [e5]
    have e : ((s.2.2.1 15 8) - (1 : Int32)).toInt = (s.2.2.1 15 8).toInt - 1 := by
      rw [i_sub _ _ ⟨by have : (1 : Int32).toInt = 1 := rfl; omega, by have : (1 : Int32).toInt = 1 := rfl; omega⟩]; rfl
    rw [e]
    have h0 : (0 : Int32).toInt = 0 := rfl
    rw [h0, bi_if]
    unfold isS
    congr 2
    congr 1
    simp only [decide_eq_decide]
    omega
  · rw [h1, if_pos rfl]
    unfold isS
    rw [h2 8 (by decide)]
    have h0 : (0 : Int32).toInt = 0 := rfl
    rw [h0]
    have : (decide (0 ≤ p.toInt) && decide (p.toInt < 0)) = false := by
      by_cases c : 0 ≤ p.toInt
      · have : ¬ p.toInt < 0 := by omega
        simp [this]
      · simp [c]
    rw [this]; rfl
theorem ix_s {r : Nat → Int32} {a : Int32} (h8 : (r 8).toInt ≤ 9) (ha : isS r a = true) : ∃ i : Nat, i < 9 ∧ (i : Int) < (r 8).toInt ∧ a = Int32.ofNat i := by
  unfold isS at ha
  rw [Bool.and_eq_true, decide_eq_true_eq, decide_eq_true_eq] at ha
  have := i_nat a ha.1
  refine ⟨a.toNatClampNeg, by omega, by omega, ?_⟩
  rw [i_eq, lit_i _ (by omega)]; omega
theorem ix200 : ∀ i, i < 9 → vpb ((200 : Int32) + Int32.ofNat i) 300 = true ∧ ((200 : Int32) + Int32.ofNat i).toNatClampNeg = 200 + i := by decide
theorem X11_placeOf {F : Nat} {s : MS} {i : Nat} (hi : i < 9) : f_X11_placeOf F s (Int32.ofNat i) = some (s.2.2.1 15 (200 + i)) := by
  unfold f_X11_placeOf
  obtain ⟨h1, h2⟩ := ix200 i hi
  rw [gd_t h1, lz_t, h2]
theorem P_station {F : Nat} {sMn sRo sMo : MS} (hR : RR sRo (sMo.2.2.1 15)) (H : HR (sMo.2.2.1 15) (sMo.1 14)) (a : Int32) :
    ∃ v sMn' sMo', f_X10_station F sRo a sMn = some (v, sMn') ∧ f_X11_station F a sMo = some (v, sMo') ∧ TT sMn sMo sMn' sMo' := by
  have h8 := hr_8 H
  unfold f_X10_station f_X11_station
  rw [X9_isStation hR, bd_some, X11_good, bd_some, X11_isStation (HR_good H), bd_some]
  have e15 : (sI (sI sMo 0 0) 11 0).2.2.1 15 = sMo.2.2.1 15 := rfl
  rw [e15]
  cases h1 : isS (sMo.2.2.1 15) a with
  | false => exact ⟨-1, _, _, rfl, rfl, TT_no sMn sMo 1⟩
  | true =>
    obtain ⟨i, hi, h9, rfl⟩ := ix_s h8.2 h1
    obtain ⟨g1, g2⟩ := i9 i hi
    rw [if_neg (by decide), if_neg (by decide), gd_t g1, lz_t, g2, hR.2.2.2.2.1 i h9, X11_placeOf hi, bd_some, e15]
    exact ⟨_, _, _, rfl, rfl, TT_ok sMn sMo⟩
