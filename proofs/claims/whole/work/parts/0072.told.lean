/-! as told: takes, pump, station, legs, lasts .. -/
theorem hr_0 {r : Nat → Int32} {h : Int32} (H : HR r h) : h = 0 ∨ h = 1 := by
  rcases H with ⟨h, -⟩ | ⟨h, -⟩
  · exact Or.inr h
  · exact Or.inl h
theorem hr_5 {r : Nat → Int32} {h : Int32} (H : HR r h) : 0 ≤ (r 5).toInt ∧ (r 5).toInt ≤ 9 := by
  rcases H with ⟨-, h⟩ | ⟨-, h⟩
  · exact h.2.2.2.2.2.1
  · rw [h 5 (by decide)]; decide
theorem X11_in {F : Nat} (v a b : Int32) : f_X11_in F v a b = some (bi (decide (a.toInt ≤ v.toInt) && decide (v.toInt ≤ b.toInt))) := by
  unfold f_X11_in
  simp only [i_lt]
  by_cases c1 : v.toInt < a.toInt
  · rw [if_pos c1]
    have : ¬ a.toInt ≤ v.toInt := by omega
    simp [this, bi]
  · rw [if_neg c1]
    have c2 : a.toInt ≤ v.toInt := by omega
    by_cases c3 : b.toInt < v.toInt
    · rw [if_pos c3]
      have : ¬ v.toInt ≤ b.toInt := by omega
      simp [this, bi]
    · rw [if_neg c3]
      have : v.toInt ≤ b.toInt := by omega
      simp [this, c2, bi]
theorem bi_if {b : Bool} : (if bi b = (0 : Int32) then some (0 : Int32) else some (1 : Int32)) = some (bi b) := by cases b <;> rfl
theorem X11_isPlace {F : Nat} {s : MS} (H : HR (s.2.2.1 15) (s.1 14)) (p : Int32) : f_X11_isPlace F s p = some (bi (isP (s.2.2.1 15) p)) := by
  unfold f_X11_isPlace
  have h5 := hr_5 H
  rcases H with ⟨h1, h2⟩ | ⟨h1, h2⟩
  · rw [h1, if_neg (by decide), gd_t (by decide), lz_t, X11_in, bd_some]
    have e5 : (5 : Int32).toNatClampNeg = 5 := by decide
    rw [e5]
    have e : ((s.2.2.1 15 5) - (1 : Int32)).toInt = (s.2.2.1 15 5).toInt - 1 := by
      rw [i_sub _ _ ⟨by have : (1 : Int32).toInt = 1 := rfl; omega, by have : (1 : Int32).toInt = 1 := rfl; omega⟩]; rfl
    rw [e]
    have h0 : (0 : Int32).toInt = 0 := rfl
    rw [h0, bi_if]
    unfold isP
    congr 2
    congr 1
    simp only [decide_eq_decide]
    omega
  · rw [h1, if_pos rfl]
    unfold isP
    rw [h2 5 (by decide)]
    have h0 : (0 : Int32).toInt = 0 := rfl
    rw [h0]
    have : (decide (0 ≤ p.toInt) && decide (p.toInt < 0)) = false := by
      by_cases c : 0 ≤ p.toInt
      · have : ¬ p.toInt < 0 := by omega
        simp [this]
      · simp [c]
    rw [this]; rfl
/-- places a, b as numbers: the index of a road between them -/
theorem ix_ab {r : Nat → Int32} {a b : Int32} (h5 : (r 5).toInt ≤ 9) (ha : isP r a = true) (hb : isP r b = true) : ∃ i j : Nat, i < 9 ∧ j < 9 ∧ (i : Int) < (r 5).toInt ∧ (j : Int) < (r 5).toInt ∧ a = Int32.ofNat i ∧ b = Int32.ofNat j := by
  unfold isP at ha hb
  rw [Bool.and_eq_true, decide_eq_true_eq, decide_eq_true_eq] at ha hb
  refine ⟨a.toNatClampNeg, b.toNatClampNeg, ?_, ?_, ?_, ?_, ?_, ?_⟩
  · have := i_nat a ha.1; omega
  · have := i_nat b hb.1; omega
  · have := i_nat a ha.1; omega
  · have := i_nat b hb.1; omega
  · rw [i_eq, lit_i _ (by have := i_nat a ha.1; omega)]; exact (i_nat a ha.1).symm
  · rw [i_eq, lit_i _ (by have := i_nat b hb.1; omega)]; exact (i_nat b hb.1).symm
