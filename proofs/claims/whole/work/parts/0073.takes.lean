set_option maxRecDepth 20000 in
theorem ix9 : ∀ i, i < 9 → ∀ j, j < 9 → vpb ((Int32.ofNat i * (9 : Int32)) + Int32.ofNat j) 81 = true ∧ ((Int32.ofNat i * (9 : Int32)) + Int32.ofNat j).toNatClampNeg = 9 * i + j := by decide
set_option maxRecDepth 20000 in
theorem ix38 : ∀ i, i < 9 → ∀ j, j < 9 → vpb (((38 : Int32) + ((9 : Int32) * Int32.ofNat i)) + Int32.ofNat j) 300 = true ∧ (((38 : Int32) + ((9 : Int32) * Int32.ofNat i)) + Int32.ofNat j).toNatClampNeg = 38 + (9 * i + j) := by decide
set_option maxRecDepth 20000 in
theorem ix119 : ∀ i, i < 9 → ∀ j, j < 9 → vpb (((119 : Int32) + ((9 : Int32) * Int32.ofNat i)) + Int32.ofNat j) 300 = true ∧ (((119 : Int32) + ((9 : Int32) * Int32.ofNat i)) + Int32.ofNat j).toNatClampNeg = 119 + (9 * i + j) := by decide
theorem X9_pintsOf {F : Nat} {s : MS} {r : Nat → Int32} (hR : RR s r) {i j : Nat} (hi : i < 9) (hj : j < 9) : f_X9_pintsOf F s (Int32.ofNat i) (Int32.ofNat j) = some (r (38 + (9 * i + j))) := by
  unfold f_X9_pintsOf
  obtain ⟨h1, h2⟩ := ix9 i hi j hj
  rw [gd_t h1, lz_t, h2, hR.2.1 _ (by omega)]
theorem X9_minutesOf {F : Nat} {s : MS} {r : Nat → Int32} (hR : RR s r) {i j : Nat} (hi : i < 9) (hj : j < 9) : f_X9_minutesOf F s (Int32.ofNat i) (Int32.ofNat j) = some (r (119 + (9 * i + j))) := by
  unfold f_X9_minutesOf
  obtain ⟨h1, h2⟩ := ix9 i hi j hj
  rw [gd_t h1, lz_t, h2, hR.2.2.1 _ (by omega)]
theorem X9_isRoad {F : Nat} {s : MS} {r : Nat → Int32} (hR : RR s r) {i j : Nat} (hi : i < 9) (hj : j < 9) : f_X9_isRoad F s (Int32.ofNat i) (Int32.ofNat j) = some (bi (decide (0 < (r (38 + (9 * i + j))).toInt))) := by
  unfold f_X9_isRoad
  rw [X9_pintsOf hR hi hj, bd_some]
  simp only [i_le]
  have h0 : (0 : Int32).toInt = 0 := rfl
  rw [h0]
  by_cases c : (r (38 + (9 * i + j))).toInt ≤ 0
  · rw [if_pos c]
    have : ¬ 0 < (r (38 + (9 * i + j))).toInt := by omega
    simp [this, bi]
  · rw [if_neg c]
    have : 0 < (r (38 + (9 * i + j))).toInt := by omega
    simp [this, bi]
theorem X11_roadOf {F : Nat} {s : MS} {i j : Nat} (hi : i < 9) (hj : j < 9) : f_X11_roadOf F s (Int32.ofNat i) (Int32.ofNat j) = some (s.2.2.1 15 (38 + (9 * i + j))) := by
  unfold f_X11_roadOf
  obtain ⟨h1, h2⟩ := ix38 i hi j hj
  rw [gd_t h1, lz_t, h2]
theorem X10_areTwo {F : Nat} {sMn s : MS} {r : Nat → Int32} (hR : RR s r) (a b : Int32) : f_X10_areTwoPlaces F sMn s a b = some (bi (isP r a && (isP r b && !(decide (a = b))))) := by
  unfold f_X10_areTwoPlaces
  rw [X9_isPlace hR, bd_some]
  cases h1 : isP r a with
  | false => rfl
  | true =>
    rw [if_neg (by decide), X9_isPlace hR, bd_some]
    cases h2 : isP r b with
    | false => rfl
    | true =>
      rw [if_neg (by decide)]
      by_cases c : a = b
      · rw [if_pos c]; simp [c, bi]
      · rw [if_neg c]; simp [c, bi]
theorem X10_accept {F : Nat} (v : Int32) (s : MS) : f_X10_accept F v s = some (v, sI s 11 0) := rfl
theorem X10_refuse {F : Nat} (v : Int32) (s : MS) : f_X10_refuse F v s = some (-1, sI s 11 v) := rfl
theorem X11_good {F : Nat} (s : MS) : f_X11_good F s = some (sI (sI s 0 0) 11 0) := rfl
theorem X11_no {F : Nat} (v : Int32) (s : MS) : f_X11_no F v s = some (-1, sI s 11 v) := rfl
/-- what both do to their troubles: t -/
def TT (sMn sMo sMn' sMo' : MS) : Prop := ∃ t : Int32, sMn' = sI sMn 11 t ∧ sMo'.2 = sMo.2 ∧ sMo'.1 0 = 0 ∧ sMo'.1 11 = t ∧ ∀ k, k ≠ 0 → k ≠ 11 → sMo'.1 k = sMo.1 k
theorem TT_ok (sMn sMo : MS) : TT sMn sMo (sI sMn 11 0) (sI (sI sMo 0 0) 11 0) := ⟨0, rfl, rfl, by rw [sI_n _ _ _ _ (by decide), sI_s], sI_s _ _ _, fun k h0 h1 => by rw [sI_n _ _ _ _ h1, sI_n _ _ _ _ h0]⟩
theorem TT_no (sMn sMo : MS) (t : Int32) : TT sMn sMo (sI sMn 11 t) (sI (sI (sI sMo 0 0) 11 0) 11 t) := ⟨t, rfl, rfl, by rw [sI_n _ _ _ _ (by decide), sI_n _ _ _ _ (by decide), sI_s], sI_s _ _ _, fun k h0 h1 => by rw [sI_n _ _ _ _ h1, sI_n _ _ _ _ h1, sI_n _ _ _ _ h0]⟩
theorem HR_good {s : MS} (H : HR (s.2.2.1 15) (s.1 14)) : HR ((sI (sI s 0 0) 11 0).2.2.1 15) ((sI (sI s 0 0) 11 0).1 14) := H
theorem P_takes {F : Nat} {sMn sRo sMo : MS} (hR : RR sRo (sMo.2.2.1 15)) (H : HR (sMo.2.2.1 15) (sMo.1 14)) (a b m : Int32) :
    ∃ v sMn' sMo', f_X10_takes F sRo a b m sMn = some (v, sMn') ∧ f_X11_takes F a b m sMo = some (v, sMo') ∧ TT sMn sMo sMn' sMo' := by
  have h5 := hr_5 H
  unfold f_X10_takes f_X11_takes f_X11_takes_25 f_X10_takes_60
  rw [X10_areTwo hR, bd_some, X11_good, bd_some, X11_isPlace (HR_good H), bd_some, X11_no, bd_some, X10_refuse, bd_some]
  have e15 : (sI (sI sMo 0 0) 11 0).2.2.1 15 = sMo.2.2.1 15 := rfl
  rw [e15]
  cases h1 : isP (sMo.2.2.1 15) a with
  | false => exact ⟨-1, _, _, rfl, rfl, TT_no sMn sMo 1⟩
  | true =>
    rw [if_neg (c := bi true = 0) (by decide), X11_isPlace (HR_good H), bd_some, e15]
    cases h2 : isP (sMo.2.2.1 15) b with
    | false => exact ⟨-1, _, _, rfl, rfl, TT_no sMn sMo 1⟩
    | true =>
      rw [if_neg (c := bi true = 0) (by decide)]
      by_cases c : a = b
      · refine ⟨-1, _, _, ?_, by rw [if_pos c], TT_no sMn sMo 1⟩
        simp [c, bi]
      · rw [if_neg c]
        have e : bi (true && (true && !(decide (a = b)))) = 1 := by simp [c, bi]
        rw [e, if_neg (by decide)]
        obtain ⟨i, j, hi, hj, -, -, rfl, rfl⟩ := ix_ab h5.2 h1 h2
        rw [X9_isRoad hR hi hj, bd_some, X11_roadOf hi hj, bd_some, X10_accept, bd_some, X9_pintsOf hR hi hj, X9_minutesOf hR hi hj, bd_some, bd_some, X10_accept, X10_accept, bd_some, bd_some, e15]
        have h38 : 0 ≤ (sMo.2.2.1 15 (38 + (9 * i + j))).toInt := by
          rcases H with ⟨-, h⟩ | ⟨-, h⟩
          · exact (h.2.2.2.2.2.2.2.2.2.2.1 i j hi hj).1
          · rw [h _ (by omega)]; decide
        by_cases c2 : sMo.2.2.1 15 (38 + (9 * i + j)) = 0
        · rw [if_pos c2, c2]
          exact ⟨-2, _, _, rfl, rfl, TT_ok sMn sMo⟩
        · rw [if_neg c2]
          have c3 : 0 < (sMo.2.2.1 15 (38 + (9 * i + j))).toInt := by
            have : (sMo.2.2.1 15 (38 + (9 * i + j))).toInt ≠ 0 := fun q => c2 (by rw [i_eq]; exact q)
            omega
          rw [if_neg (c := bi (decide (0 < (sMo.2.2.1 15 (38 + (9 * i + j))).toInt)) = 0) (by simp [c3, bi])]
          by_cases c4 : m = 0
          · rw [if_pos c4, if_pos c4]
            exact ⟨_, _, _, rfl, rfl, TT_ok sMn sMo⟩
          · rw [if_neg c4, if_neg c4]
            obtain ⟨g1, g2⟩ := ix119 i hi j hj
            rw [gd_t g1, lz_t, g2]
            exact ⟨_, _, _, rfl, rfl, TT_ok sMn sMo⟩
