theorem HRok {r : Nat → Int32} {h : Int32} (H : HR r h) {i : Nat} (hi : (i : Int) < (r 8).toInt) : ROK r := by
  rcases H with ⟨-, h⟩ | ⟨-, h⟩
  · exact h
  · rw [h 8 (by decide)] at hi
    have : (0 : Int32).toInt = 0 := rfl
    omega
theorem P_legs {F : Nat} (hF : 100 ≤ F) {sMn sRo sMo : MS} (hR : RR sRo (sMo.2.2.1 15)) (H : HR (sMo.2.2.1 15) (sMo.1 14)) (a b : Int32) :
    ∃ v sMn' sMo', f_X10_legs F sRo a b sMn = some (v, sMn') ∧ f_X11_legs F a b sMo = some (v, sMo') ∧ TT sMn sMo sMn' sMo' := by
  have h8 := hr_8 H
  unfold f_X10_legs f_X11_legs f_X10_legs_27 f_X11_legs_34
  rw [X9_isStation hR, bd_some, X11_good, bd_some, X11_isStation (HR_good H), bd_some, X10_refuse, bd_some, X11_no, bd_some]
  have e15 : (sI (sI sMo 0 0) 11 0).2.2.1 15 = sMo.2.2.1 15 := rfl
  rw [e15]
  cases h1 : isS (sMo.2.2.1 15) a with
  | false => exact ⟨-1, _, _, rfl, rfl, TT_no sMn sMo 1⟩
  | true =>
    rw [if_neg (c := bi true = 0) (by decide), if_neg (c := bi true = 0) (by decide), X9_isStation hR, bd_some, X11_isStation (HR_good H), bd_some, e15]
    cases h2 : isS (sMo.2.2.1 15) b with
    | false => exact ⟨-1, _, _, rfl, rfl, TT_no sMn sMo 1⟩
    | true =>
      rw [if_neg (c := bi true = 0) (by decide), if_neg (c := bi true = 0) (by decide)]
      obtain ⟨i, hi, hi9, rfl⟩ := ix_s h8.2 h1
      obtain ⟨j, hj, hj9, rfl⟩ := ix_s h8.2 h2
      have hok := HRok H hi9
      simp only [i_lt, i_le]
      rw [lit_i _ (by omega), lit_i _ (by omega)]
      by_cases c : (i : Int) < j
      · rw [if_pos c, if_neg (by omega), X9_legsPints hR hok hi9 hj9, bd_some, X11_legsOf (s := sI (sI sMo 0 0) 11 0) (i := i) hF hok (by omega) hj9, bd_some]
        exact ⟨_, _, _, rfl, rfl, TT_ok sMn sMo⟩
      · rw [if_neg c, if_pos (by omega)]
        exact ⟨-1, _, _, rfl, rfl, TT_no sMn sMo 1⟩
