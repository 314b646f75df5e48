/-! plan: a station but the last one; pints told -/
def isF (r : Nat → Int32) (i : Int32) : Bool := decide (0 ≤ i.toInt) && decide (i.toInt < (r 8).toInt - 1)
theorem X9_isLeft {F : Nat} {s : MS} {r : Nat → Int32} (hR : RR s r) (h8 : 0 ≤ (r 8).toInt ∧ (r 8).toInt ≤ 9) (p : Int32) : f_X9_isLeft F s p = some (bi (isF r p)) := by
  have h5 : s.1 8 = r 8 := hR.1 8 (by decide)
  unfold f_X9_isLeft isF
  rw [h5]
  simp only [i_lt, i_le]
  have h0 : (0 : Int32).toInt = 0 := rfl
  have e : (r 8 - (1 : Int32)).toInt = (r 8).toInt - 1 := by
    rw [i_sub _ _ (by have : (1 : Int32).toInt = 1 := rfl; omega)]; rfl
  rw [h0, e]
  by_cases c1 : p.toInt < 0
  · rw [if_pos c1]
    have : ¬ 0 ≤ p.toInt := by omega
    simp [this, bi]
  · rw [if_neg c1]
    have c2 : 0 ≤ p.toInt := by omega
    by_cases c3 : (r 8).toInt - 1 ≤ p.toInt
    · rw [if_pos c3]
      have : ¬ p.toInt < (r 8).toInt - 1 := by omega
      simp [this, bi]
    · rw [if_neg c3]
      have : p.toInt < (r 8).toInt - 1 := by omega
      simp [this, c2, bi]
theorem X11_isStop {F : Nat} {s : MS} (H : HR (s.2.2.1 15) (s.1 14)) (p : Int32) : f_X11_isStop F s p = some (bi (isF (s.2.2.1 15) p)) := by
  have h8 := hr_8 H
  unfold f_X11_isStop
  rw [X11_isStation H, bd_some]
  cases h1 : isS (s.2.2.1 15) p with
  | false =>
    rw [if_pos (by decide)]
    unfold isS at h1
    unfold isF
    have e : (decide (0 ≤ p.toInt) && decide (p.toInt < (s.2.2.1 15 8).toInt - 1)) = false := by
      by_cases c : 0 ≤ p.toInt
      · by_cases c2 : p.toInt < (s.2.2.1 15 8).toInt - 1
        · have : p.toInt < (s.2.2.1 15 8).toInt := by omega
          simp [c, this] at h1
        · simp [c2]
      · simp [c]
    rw [e]; rfl
  | true =>
    obtain ⟨i, hi, hi9, rfl⟩ := ix_s h8.2 h1
    have hok := HRok H hi9
    rw [if_neg (by decide), X11_lastStation hok, bd_some]
    unfold isF
    simp only [i_le]
    rw [oi (by omega), lit_i _ (by omega)]
    by_cases c : (s.2.2.1 15 8).toInt - 1 ≤ (i : Int)
    · rw [if_pos c]
      have : ¬ (i : Int) < (s.2.2.1 15 8).toInt - 1 := by omega
      simp [this, bi]
    · rw [if_neg c]
      have : (i : Int) < (s.2.2.1 15 8).toInt - 1 := by omega
      simp [this, bi]
theorem ix_f {r : Nat → Int32} {a : Int32} (h8 : (r 8).toInt ≤ 9) (ha : isF r a = true) : ∃ i : Nat, i < 8 ∧ (i : Int) + 1 < (r 8).toInt ∧ a = Int32.ofNat i := by
  unfold isF at ha
  rw [Bool.and_eq_true, decide_eq_true_eq, decide_eq_true_eq] at ha
  have := i_nat a ha.1
  refine ⟨a.toNatClampNeg, by omega, by omega, ?_⟩
  rw [i_eq, lit_i _ (by omega)]; omega
/-- the PLAN of both: the same, 0 .. 40 pints -/
def PP (sPl sMo : MS) : Prop := ∀ i, i < 9 → sPl.2.2.1 0 i = sMo.2.2.1 17 i ∧ 0 ≤ (sMo.2.2.1 17 i).toInt ∧ (sMo.2.2.1 17 i).toInt ≤ 40
theorem P_plan {F : Nat} {sMn sRo sPl sMo : MS} (hR : RR sRo (sMo.2.2.1 15)) (H : HR (sMo.2.2.1 15) (sMo.1 14)) (hP : PP sPl sMo) (a x : Int32) :
    (∃ v sMn' sMo', f_X10_plan F sRo a x sMn sPl = some (v, sMn', sPl) ∧ f_X11_plan F a x sMo = some (v, sMo') ∧ TT sMn sMo sMn' sMo') ∨
    (∃ i : Nat, i < 8 ∧ 0 ≤ x.toInt ∧ x.toInt ≤ 40 ∧ f_X10_plan F sRo a x sMn sPl = some (1, sI sMn 11 0, sA sPl 0 i x) ∧ f_X11_plan F a x sMo = some (1, sA (sI (sI sMo 0 0) 11 0) 17 i x)) := by
  have h8 := hr_8 H
  unfold f_X10_plan f_X11_plan
  rw [X9_isLeft hR h8, bd_some, X11_good, bd_some, X11_isStop (HR_good H), bd_some]
  have e15 : (sI (sI sMo 0 0) 11 0).2.2.1 15 = sMo.2.2.1 15 := rfl
  rw [e15]
  cases h1 : isF (sMo.2.2.1 15) a with
  | false => exact Or.inl ⟨0, _, _, rfl, rfl, TT_no sMn sMo 1⟩
  | true =>
    obtain ⟨i, hi, hi9, rfl⟩ := ix_f h8.2 h1
    have hok := HRok H (i := i) (by omega)
    have z0 : (0 : Int32).toInt = 0 := rfl
    have e0 : (0 : Int32).toNatClampNeg = 0 := by decide
    rw [if_neg (c := bi true = 0) (by decide), if_neg (c := bi true = 0) (by decide), X9_isLevel hR, bd_some, gd_t (b := vpb (0 : Int32) 300) (by decide), lz_t (e := sMo.2.2.1 15 (0 : Int32).toNatClampNeg), X11_in, bd_some, e0, z0]
    show (∃ v sMn' sMo', (if bi (isL (sMo.2.2.1 15) x) = 0 then _ else _) = some (v, sMn', sPl) ∧ (if bi (isL (sMo.2.2.1 15) x) = 0 then _ else _) = some (v, sMo') ∧ TT sMn sMo sMn' sMo') ∨ (∃ j : Nat, j < 8 ∧ 0 ≤ x.toInt ∧ x.toInt ≤ 40 ∧ (if bi (isL (sMo.2.2.1 15) x) = 0 then _ else _) = some (1, sI sMn 11 0, sA sPl 0 j x) ∧ (if bi (isL (sMo.2.2.1 15) x) = 0 then _ else _) = some (1, sA (sI (sI sMo 0 0) 11 0) 17 j x))
    cases h2 : isL (sMo.2.2.1 15) x with
    | false => exact Or.inl ⟨0, _, _, rfl, rfl, TT_no sMn sMo 2⟩
    | true =>
      unfold isL at h2
      rw [Bool.and_eq_true, decide_eq_true_eq, decide_eq_true_eq] at h2
      have ht := hok.1
      obtain ⟨g1, g2⟩ := i9 i (by omega)
      refine Or.inr ⟨i, hi, h2.1, by omega, ?_, ?_⟩
      · rw [if_neg (by decide), gd_t g1, lz_t, g2]; rfl
      · rw [if_neg (by decide), gd_t g1, lz_t, g2]
