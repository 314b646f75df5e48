/-! lasts -/
def isL (r : Nat → Int32) (x : Int32) : Bool := decide (0 ≤ x.toInt) && decide (x.toInt ≤ (r 0).toInt)
theorem X9_isLevel {F : Nat} {s : MS} {r : Nat → Int32} (hR : RR s r) (p : Int32) : f_X9_isLevel F s p = some (bi (isL r p)) := by
  have h5 : s.1 0 = r 0 := hR.1 0 (by decide)
  unfold f_X9_isLevel isL
  rw [h5]
  simp only [i_lt]
  have h0 : (0 : Int32).toInt = 0 := rfl
  rw [h0]
  by_cases c1 : p.toInt < 0
  · rw [if_pos c1]
    have : ¬ 0 ≤ p.toInt := by omega
    simp [this, bi]
  · rw [if_neg c1]
    have c2 : 0 ≤ p.toInt := by omega
    by_cases c3 : (r 0).toInt < p.toInt
    · rw [if_pos c3]
      have : ¬ p.toInt ≤ (r 0).toInt := by omega
      simp [this, bi]
    · rw [if_neg c3]
      have : p.toInt ≤ (r 0).toInt := by omega
      simp [this, c2, bi]
theorem X11_lastStation {F : Nat} {s : MS} (h : ROK (s.2.2.1 15)) : f_X11_lastStation F s = some (Int32.ofInt ((s.2.2.1 15 8).toInt - 1)) := by
  have h8 := h.2.2.2.2.2.2.2.2.1
  unfold f_X11_lastStation
  rw [gd_t (by decide), lz_t]
  have e5 : (8 : Int32).toNatClampNeg = 8 := by decide
  rw [e5]
  congr 1
  refine oi_e ?_
  rw [i_sub _ _ (by have : (1 : Int32).toInt = 1 := rfl; omega)]; rfl
theorem up_mono {r : Nat → Int32} (h : ROK r) {i j : Nat} (hij : i ≤ j) (hj : (j : Int) < (r 8).toInt) : up r i ≤ up r j := by
  obtain ⟨d, rfl⟩ : ∃ d, j = i + d := ⟨j - i, by omega⟩
  clear hij
  induction d with
  | zero => exact Int.le_refl _
  | succ d ih =>
    have := ih (by omega)
    have l := lg_b h (i := i + d) (by omega)
    have e : up r (i + (d + 1)) = up r (i + d) + lg r (i + d) := rfl
    omega
/-- the last station to which so many pints last from i on: j, by its property -/
def lastJ (r : Nat → Int32) (i : Nat) (x : Int) (j : Nat) : Prop := i ≤ j ∧ (j : Int) < (r 8).toInt ∧ up r j - up r i ≤ x ∧ ((j : Int) + 1 < (r 8).toInt → x < up r (j + 1) - up r i)
theorem lastJ_ex {r : Nat → Int32} {i : Nat} {x : Int} (h : ROK r) (hi : (i : Int) < (r 8).toInt) (hx : 0 ≤ x) : ∃ j, lastJ r i x j := by
  have key : ∀ (d j : Nat), i ≤ j → (j : Int) + d + 1 = (r 8).toInt → up r j - up r i ≤ x → ∃ j, lastJ r i x j := by
    intro d
    induction d with
    | zero => intro j h1 h2 h3; exact ⟨j, h1, by omega, h3, fun q => absurd q (by omega)⟩
    | succ d ih =>
      intro j h1 h2 h3
      by_cases c : x < up r (j + 1) - up r i
      · exact ⟨j, h1, by omega, h3, fun _ => c⟩
      · exact ih (j + 1) (by omega) (by omega) (by omega)
  exact key ((r 8).toInt - 1 - i).toNat i (Nat.le_refl i) (by omega) (by omega)
theorem lastReached_go {F : Nat} {s : MS} {r : Nat → Int32} (hR : RR s r) (h : ROK r) {i j : Nat} {x : Int32} (hj : lastJ r i x.toInt j) (hx : 0 ≤ x.toInt) (hi : (i : Int) < (r 8).toInt) : ∀ (d k n : Nat), (k : Int) + d = (r 8).toInt → d < n → i ≤ k → f_X9_lastReached_5 F s (Int32.ofNat i) x n (Int32.ofNat (if k ≤ j then (if i < k then k - 1 else i) else j)) (Int32.ofNat k) = some (Int32.ofNat j) := by
  obtain ⟨hj1, hj2, hj3, hj4⟩ := hj
  have h8 := h.2.2.2.2.2.2.2.2.1
  have e8 : s.1 8 = r 8 := hR.1 8 (by decide)
  intro d
  induction d with
  | zero =>
    intro k n h1 h2 h3
    cases n with
    | zero => omega
    | succ n =>
      rw [f_X9_lastReached_5, e8, if_pos (by rw [i_le, lit_i _ (by omega)]; omega), if_neg (by omega)]
  | succ d ih =>
    intro k n h1 h2 h3
    cases n with
    | zero => omega
    | succ n =>
      obtain ⟨g1, g2⟩ := i9 i (by omega)
      obtain ⟨g3, g4⟩ := i9 k (by omega)
      have uk := up_b h k (by omega)
      have ui := up_b h i (by omega)
      rw [f_X9_lastReached_5, e8, if_neg (by rw [i_le, lit_i _ (by omega)]; omega), gd_t g3, lz_t, gd_t g1, lz_t, g2, g4]
      unfold f_X9_lastReached_35
      rw [lz_t, one_n]
      have e : (s.2.2.1 16 k - s.2.2.1 16 i).toInt = up r k - up r i := by
        rw [i_sub _ _ (by rw [RR_up hR i hi, RR_up hR k (by omega)]; omega), RR_up hR i hi, RR_up hR k (by omega)]
      by_cases c : x.toInt < up r k - up r i
      · rw [if_pos (by rw [i_lt, e]; exact c)]
        have hjk : j < k := by
          rcases Nat.lt_or_ge j k with q | q
          · exact q
          · have := up_mono h q hj2
            omega
        have := ih (k + 1) n (by omega) (by omega) (by omega)
        rw [if_neg (by omega)] at this
        rw [if_neg (by omega)]
        exact this
      · rw [if_neg (by rw [i_lt, e]; exact c)]
        have hkj : k ≤ j := by
          rcases Nat.lt_or_ge j k with q | q
          · have h9 := hj4 (by omega)
            have := up_mono h (show j + 1 ≤ k by omega) (show (k : Int) < (r 8).toInt by omega)
            omega
          · exact q
        have := ih (k + 1) n (by omega) (by omega) (by omega)
        by_cases c2 : k + 1 ≤ j
        · rw [if_pos c2, if_pos (by omega)] at this
          rw [show k + 1 - 1 = k by omega] at this
          rw [lz_t]
          exact this
        · have e9 : k = j := by omega
          rw [if_neg c2] at this
          rw [e9] at this ⊢
          exact this
theorem X9_lastReached {F : Nat} (hF : 100 ≤ F) {s : MS} {r : Nat → Int32} (hR : RR s r) (h : ROK r) {i j : Nat} {x : Int32} (hj : lastJ r i x.toInt j) (hx : 0 ≤ x.toInt) (hi : (i : Int) < (r 8).toInt) : f_X9_lastReached F s (Int32.ofNat i) x = some (Int32.ofNat j) := by
  have h8 := h.2.2.2.2.2.2.2.2.1
  unfold f_X9_lastReached
  have := lastReached_go (F := F) hR h hj hx hi ((r 8).toInt - i).toNat i F (by omega) (by omega) (Nat.le_refl i)
  rw [if_pos hj.1, if_neg (by omega)] at this
  exact this
theorem lasts_go {F : Nat} (hF : 100 ≤ F) {s : MS} (h : ROK (s.2.2.1 15)) {i j : Nat} {x : Int32} (hj : lastJ (s.2.2.1 15) i x.toInt j) (hi : (i : Int) < (s.2.2.1 15 8).toInt) : ∀ (d k n : Nat), k + d = j → d < n → i ≤ k → f_X11_lasts_40 F (Int32.ofNat i) x n (Int32.ofNat k) s = some (Int32.ofNat j, s) := by
  obtain ⟨hj1, hj2, hj3, hj4⟩ := hj
  have h8 := h.2.2.2.2.2.2.2.2.1
  intro d
  induction d with
  | zero =>
    intro k n h1 h2 h3
    cases n with
    | zero => omega
    | succ n =>
      have e : k = j := by omega
      subst e
      rw [f_X11_lasts_40, X11_lastStation h, bd_some]
      by_cases c : (k : Int) + 1 < (s.2.2.1 15 8).toInt
      · rw [if_neg (by rw [i_le, oi (by omega), lit_i _ (by omega)]; omega), one_n, X11_legsOf hF h (by omega) (by omega), bd_some]
        have b1 := up_b h (k + 1) (by omega)
        have b2 := up_b h i (by omega)
        rw [if_pos (by rw [i_lt, oi (by omega)]; exact hj4 c)]
      · rw [if_pos (by rw [i_le, oi (by omega), lit_i _ (by omega)]; omega)]
  | succ d ih =>
    intro k n h1 h2 h3
    cases n with
    | zero => omega
    | succ n =>
      have b1 := up_b h (k + 1) (by omega)
      have b2 := up_b h i (by omega)
      have m1 := up_mono h (show k + 1 ≤ j by omega) hj2
      rw [f_X11_lasts_40, X11_lastStation h, bd_some, if_neg (by rw [i_le, oi (by omega), lit_i _ (by omega)]; omega), one_n, X11_legsOf hF h (by omega) (by omega), bd_some, if_neg (by rw [i_lt, oi (by omega)]; omega), lz_t]
      exact ih (k + 1) n (by omega) (by omega) (by omega)
theorem P_lasts {F : Nat} (hF : 100 ≤ F) {sMn sRo sMo : MS} (hR : RR sRo (sMo.2.2.1 15)) (H : HR (sMo.2.2.1 15) (sMo.1 14)) (a x : Int32) :
    ∃ v sMn' sMo', f_X10_lasts F sRo a x sMn = some (v, sMn') ∧ f_X11_lasts F a x sMo = some (v, sMo') ∧ TT sMn sMo sMn' sMo' := by
  have h8 := hr_8 H
  unfold f_X10_lasts f_X11_lasts
  rw [X9_isStation hR, bd_some, X11_good, bd_some, X11_isStation (HR_good H), bd_some]
  have e15 : (sI (sI sMo 0 0) 11 0).2.2.1 15 = sMo.2.2.1 15 := rfl
  rw [e15]
  cases h1 : isS (sMo.2.2.1 15) a with
  | false => exact ⟨-1, _, _, rfl, rfl, TT_no sMn sMo 1⟩
  | true =>
    obtain ⟨i, hi, hi9, rfl⟩ := ix_s h8.2 h1
    have hok := HRok H hi9
    rw [if_neg (c := bi true = 0) (by decide), if_neg (c := bi true = 0) (by decide), X9_isLevel hR, bd_some, gd_t (by decide), lz_t, X11_in, bd_some]
    have z0 : (0 : Int32).toInt = 0 := rfl
    have e0 : (0 : Int32).toNatClampNeg = 0 := by decide
    rw [e0, z0]
    show ∃ v sMn' sMo', (if bi (isL (sMo.2.2.1 15) x) = 0 then _ else _) = some (v, sMn') ∧ (if bi (isL (sMo.2.2.1 15) x) = 0 then _ else _) = some (v, sMo') ∧ TT sMn sMo sMn' sMo'
    cases h2 : isL (sMo.2.2.1 15) x with
    | false => exact ⟨-1, _, _, rfl, rfl, TT_no sMn sMo 2⟩
    | true =>
      unfold isL at h2
      rw [Bool.and_eq_true, decide_eq_true_eq, decide_eq_true_eq] at h2
      obtain ⟨j, hj⟩ := lastJ_ex hok hi9 h2.1
      rw [if_neg (by decide), if_neg (by decide), X9_lastReached hF hR hok hj h2.1 hi9, bd_some, lasts_go (s := sI (sI sMo 0 0) 11 0) hF hok hj hi9 (j - i) i F (by have := hj.1; omega) (by have := hj.2.1; omega) (Nat.le_refl i)]
      exact ⟨_, _, _, rfl, rfl, TT_ok sMn sMo⟩
