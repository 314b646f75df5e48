/-! legs: pints along the way -/
theorem oi {z : Int} (h : -2147483648 ≤ z ∧ z < 2147483648) : (Int32.ofInt z).toInt = z := by
  have e : (Int32.size : Nat) = 4294967296 := rfl
  rw [Int32.toInt_ofInt, e, Int.bmod_eq_of_le (by omega) (by omega)]
theorem oi_e {x : Int32} {z : Int} (h : x.toInt = z) : x = Int32.ofInt z := by
  have hr := i_rng x
  rw [i_eq, oi (by omega), h]
theorem oi_n (n : Nat) : Int32.ofInt (n : Int) = Int32.ofNat n := rfl
def lg (r : Nat → Int32) (i : Nat) : Int := (r (38 + (9 * (r (200 + i)).toNatClampNeg + (r (200 + (i + 1))).toNatClampNeg))).toInt
def up (r : Nat → Int32) : Nat → Int
  | 0 => 0
  | i + 1 => up r i + lg r i
theorem wy {r : Nat → Int32} (h : ROK r) {i : Nat} (hi : (i : Int) < (r 8).toInt) : ∃ p : Nat, p < 9 ∧ (p : Int) < (r 5).toInt ∧ r (200 + i) = Int32.ofNat p ∧ (r (200 + i)).toNatClampNeg = p := by
  have h1 := h.2.2.2.2.2.2.2.2.2.2.2.2.2.1 i hi
  have h5 := h.2.2.2.2.2.1
  have h2 := i_nat (r (200 + i)) h1.1
  refine ⟨(r (200 + i)).toNatClampNeg, by omega, by omega, ?_, rfl⟩
  rw [i_eq, lit_i _ (by omega)]; omega
theorem lg_b {r : Nat → Int32} (h : ROK r) {i : Nat} (hi : (i : Int) + 1 < (r 8).toInt) : 0 < lg r i ∧ lg r i ≤ 40 := by
  have h1 := h.2.2.2.2.2.2.2.2.2.2.2.2.2.2.1 i hi
  refine ⟨h1, ?_⟩
  obtain ⟨a, ha, -, -, ea⟩ := wy h (show (i : Int) < (r 8).toInt by omega)
  obtain ⟨b, hb, -, -, eb⟩ := wy h (show ((i + 1 : Nat) : Int) < (r 8).toInt by omega)
  unfold lg
  rw [ea, eb]
  exact (h.2.2.2.2.2.2.2.2.2.2.1 a b ha hb).2.1
theorem up_b {r : Nat → Int32} (h : ROK r) : ∀ (i : Nat), (i : Int) < (r 8).toInt → 0 ≤ up r i ∧ up r i ≤ 40 * i
  | 0, _ => by simp [up]
  | i + 1, hi => by
    have h1 := up_b h i (by omega)
    have h2 := lg_b h (i := i) (by omega)
    unfold up
    omega
theorem RR_up {s : MS} {r : Nat → Int32} (hR : RR s r) : ∀ (i : Nat), (i : Int) < (r 8).toInt → (s.2.2.1 16 i).toInt = up r i
  | 0, _ => hR.2.2.2.2.2.1
  | i + 1, hi => by
    have h1 := RR_up hR i (by omega)
    have h2 := hR.2.2.2.2.2.2.1 i (by omega)
    rw [h2, h1]; rfl
theorem one_n (i : Nat) : Int32.ofNat i + (1 : Int32) = Int32.ofNat (i + 1) := by
  rw [show (1 : Int32) = Int32.ofNat 1 from rfl, ← Int32.ofNat_add]
theorem X11_leg {F : Nat} {s : MS} (h : ROK (s.2.2.1 15)) {i : Nat} (hi : (i : Int) + 1 < (s.2.2.1 15 8).toInt) : f_X11_leg F s (Int32.ofNat i) = some (Int32.ofInt (lg (s.2.2.1 15) i)) := by
  have h8 := h.2.2.2.2.2.2.2.2.1
  obtain ⟨a, ha, -, ea, ea'⟩ := wy h (show (i : Int) < (s.2.2.1 15 8).toInt by omega)
  obtain ⟨b, hb, -, eb, eb'⟩ := wy h (show ((i + 1 : Nat) : Int) < (s.2.2.1 15 8).toInt by omega)
  unfold f_X11_leg
  rw [X11_placeOf (by omega), bd_some, one_n, X11_placeOf (by omega), bd_some, ea, eb, X11_roadOf ha hb, bd_some]
  congr 1
  refine oi_e ?_
  unfold lg
  rw [ea', eb']
theorem legsOf_go {F : Nat} {s : MS} (h : ROK (s.2.2.1 15)) (p1 : Int32) {j : Nat} (hj : (j : Int) < (s.2.2.1 15 8).toInt) : ∀ (d k n : Nat) (x : Int32), k + d = j → d < n → x.toInt + (up (s.2.2.1 15) j - up (s.2.2.1 15) k) < 1000 → 0 ≤ x.toInt → f_X11_legsOf_5 F s p1 (Int32.ofNat j) n x (Int32.ofNat k) = some (Int32.ofInt (x.toInt + (up (s.2.2.1 15) j - up (s.2.2.1 15) k)))
  | 0, k, 0, x, _, hn, _, _ => absurd hn (by omega)
  | 0, k, n + 1, x, hk, _, _, _ => by
    have h8 := h.2.2.2.2.2.2.2.2.1
    rw [f_X11_legsOf_5, if_pos (by rw [i_le, lit_i _ (by omega), lit_i _ (by omega)]; omega)]
    have e : k = j := by omega
    subst e
    congr 1
    exact oi_e (by omega)
  | d + 1, k, 0, x, _, hn, _, _ => absurd hn (by omega)
  | d + 1, k, n + 1, x, hk, hn, hb, h0 => by
    have h8 := h.2.2.2.2.2.2.2.2.1
    have l1 := lg_b h (i := k) (by omega)
    have hup : ∀ e, k + 1 + e ≤ j → up (s.2.2.1 15) (k + 1) ≤ up (s.2.2.1 15) (k + 1 + e) := by
      intro e
      induction e with
      | zero => intro _; exact Int.le_refl _
      | succ e ih =>
        intro he
        have := ih (by omega)
        have l2 := lg_b h (i := k + 1 + e) (by omega)
        have eq : up (s.2.2.1 15) (k + 1 + (e + 1)) = up (s.2.2.1 15) (k + 1 + e) + lg (s.2.2.1 15) (k + 1 + e) := rfl
        omega
    have hup1 := hup d (by omega)
    have ej : k + 1 + d = j := by omega
    rw [ej] at hup1
    have eq : up (s.2.2.1 15) (k + 1) = up (s.2.2.1 15) k + lg (s.2.2.1 15) k := rfl
    rw [f_X11_legsOf_5, if_neg (by rw [i_le, lit_i _ (by omega), lit_i _ (by omega)]; omega), X11_leg h (by omega), bd_some, lz_t, one_n]
    have ex : (x + Int32.ofInt (lg (s.2.2.1 15) k)).toInt = x.toInt + lg (s.2.2.1 15) k := by
      rw [i_add _ _ (by rw [oi (by omega)]; omega), oi (by omega)]
    rw [legsOf_go h p1 hj d (k + 1) n _ (by omega) (by omega) (by rw [ex]; omega) (by rw [ex]; omega), ex]
    congr 2
    omega
theorem X11_legsOf {F : Nat} {s : MS} (hF : 100 ≤ F) (h : ROK (s.2.2.1 15)) {i j : Nat} (hij : i ≤ j) (hj : (j : Int) < (s.2.2.1 15 8).toInt) : f_X11_legsOf F s (Int32.ofNat i) (Int32.ofNat j) = some (Int32.ofInt (up (s.2.2.1 15) j - up (s.2.2.1 15) i)) := by
  have h8 := h.2.2.2.2.2.2.2.2.1
  have b1 := up_b h j hj
  have b2 := up_b h i (by omega)
  have z0 : (0 : Int32).toInt = 0 := rfl
  unfold f_X11_legsOf
  rw [legsOf_go h _ hj (j - i) i F 0 (by omega) (by omega) (by rw [z0]; omega) (by rw [z0]; omega), z0]
  congr 2
  omega
theorem X9_legsPints {F : Nat} {s : MS} {r : Nat → Int32} (hR : RR s r) (h : ROK r) {i j : Nat} (hi : (i : Int) < (r 8).toInt) (hj : (j : Int) < (r 8).toInt) : f_X9_legsPints F s (Int32.ofNat i) (Int32.ofNat j) = some (Int32.ofInt (up r j - up r i)) := by
  have h8 := h.2.2.2.2.2.2.2.2.1
  obtain ⟨g1, g2⟩ := i9 i (by omega)
  obtain ⟨g3, g4⟩ := i9 j (by omega)
  have b1 := up_b h j hj
  have b2 := up_b h i hi
  unfold f_X9_legsPints
  rw [gd_t g3, lz_t, gd_t g1, lz_t, g2, g4]
  congr 1
  refine oi_e ?_
  rw [i_sub _ _ (by rw [RR_up hR i hi, RR_up hR j hj]; omega), RR_up hR i hi, RR_up hR j hj]
