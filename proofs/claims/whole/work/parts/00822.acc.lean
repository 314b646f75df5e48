/-! a road's numbers as integers -/
def rd (r : Nat → Int32) (k : Nat) : Int := (r k).toInt
theorem rd_e (r : Nat → Int32) (k : Nat) : r k = Int32.ofInt (rd r k) := n_out (r k)
def rp (r : Nat → Int32) (i : Nat) : Int := (pr r i).toInt
theorem ROKb {r : Nat → Int32} (h : ROK r) : (1 ≤ rd r 0 ∧ rd r 0 ≤ 40) ∧ (0 ≤ rd r 1 ∧ rd r 1 ≤ rd r 0) ∧ (0 ≤ rd r 2 ∧ rd r 2 ≤ 99) ∧ (0 ≤ rd r 3 ∧ rd r 3 ≤ 60) ∧ (0 ≤ rd r 4 ∧ rd r 4 ≤ 999) ∧ (0 ≤ rd r 5 ∧ rd r 5 ≤ 9) ∧ (2 ≤ rd r 8 ∧ rd r 8 ≤ 9) ∧ (0 ≤ rd r 9 ∧ rd r 9 ≤ 5) :=
  ⟨h.1, h.2.1, h.2.2.1, h.2.2.2.1, h.2.2.2.2.1, h.2.2.2.2.2.1, h.2.2.2.2.2.2.2.2.1, h.2.2.2.2.2.2.2.2.2.1⟩
theorem RRb {s : MS} {r : Nat → Int32} (h : RR s r) : s.1 0 = Int32.ofInt (rd r 0) ∧ s.1 1 = Int32.ofInt (rd r 1) ∧ s.1 2 = Int32.ofInt (rd r 2) ∧ s.1 3 = Int32.ofInt (rd r 3) ∧ s.1 4 = Int32.ofInt (rd r 4) ∧ s.1 5 = Int32.ofInt (rd r 5) ∧ s.1 8 = Int32.ofInt (rd r 8) ∧ s.1 9 = Int32.ofInt (rd r 9) := by
  refine ⟨?_, ?_, ?_, ?_, ?_, ?_, ?_, ?_⟩ <;> rw [h.1 _ (by decide)] <;> exact rd_e r _
theorem rp_b {r : Nat → Int32} (h : ROK r) {i : Nat} (hi : (i : Int) < rd r 8) : 0 ≤ rp r i ∧ rp r i ≤ 99 := pr_b h hi
theorem lg_c {r : Nat → Int32} (h : ROK r) {i : Nat} (hi : (i : Int) + 1 < rd r 8) : 0 < lg r i ∧ lg r i ≤ 40 := lg_b h hi
theorem A9_leg {F : Nat} {s : MS} {r : Nat → Int32} (hR : RR s r) (h : ROK r) (i : Nat) (hi : (i : Int) + 1 < rd r 8) : f_X9_legPints F s (Int32.ofInt (i : Int)) = some (Int32.ofInt (lg r i)) := X9_legPints hR h hi
theorem A9_has {F : Nat} {s : MS} {r : Nat → Int32} (hR : RR s r) (h : ROK r) (i : Nat) (hi : (i : Int) < rd r 8) : f_X9_hasPumpAt F s (Int32.ofInt (i : Int)) = some (bi (decide (0 < rp r i))) := X9_hasPumpAt hR h hi
theorem A9_price {F : Nat} {s : MS} {r : Nat → Int32} (hR : RR s r) (h : ROK r) (i : Nat) (hi : (i : Int) < rd r 8) : f_X9_priceAt F s (Int32.ofInt (i : Int)) (Int32.ofInt 0) = some (Int32.ofInt (rp r i)) := by
  have := X9_priceAt0 (F := F) hR h hi
  rw [n_out (pr r i)] at this
  exact this
theorem A11_leg {F : Nat} {s : MS} {r : Nat → Int32} (hs : s.2.2.1 15 = r) (h : ROK r) (i : Nat) (hi : (i : Int) + 1 < rd r 8) : f_X11_leg F s (Int32.ofInt (i : Int)) = some (Int32.ofInt (lg r i)) := by
  subst hs
  exact X11_leg h hi
theorem A11_price {F : Nat} {s : MS} {r : Nat → Int32} (hs : s.2.2.1 15 = r) (h : ROK r) (i : Nat) (hi : (i : Int) < rd r 8) : f_X11_priceAt F s (Int32.ofInt (i : Int)) = some (Int32.ofInt (rp r i)) := by
  subst hs
  have := X11_priceAt (F := F) h hi
  rw [n_out (pr (s.2.2.1 15) i)] at this
  exact this
theorem A11_last {F : Nat} {s : MS} {r : Nat → Int32} (hs : s.2.2.1 15 = r) (h : ROK r) : f_X11_lastStation F s = some (Int32.ofInt (rd r 8 - 1)) := by
  subst hs
  exact X11_lastStation h
theorem tn_41 (i f : Nat) : (41 * (i : Int) + (f : Int)).toNat = 41 * i + f := by omega
/-- two arrays alone are other -/
def FW (s s' : MS) (a b : Nat) : Prop := s'.1 = s.1 ∧ s'.2.1 = s.2.1 ∧ s'.2.2.2 = s.2.2.2 ∧ ∀ k, k ≠ a → k ≠ b → s'.2.2.1 k = s.2.2.1 k
theorem FW_r (s : MS) (a b : Nat) : FW s s a b := ⟨rfl, rfl, rfl, fun _ _ _ => rfl⟩
theorem FW_t {s s' s2 : MS} {a b : Nat} (h : FW s s' a b) (g : FW s' s2 a b) : FW s s2 a b := ⟨g.1.trans h.1, g.2.1.trans h.2.1, g.2.2.1.trans h.2.2.1, fun k h1 h2 => (g.2.2.2 k h1 h2).trans (h.2.2.2 k h1 h2)⟩
theorem FW_a (s : MS) (a b i : Nat) (v : Int32) : FW s (sA s a i v) a b := ⟨rfl, rfl, rfl, fun k h1 _ => uN_n _ _ _ _ h1⟩
theorem FW_b (s : MS) (a b i : Nat) (v : Int32) : FW s (sA s b i v) a b := ⟨rfl, rfl, rfl, fun k _ h1 => uN_n _ _ _ _ h1⟩
theorem mulb {p : Int} {x : Nat} (hp : 0 ≤ p) (hx : x ≤ 40) : 0 ≤ p * (x : Int) ∧ p * (x : Int) ≤ 40 * p := by
  have h1 := Int.mul_nonneg hp (show 0 ≤ (x : Int) by omega)
  have h2 := Int.mul_le_mul_of_nonneg_left (show (x : Int) ≤ 40 by omega) hp
  omega
/-! the choice: with how many pints one leaves -/
def cC (lv : Nat → Int) (p s : Int) (f n : Nat) : Int := lv (f + n) + p * (n : Int) + (if n = 0 then 0 else s)
theorem choose_go {F : Nat} (T : Nat) (lv : Nat → Int) (p s : Int) (hT : T ≤ 40) (hp : 0 ≤ p) (hp2 : p ≤ 100000000000000) (hs : 0 ≤ s) (hs2 : s ≤ 1000000000000000) (fq : Nat → Int64) (hf : ∀ x : Nat, x ≤ T → fq x = Int64.ofInt (lv x) ∧ 0 ≤ lv x ∧ lv x ≤ 100000000000000000) :
    ∀ (d b n : Nat) (g : Nat → Int32), d < n → d ≤ T + 1 → b ≤ T → (d = T + 1 → b = T) → (d ≤ T → d ≤ b ∧ (∀ x, d ≤ x → x ≤ T → lv b + p * (b : Int) ≤ lv x + p * (x : Int)) ∧ (∀ x, d ≤ x → x < b → lv b + p * (b : Int) < lv x + p * (x : Int))) →
    ∃ g', f_X4_choose_6 F 41 fq 41 (Int32.ofInt (T : Int)) (Int64.ofInt p) (Int64.ofInt s) n (Int32.ofInt (b : Int)) (Int32.ofInt ((d : Int) - 1)) g = some g' ∧ (∀ x : Nat, x < d → g' x = Int32.ofInt ((x + minTo (cC lv p s x) (T - x) : Nat) : Int)) ∧ (∀ x : Nat, ¬ x < d → g' x = g x) := by
  intro d
  induction d with
  | zero =>
    intro b n g hn hd hb _ _
    cases n with
    | zero => omega
    | succ n =>
      refine ⟨g, ?_, fun x hx => by omega, fun _ _ => rfl⟩
      rw [f_X4_choose_6]
      simp (disch := omega) only [z_0, z_1, z_2, z_3, z_4, z_5, z_6, z_7, z_8, z_9, z_10, z_11, z_12, z_14, z_18, z_20, z_22, z_24, z_32, z_38, z_40, z_41, z_44, z_48, z_49, z_57, z_59, z_60, z_63, z_65, z_74, z_75, z_81, z_97, z_99, z_104, z_115, z_119, z_122, z_200, z_209, z_210, z_219, z_228, z_255, z_300, z_369, z_999, z_65537, z_268435456, z_1000000000, n_nat, n_add, n_sub, n_mul, n_neg, n_lt, n_le, n_eq, n_ix, n_gd, n_nz, lz_t, bd_some, tn, Int.reduceToNat, tn_1, if_pos, if_neg, if_true, if_false, sI_a, sI_b, sL_a, sL_b, sL_c, wA_a, wA_b, wA_c, wA_d, wB_a, wB_b, wB_c, wB_d, sA_w, sB_w, uN_s, uN_n, up_s, up_n, ul_s, ul_n, p_fst, p_snd, y_0, y_1, y_2, y_10, y_20, y_1099511627776, m_add, m_sub, m_mul, m_neg, m_lt, m_le, m_eq, m_of, m_nz, m_to, c_gt, c_ge, c_lt, c_le, c_eq]
  | succ d ih =>
    intro b n g hn hd hb hb1 hb2
    cases n with
    | zero => omega
    | succ n =>
      have e1 : ((d + 1 : Nat) : Int) - 1 = d := by omega
      obtain ⟨fb, lb, lb2⟩ := hf b hb
      obtain ⟨fd, ld, ld2⟩ := hf d (by omega)
      obtain ⟨pb, pb2⟩ := mulb (x := b) hp (by omega)
      obtain ⟨pd, pd2⟩ := mulb (x := d) hp (by omega)
      have pbd : p * ((b : Int) - d) = p * b - p * d := Int.mul_sub p b d
      have hcd : cC lv p s d 0 = lv d := by simp [cC]
      have hck : ∀ k : Nat, 0 < k → cC lv p s d k = lv (d + k) + p * ((d + k : Nat) : Int) - p * d + s := by
        intro k hk
        unfold cC
        rw [if_neg (by omega), Int.natCast_add, Int.mul_add]
        omega
      -- the choice here
      have hch : d + minTo (cC lv p s d) (T - d) = (if s + p * ((b : Int) - d) + lv b < lv d then b else d) := by
        by_cases cT : d = T
        · have : b = T := hb1 (by omega)
          subst cT
          subst this
          rw [if_neg (by rw [pbd]; omega), Nat.sub_self]
          rfl
        · obtain ⟨q1, q2, q3⟩ := hb2 (by omega)
          have hkb := hck (b - d) (by omega)
          rw [show d + (b - d) = b by omega] at hkb
          by_cases c : s + p * ((b : Int) - d) + lv b < lv d
          · rw [if_pos c, minTo_u (cC lv p s d) (T - d) (b - d) (by omega)]
            · omega
            · intro k hk
              by_cases k0 : k = 0
              · subst k0; rw [hcd, hkb]; omega
              · have := q2 (d + k) (by omega) (by omega)
                rw [hck k (by omega), hkb]; omega
            · intro k hk
              by_cases k0 : k = 0
              · subst k0; rw [hcd, hkb]; omega
              · have := q3 (d + k) (by omega) (by omega)
                rw [hck k (by omega), hkb]; omega
          · rw [if_neg c, minTo_u (cC lv p s d) (T - d) 0 (by omega)]
            · rfl
            · intro k hk
              by_cases k0 : k = 0
              · subst k0; exact Int.le_refl _
              · have := q2 (d + k) (by omega) (by omega)
                rw [hck k (by omega), hcd]; omega
            · intro k hk
              omega
      -- the best from here on
      have key : ∀ (g1 : Nat → Int32), ∃ g', (if lv b + p * (b : Int) < lv d + p * (d : Int) then f_X4_choose_6 F 41 fq 41 (Int32.ofInt (T : Int)) (Int64.ofInt p) (Int64.ofInt s) n (Int32.ofInt (b : Int)) (Int32.ofInt ((d : Int) + -1)) g1 else f_X4_choose_6 F 41 fq 41 (Int32.ofInt (T : Int)) (Int64.ofInt p) (Int64.ofInt s) n (Int32.ofInt (d : Int)) (Int32.ofInt ((d : Int) + -1)) g1) = some g' ∧ (∀ x : Nat, x < d → g' x = Int32.ofInt ((x + minTo (cC lv p s x) (T - x) : Nat) : Int)) ∧ (∀ x : Nat, ¬ x < d → g' x = g1 x) := by
        intro g1
        by_cases c : lv b + p * (b : Int) < lv d + p * (d : Int)
        · rw [if_pos c]
          have bd1 : b ≠ d := fun q => by subst q; omega
          refine ih b n g1 (by omega) (by omega) hb (by omega) (fun _ => ?_)
          obtain ⟨q1, q2, q3⟩ := hb2 (by
            rcases Nat.lt_or_ge d T with q | q
            · omega
            · exact absurd (hb1 (by omega)) (by omega))
          refine ⟨by omega, ?_, ?_⟩
          · intro x h1 h2
            by_cases e : x = d
            · subst e; omega
            · exact q2 x (by omega) h2
          · intro x h1 h2
            by_cases e : x = d
            · subst e; omega
            · exact q3 x (by omega) h2
        · rw [if_neg c]
          refine ih d n g1 (by omega) (by omega) (by omega) (by omega) (fun _ => ⟨by omega, ?_, by omega⟩)
          intro x h1 h2
          by_cases e : x = d
          · subst e; omega
          · have := (hb2 (by omega)).2.1 x (by omega) h2
            omega
      rw [f_X4_choose_6, e1]
      obtain ⟨g', k1, k2, k3⟩ := key (upd g d (Int32.ofInt ((d + minTo (cC lv p s d) (T - d) : Nat) : Int)))
      refine ⟨g', ?_, ?_, ?_⟩
      · rw [← k1, hch]
        by_cases c : s + p * ((b : Int) - d) + lv b < lv d
        · simp (disch := omega) only [f_X4_choose_50, f_X4_choose_79, z_0, z_1, z_2, z_3, z_4, z_5, z_6, z_7, z_8, z_9, z_10, z_11, z_12, z_14, z_18, z_20, z_22, z_24, z_32, z_38, z_40, z_41, z_44, z_48, z_49, z_57, z_59, z_60, z_63, z_65, z_74, z_75, z_81, z_97, z_99, z_104, z_115, z_119, z_122, z_200, z_209, z_210, z_219, z_228, z_255, z_300, z_369, z_999, z_65537, z_268435456, z_1000000000, n_nat, n_add, n_sub, n_mul, n_neg, n_lt, n_le, n_eq, n_ix, n_gd, n_nz, lz_t, bd_some, tn, Int.reduceToNat, tn_1, if_pos, if_neg, if_true, if_false, sI_a, sI_b, sL_a, sL_b, sL_c, wA_a, wA_b, wA_c, wA_d, wB_a, wB_b, wB_c, wB_d, sA_w, sB_w, uN_s, uN_n, up_s, up_n, ul_s, ul_n, p_fst, p_snd, y_0, y_1, y_2, y_10, y_20, y_1099511627776, m_add, m_sub, m_mul, m_neg, m_lt, m_le, m_eq, m_of, m_nz, m_to, c_gt, c_ge, c_lt, c_le, c_eq, fb, fd]
        · simp (disch := omega) only [f_X4_choose_50, f_X4_choose_79, z_0, z_1, z_2, z_3, z_4, z_5, z_6, z_7, z_8, z_9, z_10, z_11, z_12, z_14, z_18, z_20, z_22, z_24, z_32, z_38, z_40, z_41, z_44, z_48, z_49, z_57, z_59, z_60, z_63, z_65, z_74, z_75, z_81, z_97, z_99, z_104, z_115, z_119, z_122, z_200, z_209, z_210, z_219, z_228, z_255, z_300, z_369, z_999, z_65537, z_268435456, z_1000000000, n_nat, n_add, n_sub, n_mul, n_neg, n_lt, n_le, n_eq, n_ix, n_gd, n_nz, lz_t, bd_some, tn, Int.reduceToNat, tn_1, if_pos, if_neg, if_true, if_false, sI_a, sI_b, sL_a, sL_b, sL_c, wA_a, wA_b, wA_c, wA_d, wB_a, wB_b, wB_c, wB_d, sA_w, sB_w, uN_s, uN_n, up_s, up_n, ul_s, ul_n, p_fst, p_snd, y_0, y_1, y_2, y_10, y_20, y_1099511627776, m_add, m_sub, m_mul, m_neg, m_lt, m_le, m_eq, m_of, m_nz, m_to, c_gt, c_ge, c_lt, c_le, c_eq, fb, fd]
      · intro x hx
        by_cases e : x = d
        · subst e
          rw [k3 x (by omega), up_s]
        · exact k2 x (by omega)
      · intro x hx
        rw [k3 x (by omega), up_n _ _ _ _ (by omega)]
