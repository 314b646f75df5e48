/-! the reference's means -/
def rC (lv : Nat → Int) (su : Bool) (price st tw : Int) (x n : Nat) : Int := lv (x + n) + (if su = true ∨ n = 0 then 0 else ((n : Int) * price + st) * tw)
def rN (r : Nat → Int32) (how : Int) (i : Nat) (lv : Nat → Int) (tw price : Int) (x : Nat) : Nat := if how = 4 then minTo (rC lv (decide (5 ≤ how)) price (rd r 2) tw x) ((rd r 0).toNat - x) else if how = 5 then minTo (fun n => - rC lv (decide (5 ≤ how)) price (rd r 2) tw x n) ((rd r 0).toNat - x) else (bo r (if 5 < how then how - 6 else how) i x price).toNat
def rLv (r : Nat → Int32) (how : Int) (d : Nat) (M : Nat → Int) : Nat → Int := lvA (if decide (5 ≤ how) then 0 else rd r 4 * Qd d) (lg r ((rd r 8).toNat - 2 - d)) M
def rP (r : Nat → Int32) (how : Int) (i d : Nat) (lv : Nat → Int) (price : Int) (x : Nat) : Int := rC lv (decide (5 ≤ how)) price (rd r 2) (Qd d) x (rN r how i lv (Qd d) price x)
def mM1 (r : Nat → Int32) (how : Int) (i d : Nat) (lv : Nat → Int) (x : Nat) : Int := if rp r i = 0 then 20 * rC lv (decide (5 ≤ how)) 0 (rd r 2) (Qd d) x 0 else 2 * rd r (13 + 3 * wp r i) * rC lv (decide (5 ≤ how)) 0 (rd r 2) (Qd d) x 0 + (10 - rd r (13 + 3 * wp r i)) * rP r how i d lv (rp r i) x + (10 - rd r (13 + 3 * wp r i)) * rP r how i d lv (dr r i) x
def mM (r : Nat → Int32) (how : Int) : Nat → Nat → Int
  | 0, _ => if 5 ≤ how then 1 else 0
  | d + 1, x => mM1 r how ((rd r 8).toNat - 2 - d) d (rLv r how d (mM r how d)) x
theorem mM_z (r : Nat → Int32) (how : Int) (x : Nat) : mM r how 0 x = if 5 ≤ how then 1 else 0 := rfl
theorem mM_s (r : Nat → Int32) (how : Int) (d x : Nat) : mM r how (d + 1) x = mM1 r how ((rd r 8).toNat - 2 - d) d (rLv r how d (mM r how d)) x := rfl
theorem rN_b {r : Nat → Int32} (h : ROK r) {how : Int} {i : Nat} {lv : Nat → Int} {tw price : Int} {x : Nat} (hx : x ≤ (rd r 0).toNat) : x + rN r how i lv tw price x ≤ (rd r 0).toNat := by
  obtain ⟨t0, t1, t2, t3, t4, t5, t8, t9⟩ := ROKb h
  unfold rN
  split
  · have := minTo_le (rC lv (decide (5 ≤ how)) price (rd r 2) tw x) ((rd r 0).toNat - x)
    omega
  · split
    · have := minTo_le (fun n => - rC lv (decide (5 ≤ how)) price (rd r 2) tw x n) ((rd r 0).toNat - x)
      omega
    · have := bo_b (r := r) (rule := if 5 < how then how - 6 else how) (i := i) (has := x) (price := price) (by omega) (by omega)
      omega
theorem rC_b {lv : Nat → Int} {su : Bool} {p s tw : Int} {x n : Nat} {B Q : Int} (h1 : 0 ≤ lv (x + n)) (h2 : lv (x + n) ≤ B) (hn : n ≤ 40) (hp : 0 ≤ p) (hp2 : p ≤ 99) (hs : 0 ≤ s) (hs2 : s ≤ 99) (ht : 0 ≤ tw) (ht2 : tw ≤ Q) : 0 ≤ rC lv su p s tw x n ∧ rC lv su p s tw x n ≤ B + 4059 * Q := by
  have m := mulg (show 0 ≤ (n : Int) by omega) (show (n : Int) ≤ 40 by omega) hp hp2
  have m2 := mulg (show 0 ≤ (n : Int) * p + s by omega) (show (n : Int) * p + s ≤ 4059 by omega) ht ht2
  unfold rC
  split <;> omega
theorem mM1_b {r : Nat → Int32} (h : ROK r) {how : Int} {i d : Nat} (hi : (i : Int) < rd r 8) (hd : d < 9) {lv : Nat → Int} {B : Int} (hlv : ∀ x, x ≤ (rd r 0).toNat → 0 ≤ lv x ∧ lv x ≤ B) {x : Nat} (hx : x ≤ (rd r 0).toNat) : 0 ≤ mM1 r how i d lv x ∧ mM1 r how i d lv x ≤ 20 * (B + 4059 * Qd d) := by
  obtain ⟨t0, t1, t2, t3, t4, t5, t8, t9⟩ := ROKb h
  have qb := QB_b d hd
  have pb := pumpB h (wp_b h hi).1
  have rb := rp_b h hi
  have db := dr_b h hi
  have c1 := rN_b h (how := how) (i := i) (lv := lv) (tw := Qd d) (price := rp r i) hx
  have c2 := rN_b h (how := how) (i := i) (lv := lv) (tw := Qd d) (price := dr r i) hx
  have b1 := hlv _ c1
  have b2 := hlv _ c2
  have b0 := hlv x hx
  have a0 := rC_b (su := decide (5 ≤ how)) (p := 0) (s := rd r 2) (tw := Qd d) (Q := Qd d) (n := 0) b0.1 b0.2 (by omega) (by omega) (by omega) (by omega) (by omega) (by omega) (by omega)
  have a1 := rC_b (su := decide (5 ≤ how)) (p := rp r i) (s := rd r 2) (tw := Qd d) (Q := Qd d) b1.1 b1.2 (by omega) rb.1 rb.2 (by omega) (by omega) (by omega) (by omega)
  have a2 := rC_b (su := decide (5 ≤ how)) (p := dr r i) (s := rd r 2) (tw := Qd d) (Q := Qd d) b2.1 b2.2 (by omega) db.1 db.2 (by omega) (by omega) (by omega) (by omega)
  unfold mM1 rP
  generalize rC lv (decide (5 ≤ how)) (rp r i) (rd r 2) (Qd d) x (rN r how i lv (Qd d) (rp r i) x) = u at *
  generalize rC lv (decide (5 ≤ how)) (dr r i) (rd r 2) (Qd d) x (rN r how i lv (Qd d) (dr r i) x) = v at *
  generalize rC lv (decide (5 ≤ how)) 0 (rd r 2) (Qd d) x 0 = w at *
  generalize rd r (13 + 3 * wp r i) = sh at *
  have n1 := Int.mul_le_mul_of_nonneg_left a0.2 (show 0 ≤ 2 * sh by omega)
  have n2 := Int.mul_le_mul_of_nonneg_left a1.2 (show 0 ≤ 10 - sh by omega)
  have n2' := Int.mul_le_mul_of_nonneg_left a2.2 (show 0 ≤ 10 - sh by omega)
  have n3 := Int.mul_nonneg (show 0 ≤ 2 * sh by omega) a0.1
  have n4 := Int.mul_nonneg (show 0 ≤ 10 - sh by omega) a1.1
  have n5 := Int.mul_nonneg (show 0 ≤ 10 - sh by omega) a2.1
  have e : 2 * sh * (B + 4059 * Qd d) + (10 - sh) * (B + 4059 * Qd d) + (10 - sh) * (B + 4059 * Qd d) = 20 * (B + 4059 * Qd d) := by
    generalize B + 4059 * Qd d = W
    rw [Int.sub_mul, Int.mul_assoc 2 sh W]
    omega
  split <;> omega
theorem mM_b {r : Nat → Int32} (h : ROK r) (how : Int) : ∀ (d : Nat), (d : Int) < rd r 8 → ∀ x, x ≤ (rd r 0).toNat → 0 ≤ mM r how d x ∧ mM r how d x ≤ Bd d
  | 0, _, x, _ => by
    rw [mM_z, show Bd 0 = 1000 from rfl]
    split <;> omega
  | d + 1, hd, x, hx => by
    obtain ⟨t0, t1, t2, t3, t4, t5, t8, t9⟩ := ROKb h
    have ih := mM_b h how d (by omega)
    have qb := QB_b d (by omega)
    have l := lg_c h (i := (rd r 8).toNat - 2 - d) (by omega)
    have m4 := mulg t4.1 t4.2 (show 0 ≤ Qd d by omega) (Int.le_refl _)
    have lb : ∀ x, x ≤ (rd r 0).toNat → 0 ≤ rLv r how d (mM r how d) x ∧ rLv r how d (mM r how d) x ≤ Bd d := lvA_b (by omega) (by split <;> omega) (by split <;> omega) ih
    rw [mM_s, show Bd (d + 1) = 20 * (Bd d + 4059 * Qd d) from rfl]
    exact mM1_b h (by omega) (by omega) lb hx
theorem tw_go {F : Nat} {s : MS} {r : Nat → Int32} (hs : s.2.2.1 15 = r) (h : ROK r) (p1 : Int32) : ∀ (d k n : Nat) (v : Int), (k : Int) + 1 + d = rd r 8 → d < n → f_X11_twenties_5 F s p1 n (Int64.ofInt v) (Int32.ofInt (k : Int)) = some (Int64.ofInt (v * Qd d)) := by
  obtain ⟨t0, t1, t2, t3, t4, t5, t8, t9⟩ := ROKb h
  intro d
  induction d with
  | zero =>
    intro k n v hk hn
    cases n with
    | zero => omega
    | succ n =>
      rw [f_X11_twenties_5]
      simp (disch := omega) only [z_0, z_1, z_2, z_3, z_4, z_5, z_6, z_7, z_8, z_9, z_10, z_11, z_12, z_14, z_18, z_20, z_22, z_24, z_32, z_38, z_40, z_41, z_44, z_48, z_49, z_57, z_59, z_60, z_63, z_65, z_74, z_75, z_81, z_97, z_99, z_104, z_115, z_119, z_122, z_200, z_209, z_210, z_219, z_228, z_255, z_300, z_369, z_999, z_65537, z_268435456, z_1000000000, n_nat, n_add, n_sub, n_mul, n_neg, n_lt, n_le, n_eq, n_ix, n_gd, n_nz, lz_t, bd_some, tn, Int.reduceToNat, tn_1, if_pos, if_neg, if_true, if_false, A11_last hs h]
      rw [show Qd 0 = 1 from rfl, Int.mul_one]
  | succ d ih =>
    intro k n v hk hn
    cases n with
    | zero => omega
    | succ n =>
      have := ih (k + 1) n (v * 20) (by omega) (by omega)
      rw [f_X11_twenties_5]
      simp (disch := omega) only [z_0, z_1, z_2, z_3, z_4, z_5, z_6, z_7, z_8, z_9, z_10, z_11, z_12, z_14, z_18, z_20, z_22, z_24, z_32, z_38, z_40, z_41, z_44, z_48, z_49, z_57, z_59, z_60, z_63, z_65, z_74, z_75, z_81, z_97, z_99, z_104, z_115, z_119, z_122, z_200, z_209, z_210, z_219, z_228, z_255, z_300, z_369, z_999, z_65537, z_268435456, z_1000000000, n_nat, n_add, n_sub, n_mul, n_neg, n_lt, n_le, n_eq, n_ix, n_gd, n_nz, lz_t, bd_some, tn, Int.reduceToNat, tn_1, if_pos, if_neg, if_true, if_false, y_20, m_mul, A11_last hs h]
      rw [show Qd (d + 1) = 20 * Qd d from rfl, ← Int.mul_assoc]
      exact this
theorem tw_e {F : Nat} (hF : 100 ≤ F) {s : MS} {r : Nat → Int32} (hs : s.2.2.1 15 = r) (h : ROK r) {k : Nat} (hk : (k : Int) < rd r 8) : f_X11_twenties F s (Int32.ofInt (k : Int)) = some (Int64.ofInt (Qd ((rd r 8).toNat - 1 - k))) := by
  obtain ⟨t0, t1, t2, t3, t4, t5, t8, t9⟩ := ROKb h
  have := tw_go (F := F) hs h (Int32.ofInt (k : Int)) ((rd r 8).toNat - 1 - k) k F 1 (by omega) (by omega)
  rw [Int.one_mul] at this
  exact this
theorem beh_e {F : Nat} (hF : 100 ≤ F) {s : MS} {r : Nat → Int32} (hs : s.2.2.1 15 = r) (h : ROK r) (su : Bool) {i : Nat} (hi : (i : Int) + 1 < rd r 8) {M : Nat → Int} (hM : ∀ y, y ≤ (rd r 0).toNat → s.2.2.2 27 (41 * (i + 1) + y) = Int64.ofInt (M y)) {y : Nat} (hy : y ≤ (rd r 0).toNat) : f_X11_behind F s (Int32.ofInt (i : Int)) (Int32.ofInt (y : Int)) (Int32.ofInt (if su then 1 else 0)) = some (Int64.ofInt (lvA (if su then 0 else rd r 4 * Qd ((rd r 8).toNat - 2 - i)) (lg r i) M y)) := by
  obtain ⟨t0, t1, t2, t3, t4, t5, t8, t9⟩ := ROKb h
  have l := lg_c h hi
  have lp := A11_leg (F := F) hs h i hi
  have tw := tw_e (F := F) hF hs h (k := i + 1) (by omega)
  have tw' : f_X11_twenties F s (Int32.ofInt ((i : Int) + 1)) = some (Int64.ofInt (Qd ((rd r 8).toNat - 1 - (i + 1)))) := tw
  rw [show (rd r 8).toNat - 1 - (i + 1) = (rd r 8).toNat - 2 - i by omega] at tw'
  have r4 : s.2.2.1 15 4 = Int32.ofInt (rd r 4) := by rw [hs]; exact rd_e r 4
  unfold f_X11_behind lvA
  by_cases c : (y : Int) < lg r i
  · cases su with
    | true =>
      rw [if_pos rfl, if_pos rfl]
      simp (disch := omega) only [z_0, z_1, z_2, z_3, z_4, z_5, z_6, z_7, z_8, z_9, z_10, z_11, z_12, z_14, z_18, z_20, z_22, z_24, z_32, z_38, z_40, z_41, z_44, z_48, z_49, z_57, z_59, z_60, z_63, z_65, z_74, z_75, z_81, z_97, z_99, z_104, z_115, z_119, z_122, z_200, z_209, z_210, z_219, z_228, z_255, z_300, z_369, z_999, z_65537, z_268435456, z_1000000000, n_nat, n_add, n_sub, n_mul, n_neg, n_lt, n_le, n_eq, n_ix, n_gd, n_nz, lz_t, bd_some, tn, Int.reduceToNat, tn_1, if_pos, if_neg, if_true, if_false, lp, y_0]
    | false =>
      rw [if_neg (c := false = true) (by decide), if_neg (c := false = true) (by decide)]
      simp (disch := omega) only [z_0, z_1, z_2, z_3, z_4, z_5, z_6, z_7, z_8, z_9, z_10, z_11, z_12, z_14, z_18, z_20, z_22, z_24, z_32, z_38, z_40, z_41, z_44, z_48, z_49, z_57, z_59, z_60, z_63, z_65, z_74, z_75, z_81, z_97, z_99, z_104, z_115, z_119, z_122, z_200, z_209, z_210, z_219, z_228, z_255, z_300, z_369, z_999, z_65537, z_268435456, z_1000000000, n_nat, n_add, n_sub, n_mul, n_neg, n_lt, n_le, n_eq, n_ix, n_gd, n_nz, lz_t, bd_some, tn, Int.reduceToNat, tn_1, if_pos, if_neg, if_true, if_false, y_0, y_1, y_2, y_10, y_20, y_1099511627776, m_add, m_sub, m_mul, m_neg, m_lt, m_le, m_eq, m_of, m_nz, m_to, c_gt, c_ge, c_lt, c_le, c_eq, lp, tw', r4]
  · have e1 : (41 * ((i : Int) + 1) + (y : Int) - lg r i).toNat = 41 * (i + 1) + (y - (lg r i).toNat) := by omega
    simp (disch := omega) only [z_0, z_1, z_2, z_3, z_4, z_5, z_6, z_7, z_8, z_9, z_10, z_11, z_12, z_14, z_18, z_20, z_22, z_24, z_32, z_38, z_40, z_41, z_44, z_48, z_49, z_57, z_59, z_60, z_63, z_65, z_74, z_75, z_81, z_97, z_99, z_104, z_115, z_119, z_122, z_200, z_209, z_210, z_219, z_228, z_255, z_300, z_369, z_999, z_65537, z_268435456, z_1000000000, n_nat, n_add, n_sub, n_mul, n_neg, n_lt, n_le, n_eq, n_ix, n_gd, n_nz, lz_t, bd_some, tn, Int.reduceToNat, tn_1, if_pos, if_neg, if_true, if_false, lp, e1, hM]
theorem com_e {F : Nat} (hF : 100 ≤ F) {s : MS} {r : Nat → Int32} (hs : s.2.2.1 15 = r) (h : ROK r) {how : Int} (hh : 0 ≤ how) (hh2 : how ≤ 9) {i : Nat} (hi : (i : Int) + 1 < rd r 8) {M : Nat → Int} (hM : ∀ y, y ≤ (rd r 0).toNat → s.2.2.2 27 (41 * (i + 1) + y) = Int64.ofInt (M y)) {x n : Nat} (hx : x + n ≤ (rd r 0).toNat) {price : Int} (hp : 0 ≤ price) (hp2 : price ≤ 99) : f_X11_comes1 F s (Int32.ofInt how) (Int32.ofInt (i : Int)) (Int32.ofInt (x : Int)) (Int32.ofInt (n : Int)) (Int32.ofInt price) = some (Int64.ofInt (rC (lvA (if decide (5 ≤ how) then 0 else rd r 4 * Qd ((rd r 8).toNat - 2 - i)) (lg r i) M) (decide (5 ≤ how)) price (rd r 2) (Qd ((rd r 8).toNat - 2 - i)) x n)) := by
  obtain ⟨t0, t1, t2, t3, t4, t5, t8, t9⟩ := ROKb h
  have m := mulg (show 0 ≤ (n : Int) by omega) (show (n : Int) ≤ 40 by omega) hp hp2
  have tw := tw_e (F := F) hF hs h (k := i + 1) (by omega)
  have tw' : f_X11_twenties F s (Int32.ofInt ((i : Int) + 1)) = some (Int64.ofInt (Qd ((rd r 8).toNat - 1 - (i + 1)))) := tw
  rw [show (rd r 8).toNat - 1 - (i + 1) = (rd r 8).toNat - 2 - i by omega] at tw'
  have r2 : s.2.2.1 15 2 = Int32.ofInt (rd r 2) := by rw [hs]; exact rd_e r 2
  have b := beh_e (F := F) hF hs h (decide (5 ≤ how)) hi hM hx
  rw [show ((x + n : Nat) : Int) = (x : Int) + (n : Int) from by omega] at b
  unfold f_X11_comes1 f_X11_comes1_10 f_X11_comes1_33 rC
  by_cases c : 5 ≤ how
  · rw [decide_eq_true c] at b ⊢
    rw [if_pos rfl] at b
    simp (disch := omega) only [z_0, z_1, z_2, z_3, z_4, z_5, z_6, z_7, z_8, z_9, z_10, z_11, z_12, z_14, z_18, z_20, z_22, z_24, z_32, z_38, z_40, z_41, z_44, z_48, z_49, z_57, z_59, z_60, z_63, z_65, z_74, z_75, z_81, z_97, z_99, z_104, z_115, z_119, z_122, z_200, z_209, z_210, z_219, z_228, z_255, z_300, z_369, z_999, z_65537, z_268435456, z_1000000000, n_nat, n_add, n_sub, n_mul, n_neg, n_lt, n_le, n_eq, n_ix, n_gd, n_nz, lz_t, bd_some, tn, Int.reduceToNat, tn_1, if_pos, if_neg, if_true, if_false, y_0, m_add, b, true_or]
  · rw [decide_eq_false c] at b ⊢
    rw [if_neg (by decide)] at b
    by_cases c2 : n = 0
    · subst c2
      simp (disch := omega) only [z_0, z_1, z_2, z_3, z_4, z_5, z_6, z_7, z_8, z_9, z_10, z_11, z_12, z_14, z_18, z_20, z_22, z_24, z_32, z_38, z_40, z_41, z_44, z_48, z_49, z_57, z_59, z_60, z_63, z_65, z_74, z_75, z_81, z_97, z_99, z_104, z_115, z_119, z_122, z_200, z_209, z_210, z_219, z_228, z_255, z_300, z_369, z_999, z_65537, z_268435456, z_1000000000, n_nat, n_add, n_sub, n_mul, n_neg, n_lt, n_le, n_eq, n_ix, n_gd, n_nz, lz_t, bd_some, tn, Int.reduceToNat, tn_1, if_pos, if_neg, if_true, if_false, y_0, m_add, b, or_true]
    · simp (disch := omega) only [z_0, z_1, z_2, z_3, z_4, z_5, z_6, z_7, z_8, z_9, z_10, z_11, z_12, z_14, z_18, z_20, z_22, z_24, z_32, z_38, z_40, z_41, z_44, z_48, z_49, z_57, z_59, z_60, z_63, z_65, z_74, z_75, z_81, z_97, z_99, z_104, z_115, z_119, z_122, z_200, z_209, z_210, z_219, z_228, z_255, z_300, z_369, z_999, z_65537, z_268435456, z_1000000000, n_nat, n_add, n_sub, n_mul, n_neg, n_lt, n_le, n_eq, n_ix, n_gd, n_nz, lz_t, bd_some, tn, Int.reduceToNat, tn_1, if_pos, if_neg, if_true, if_false, y_0, y_1, y_2, y_10, y_20, y_1099511627776, m_add, m_sub, m_mul, m_neg, m_lt, m_le, m_eq, m_of, m_nz, m_to, c_gt, c_ge, c_lt, c_le, c_eq, b, tw', r2]
      rw [if_neg (c := false = true ∨ n = 0) (by simp [c2])]
