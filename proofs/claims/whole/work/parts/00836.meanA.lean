/-! means and chances: the class's -/
def mS (r : Nat → Int32) : Nat → Int
  | 0 => 1
  | d + 1 => if 0 < rp r ((rd r 8).toNat - 2 - d) then mS r d * 20 else mS r d
def lvA (st l : Int) (A : Nat → Int) (x : Nat) : Int := if (x : Int) < l then st else A (x - l.toNat)
def chN (r : Nat → Int32) (rule : Int) (i : Nat) (lv : Nat → Int) (pen price : Int) (x : Nat) : Nat := if rule = 4 then minTo (cC lv (price * pen) (rd r 2 * pen) x) ((rd r 0).toNat - x) else (bo r rule i x price).toNat
def dr (r : Nat → Int32) (i : Nat) : Int := if 0 < rd r (12 + 3 * wp r i) then rd r (12 + 3 * wp r i) else rp r i
def mA1 (r : Nat → Int32) (rule pen : Int) (i : Nat) (lv : Nat → Int) (x : Nat) : Int := 2 * rd r (13 + 3 * wp r i) * lv x + (10 - rd r (13 + 3 * wp r i)) * (cC lv (rp r i * pen) (rd r 2 * pen) x (chN r rule i lv pen (rp r i) x) + cC lv (dr r i * pen) (rd r 2 * pen) x (chN r rule i lv pen (dr r i) x))
def mL (r : Nat → Int32) (ch : Bool) (d : Nat) (A : Nat → Int) : Nat → Int := lvA (if ch then 0 else rd r 4 * mS r d) (lg r ((rd r 8).toNat - 2 - d)) A
def mA (r : Nat → Int32) (rule : Int) (ch : Bool) : Nat → Nat → Int
  | 0, _ => if ch then 1 else 0
  | d + 1, x => if 0 < rp r ((rd r 8).toNat - 2 - d) then mA1 r rule (if ch then 0 else mS r d) ((rd r 8).toNat - 2 - d) (mL r ch d (mA r rule ch d)) x else mL r ch d (mA r rule ch d) x
def Qd : Nat → Int
  | 0 => 1
  | d + 1 => 20 * Qd d
def Bd : Nat → Int
  | 0 => 1000
  | d + 1 => 20 * (Bd d + 4059 * Qd d)
theorem mS_s (r : Nat → Int32) (d : Nat) : mS r (d + 1) = if 0 < rp r ((rd r 8).toNat - 2 - d) then mS r d * 20 else mS r d := rfl
theorem mA_s (r : Nat → Int32) (rule : Int) (ch : Bool) (d x : Nat) : mA r rule ch (d + 1) x = if 0 < rp r ((rd r 8).toNat - 2 - d) then mA1 r rule (if ch then 0 else mS r d) ((rd r 8).toNat - 2 - d) (mL r ch d (mA r rule ch d)) x else mL r ch d (mA r rule ch d) x := rfl
theorem mA_z (r : Nat → Int32) (rule : Int) (ch : Bool) (x : Nat) : mA r rule ch 0 x = if ch then 1 else 0 := rfl
theorem QB_b : ∀ d, d < 9 → 1 ≤ Qd d ∧ Qd d ≤ 25600000000 ∧ 999 * Qd d ≤ Bd d ∧ 1000 ≤ Bd d ∧ Bd d ≤ 1000000000000000 := by decide
theorem mS_b (r : Nat → Int32) : ∀ d, 1 ≤ mS r d ∧ mS r d ≤ Qd d
  | 0 => ⟨Int.le_refl _, Int.le_refl _⟩
  | d + 1 => by
    have := mS_b r d
    rw [mS_s, show Qd (d + 1) = 20 * Qd d from rfl]
    split <;> omega
theorem mulg {a b A B : Int} (h1 : 0 ≤ a) (h2 : a ≤ A) (h3 : 0 ≤ b) (h4 : b ≤ B) : 0 ≤ a * b ∧ a * b ≤ A * B := ⟨Int.mul_nonneg h1 h3, Int.mul_le_mul h2 h4 h3 (by omega)⟩
theorem chN_b {r : Nat → Int32} (h : ROK r) {rule : Int} {i : Nat} {lv : Nat → Int} {pen price : Int} {x : Nat} (hx : x ≤ (rd r 0).toNat) : x + chN r rule i lv pen price x ≤ (rd r 0).toNat := by
  obtain ⟨t0, t1, t2, t3, t4, t5, t8, t9⟩ := ROKb h
  unfold chN
  split
  · have := minTo_le (cC lv (price * pen) (rd r 2 * pen) x) ((rd r 0).toNat - x)
    omega
  · have := bo_b (r := r) (rule := rule) (i := i) (has := x) (price := price) (by omega) (by omega)
    omega
theorem cC_b {lv : Nat → Int} {p s : Int} {x n : Nat} {B Q : Int} (h1 : 0 ≤ lv (x + n)) (h2 : lv (x + n) ≤ B) (hn : n ≤ 40) (hp : 0 ≤ p) (hp2 : p ≤ 99 * Q) (hs : 0 ≤ s) (hs2 : s ≤ 99 * Q) : 0 ≤ cC lv p s x n ∧ cC lv p s x n ≤ B + 4059 * Q := by
  have m := mulg hp hp2 (show 0 ≤ (n : Int) by omega) (show (n : Int) ≤ 40 by omega)
  unfold cC
  split <;> omega
theorem dr_b {r : Nat → Int32} (h : ROK r) {i : Nat} (hi : (i : Int) < rd r 8) : 0 ≤ dr r i ∧ dr r i ≤ 99 := by
  have := pumpB h (wp_b h hi).1
  have := rp_b h hi
  unfold dr
  split <;> omega
theorem lvA_b {st l : Int} {A : Nat → Int} {B : Int} {T : Nat} (hl : 0 ≤ l) (hs : 0 ≤ st) (hs2 : st ≤ B) (hA : ∀ x, x ≤ T → 0 ≤ A x ∧ A x ≤ B) : ∀ x, x ≤ T → 0 ≤ lvA st l A x ∧ lvA st l A x ≤ B := by
  intro x hx
  unfold lvA
  split
  · omega
  · exact hA _ (by omega)
theorem mA1_b {r : Nat → Int32} (h : ROK r) {rule pen : Int} {i : Nat} (hi : (i : Int) < rd r 8) {lv : Nat → Int} {B Q : Int} (hQ : 0 ≤ Q) (hp1 : 0 ≤ pen) (hp2 : pen ≤ Q) (hlv : ∀ x, x ≤ (rd r 0).toNat → 0 ≤ lv x ∧ lv x ≤ B) {x : Nat} (hx : x ≤ (rd r 0).toNat) : 0 ≤ mA1 r rule pen i lv x ∧ mA1 r rule pen i lv x ≤ 20 * (B + 4059 * Q) := by
  obtain ⟨t0, t1, t2, t3, t4, t5, t8, t9⟩ := ROKb h
  have pb := pumpB h (wp_b h hi).1
  have rb := rp_b h hi
  have db := dr_b h hi
  have m1 := mulg rb.1 rb.2 hp1 hp2
  have m2 := mulg db.1 db.2 hp1 hp2
  have m3 := mulg t2.1 t2.2 hp1 hp2
  have c1 := chN_b h (rule := rule) (i := i) (lv := lv) (pen := pen) (price := rp r i) hx
  have c2 := chN_b h (rule := rule) (i := i) (lv := lv) (pen := pen) (price := dr r i) hx
  have b1 := hlv _ c1
  have b2 := hlv _ c2
  have b0 := hlv x hx
  have a1 := cC_b (p := rp r i * pen) (s := rd r 2 * pen) b1.1 b1.2 (by omega) m1.1 m1.2 m3.1 m3.2
  have a2 := cC_b (p := dr r i * pen) (s := rd r 2 * pen) b2.1 b2.2 (by omega) m2.1 m2.2 m3.1 m3.2
  unfold mA1
  generalize cC lv (rp r i * pen) (rd r 2 * pen) x (chN r rule i lv pen (rp r i) x) = u at *
  generalize cC lv (dr r i * pen) (rd r 2 * pen) x (chN r rule i lv pen (dr r i) x) = v at *
  generalize rd r (13 + 3 * wp r i) = sh at *
  generalize lv x = w at *
  have n1 := Int.mul_le_mul_of_nonneg_left (show w ≤ B + 4059 * Q by omega) (show 0 ≤ 2 * sh by omega)
  have n2 := Int.mul_le_mul_of_nonneg_left (show u + v ≤ 2 * (B + 4059 * Q) by omega) (show 0 ≤ 10 - sh by omega)
  have n3 := Int.mul_nonneg (show 0 ≤ 2 * sh by omega) b0.1
  have n4 := Int.mul_nonneg (show 0 ≤ 10 - sh by omega) (show 0 ≤ u + v by omega)
  have e : 2 * sh * (B + 4059 * Q) + (10 - sh) * (2 * (B + 4059 * Q)) = 20 * (B + 4059 * Q) := by
    generalize B + 4059 * Q = W
    rw [Int.sub_mul, Int.mul_assoc 2 sh W, Int.mul_left_comm sh 2 W]
    omega
  omega
theorem mA_b {r : Nat → Int32} (h : ROK r) (rule : Int) (ch : Bool) : ∀ (d : Nat), (d : Int) < rd r 8 → ∀ x, x ≤ (rd r 0).toNat → 0 ≤ mA r rule ch d x ∧ mA r rule ch d x ≤ Bd d
  | 0, _, x, _ => by
    rw [mA_z]
    cases ch <;> decide
  | d + 1, hd, x, hx => by
    obtain ⟨t0, t1, t2, t3, t4, t5, t8, t9⟩ := ROKb h
    have ih := mA_b h rule ch d (by omega)
    have qb := QB_b d (by omega)
    have sb := mS_b r d
    have l := lg_c h (i := (rd r 8).toNat - 2 - d) (by omega)
    have m4 := mulg t4.1 t4.2 (by omega) sb.2
    have lb : ∀ x, x ≤ (rd r 0).toNat → 0 ≤ mL r ch d (mA r rule ch d) x ∧ mL r ch d (mA r rule ch d) x ≤ Bd d := lvA_b (by omega) (by cases ch <;> simp <;> omega) (by cases ch <;> simp <;> omega) ih
    rw [mA_s, show Bd (d + 1) = 20 * (Bd d + 4059 * Qd d) from rfl]
    by_cases c : 0 < rp r ((rd r 8).toNat - 2 - d)
    · rw [if_pos c]
      exact mA1_b h (by omega) (by omega) (by cases ch <;> simp <;> omega) (by cases ch <;> simp <;> omega) lb hx
    · rw [if_neg c]
      have := lb x hx
      omega
theorem chAll_go {F : Nat} (hF : 100 ≤ F) {sDr sRo : MS} {r : Nat → Int32} (hR : RR sRo r) (h : ROK r) {rule : Int} (hr1 : 0 ≤ rule) (hr2 : rule ≤ 3) {i : Nat} (hi : (i : Int) + 1 < rd r 8) {price : Int} (hp : 0 ≤ price) (hp2 : price ≤ 99) (p5 : Int64) : ∀ (d k n : Nat) (g : Nat → Int32), k + d = (rd r 0).toNat + 1 → d < n → (∀ x : Nat, x < k → g x = Int32.ofInt ((x + (bo r rule i x price).toNat : Nat) : Int)) →
    ∃ g', f_X1_chooseAll_36 F sDr sRo 41 (Int32.ofInt rule) (Int32.ofInt (i : Int)) (Int32.ofInt price) p5 n (Int32.ofInt (k : Int)) g = some g' ∧ (∀ x : Nat, x ≤ (rd r 0).toNat → g' x = Int32.ofInt ((x + (bo r rule i x price).toNat : Nat) : Int)) := by
  obtain ⟨q0, q1, q2, q3, q4, q5, q8, q9⟩ := RRb hR
  obtain ⟨t0, t1, t2, t3, t4, t5, t8, t9⟩ := ROKb h
  intro d
  induction d with
  | zero =>
    intro k n g hk hn hg
    cases n with
    | zero => omega
    | succ n =>
      refine ⟨g, ?_, fun x hx => hg x (by omega)⟩
      rw [f_X1_chooseAll_36]
      simp (disch := omega) only [z_0, z_1, z_2, z_3, z_4, z_5, z_6, z_7, z_8, z_9, z_10, z_11, z_12, z_14, z_18, z_20, z_22, z_24, z_32, z_38, z_40, z_41, z_44, z_48, z_49, z_57, z_59, z_60, z_63, z_65, z_74, z_75, z_81, z_97, z_99, z_104, z_115, z_119, z_122, z_200, z_209, z_210, z_219, z_228, z_255, z_300, z_369, z_999, z_65537, z_268435456, z_1000000000, n_nat, n_add, n_sub, n_mul, n_neg, n_lt, n_le, n_eq, n_ix, n_gd, n_nz, lz_t, bd_some, tn, Int.reduceToNat, tn_1, if_pos, if_neg, if_true, if_false, q0]
  | succ d ih =>
    intro k n g hk hn hg
    cases n with
    | zero => omega
    | succ n =>
      have bb := bo_b (r := r) (rule := rule) (i := i) (has := k) (price := price) (by omega) (by omega)
      have cb := C_bo (F := F) hF (sDr := sDr) hR h hr1 hr2 hi (has := (k : Int)) (by omega) (by omega) hp hp2
      have ek : (k : Int) + bo r rule i k price = ((k + (bo r rule i k price).toNat : Nat) : Int) := by omega
      obtain ⟨g', g1, g2⟩ := ih (k + 1) n (upd g k (Int32.ofInt ((k + (bo r rule i k price).toNat : Nat) : Int))) (by omega) (by omega) (by
        intro x hx
        by_cases e : x = k
        · subst e; rw [up_s]
        · rw [up_n _ _ _ _ e]; exact hg x (by omega))
      refine ⟨g', ?_, g2⟩
      rw [f_X1_chooseAll_36]
      simp (disch := omega) only [z_0, z_1, z_2, z_3, z_4, z_5, z_6, z_7, z_8, z_9, z_10, z_11, z_12, z_14, z_18, z_20, z_22, z_24, z_32, z_38, z_40, z_41, z_44, z_48, z_49, z_57, z_59, z_60, z_63, z_65, z_74, z_75, z_81, z_97, z_99, z_104, z_115, z_119, z_122, z_200, z_209, z_210, z_219, z_228, z_255, z_300, z_369, z_999, z_65537, z_268435456, z_1000000000, n_nat, n_add, n_sub, n_mul, n_neg, n_lt, n_le, n_eq, n_ix, n_gd, n_nz, lz_t, bd_some, tn, Int.reduceToNat, tn_1, if_pos, if_neg, if_true, if_false, q0, cb, ek]
      exact g1
theorem chAll_e {F : Nat} (hF : 100 ≤ F) {sDr sRo : MS} {r : Nat → Int32} (hR : RR sRo r) (h : ROK r) {rule : Int} (hr1 : 0 ≤ rule) (hr2 : rule ≤ 4) {i : Nat} (hi : (i : Int) + 1 < rd r 8) {price pen : Int} (hp : 0 ≤ price) (hp2 : price ≤ 99) (hn : 0 ≤ pen) (hn2 : pen ≤ 25600000000) (lv : Nat → Int) (hlv : ∀ x, x ≤ (rd r 0).toNat → sDr.2.2.2 2 x = Int64.ofInt (lv x) ∧ 0 ≤ lv x ∧ lv x ≤ 1000000000000000) (g : Nat → Int32) :
    ∃ g', f_X1_chooseAll F sDr sRo 41 (Int32.ofInt rule) (Int32.ofInt (i : Int)) (Int32.ofInt price) (Int64.ofInt pen) g = some g' ∧ (∀ x : Nat, x ≤ (rd r 0).toNat → g' x = Int32.ofInt ((x + chN r rule i lv pen price x : Nat) : Int)) := by
  obtain ⟨q0, q1, q2, q3, q4, q5, q8, q9⟩ := RRb hR
  obtain ⟨t0, t1, t2, t3, t4, t5, t8, t9⟩ := ROKb h
  by_cases c : rule = 4
  · have m1 := mulg hp hp2 hn hn2
    have m2 := mulg t2.1 t2.2 hn hn2
    obtain ⟨g', k1, k2, k3⟩ := choose_go (F := F) (rd r 0).toNat lv (price * pen) (rd r 2 * pen) (by omega) (by omega) (by omega) (by omega) (by omega) (sDr.2.2.2 2) (fun x hx => ⟨(hlv x hx).1, (hlv x hx).2.1, by have := (hlv x hx).2.2; omega⟩) ((rd r 0).toNat + 1) (rd r 0).toNat F g (by omega) (by omega) (by omega) (by omega) (by omega)
    have k1' : f_X4_choose F 41 (sDr.2.2.2 2) 41 (Int32.ofInt (rd r 0)) (Int64.ofInt (price * pen)) (Int64.ofInt (rd r 2 * pen)) g = some g' := by
      rw [show (((rd r 0).toNat + 1 : Nat) : Int) - 1 = rd r 0 by omega, show (((rd r 0).toNat : Nat) : Int) = rd r 0 by omega] at k1
      exact k1
    refine ⟨g', ?_, ?_⟩
    · unfold f_X1_chooseAll
      simp (disch := omega) only [z_0, z_1, z_2, z_3, z_4, z_5, z_6, z_7, z_8, z_9, z_10, z_11, z_12, z_14, z_18, z_20, z_22, z_24, z_32, z_38, z_40, z_41, z_44, z_48, z_49, z_57, z_59, z_60, z_63, z_65, z_74, z_75, z_81, z_97, z_99, z_104, z_115, z_119, z_122, z_200, z_209, z_210, z_219, z_228, z_255, z_300, z_369, z_999, z_65537, z_268435456, z_1000000000, n_nat, n_add, n_sub, n_mul, n_neg, n_lt, n_le, n_eq, n_ix, n_gd, n_nz, lz_t, bd_some, tn, Int.reduceToNat, tn_1, if_pos, if_neg, if_true, if_false, sI_a, sI_b, sL_a, sL_b, sL_c, wA_a, wA_b, wA_c, wA_d, wB_a, wB_b, wB_c, wB_d, sA_w, sB_w, uN_s, uN_n, up_s, up_n, ul_s, ul_n, p_fst, p_snd, y_0, y_1, y_2, y_10, y_20, y_1099511627776, m_add, m_sub, m_mul, m_neg, m_lt, m_le, m_eq, m_of, m_nz, m_to, c_gt, c_ge, c_lt, c_le, c_eq, q0, q2, k1']
    · intro x hx
      rw [k2 x (by omega)]
      unfold chN
      rw [if_pos c]
  · obtain ⟨g', k1, k2⟩ := chAll_go (F := F) hF (sDr := sDr) hR h hr1 (by omega) hi hp hp2 (Int64.ofInt pen) ((rd r 0).toNat + 1) 0 F g (by omega) (by omega) (by omega)
    refine ⟨g', ?_, ?_⟩
    · unfold f_X1_chooseAll
      simp (disch := omega) only [z_0, z_1, z_2, z_3, z_4, z_5, z_6, z_7, z_8, z_9, z_10, z_11, z_12, z_14, z_18, z_20, z_22, z_24, z_32, z_38, z_40, z_41, z_44, z_48, z_49, z_57, z_59, z_60, z_63, z_65, z_74, z_75, z_81, z_97, z_99, z_104, z_115, z_119, z_122, z_200, z_209, z_210, z_219, z_228, z_255, z_300, z_369, z_999, z_65537, z_268435456, z_1000000000, n_nat, n_add, n_sub, n_mul, n_neg, n_lt, n_le, n_eq, n_ix, n_gd, n_nz, lz_t, bd_some, tn, Int.reduceToNat, tn_1, if_pos, if_neg, if_true, if_false]
      exact k1
    · intro x hx
      rw [k2 x hx]
      unfold chN
      rw [if_neg c]
theorem wB_wB (s : MS) (k : Nat) (f g : Nat → Int64) : wB (wB s k f) k g = wB s k g := by
  obtain ⟨a, b, c, e⟩ := s
  show (a, b, c, uN (uN e k f) k g) = (a, b, c, uN e k g)
  congr 3
  funext j
  by_cases q : j = k
  · subst q; rw [uN_s, uN_s]
  · rw [uN_n _ _ _ _ q, uN_n _ _ _ _ q, uN_n _ _ _ _ q]
theorem wB_id (s : MS) (k : Nat) : wB s k (s.2.2.2 k) = s := by
  obtain ⟨a, b, c, e⟩ := s
  show (a, b, c, uN e k (e k)) = (a, b, c, e)
  congr 3
  funext j
  by_cases q : j = k
  · subst q; rw [uN_s]
  · rw [uN_n _ _ _ _ q]
theorem meet_go {F : Nat} {sRo : MS} {T : Nat} (p1 p2 sh st pen : Int) (pp2 pp3 : Int32) (lv : Nat → Int) (ch1 ch2 : Nat → Nat) (fc fd : Nat → Int32) (hT : T ≤ 40) (e0 : sRo.1 0 = Int32.ofInt (T : Int)) (hp1 : 0 ≤ p1 ∧ p1 ≤ 99) (hp2 : 0 ≤ p2 ∧ p2 ≤ 99) (hsh : 0 ≤ sh ∧ sh ≤ 9)
    (hc1 : ∀ x, x ≤ T → fc x = Int32.ofInt ((x + ch1 x : Nat) : Int) ∧ x + ch1 x ≤ T) (hc2 : ∀ x, x ≤ T → fd x = Int32.ofInt ((x + ch2 x : Nat) : Int) ∧ x + ch2 x ≤ T) :
    ∀ (d k n : Nat) (s : MS), k + d = T + 1 → d < n → (∀ x, k ≤ x → x ≤ T → s.2.2.2 2 x = Int64.ofInt (lv x)) →
    ∃ g, f_X1_meetPump_86 F 41 41 sRo pp2 pp3 (Int64.ofInt pen) n (Int32.ofInt p1) (Int32.ofInt p2) (Int32.ofInt sh) (Int64.ofInt st) (Int32.ofInt (k : Int)) s fc fd = some (wB s 2 g, fc, fd) ∧ (∀ x, k ≤ x → x ≤ T → g x = Int64.ofInt (2 * sh * lv x + (10 - sh) * (cC lv (p1 * pen) st x (ch1 x) + cC lv (p2 * pen) st x (ch2 x)))) ∧ (∀ x, x < k → g x = s.2.2.2 2 x) := by
  intro d
  induction d with
  | zero =>
    intro k n s hk hn hv
    cases n with
    | zero => omega
    | succ n =>
      refine ⟨s.2.2.2 2, ?_, fun x h1 h2 => by omega, fun _ _ => rfl⟩
      rw [wB_id, f_X1_meetPump_86]
      simp (disch := omega) only [z_0, z_1, z_2, z_3, z_4, z_5, z_6, z_7, z_8, z_9, z_10, z_11, z_12, z_14, z_18, z_20, z_22, z_24, z_32, z_38, z_40, z_41, z_44, z_48, z_49, z_57, z_59, z_60, z_63, z_65, z_74, z_75, z_81, z_97, z_99, z_104, z_115, z_119, z_122, z_200, z_209, z_210, z_219, z_228, z_255, z_300, z_369, z_999, z_65537, z_268435456, z_1000000000, n_nat, n_add, n_sub, n_mul, n_neg, n_lt, n_le, n_eq, n_ix, n_gd, n_nz, lz_t, bd_some, tn, Int.reduceToNat, tn_1, if_pos, if_neg, if_true, if_false, e0]
  | succ d ih =>
    intro k n s hk hn hv
    cases n with
    | zero => omega
    | succ n =>
      obtain ⟨c1, c2⟩ := hc1 k (by omega)
      obtain ⟨c3, c4⟩ := hc2 k (by omega)
      have s1 := spend_e (F := F) (fq := s.2.2.2 2) (lv := lv) (p := p1 * pen) (s := st) (f := k) (n := ch1 k) (by omega) (hv _ (by omega) c2)
      have s2 := spend_e (F := F) (fq := s.2.2.2 2) (lv := lv) (p := p2 * pen) (s := st) (f := k) (n := ch2 k) (by omega) (hv _ (by omega) c4)
      have vk := hv k (by omega) (by omega)
      obtain ⟨g, g1, g2, g3⟩ := ih (k + 1) n (sB s 2 k (Int64.ofInt (2 * sh * lv k + (10 - sh) * (cC lv (p1 * pen) st k (ch1 k) + cC lv (p2 * pen) st k (ch2 k))))) (by omega) (by omega) (fun x h1 h2 => by
        simp (disch := omega) only [sI_a, sI_b, sL_a, sL_b, sL_c, wA_a, wA_b, wA_c, wA_d, wB_a, wB_b, wB_c, wB_d, sA_w, sB_w, uN_s, uN_n, up_s, up_n, ul_s, ul_n, p_fst, p_snd]
        exact hv x (by omega) h2)
      refine ⟨g, ?_, ?_, ?_⟩
      · rw [f_X1_meetPump_86]
        simp (disch := omega) only [z_0, z_1, z_2, z_3, z_4, z_5, z_6, z_7, z_8, z_9, z_10, z_11, z_12, z_14, z_18, z_20, z_22, z_24, z_32, z_38, z_40, z_41, z_44, z_48, z_49, z_57, z_59, z_60, z_63, z_65, z_74, z_75, z_81, z_97, z_99, z_104, z_115, z_119, z_122, z_200, z_209, z_210, z_219, z_228, z_255, z_300, z_369, z_999, z_65537, z_268435456, z_1000000000, n_nat, n_add, n_sub, n_mul, n_neg, n_lt, n_le, n_eq, n_ix, n_gd, n_nz, lz_t, bd_some, tn, Int.reduceToNat, tn_1, if_pos, if_neg, if_true, if_false, sI_a, sI_b, sL_a, sL_b, sL_c, wA_a, wA_b, wA_c, wA_d, wB_a, wB_b, wB_c, wB_d, sA_w, sB_w, uN_s, uN_n, up_s, up_n, ul_s, ul_n, p_fst, p_snd, y_0, y_1, y_2, y_10, y_20, y_1099511627776, m_add, m_sub, m_mul, m_neg, m_lt, m_le, m_eq, m_of, m_nz, m_to, c_gt, c_ge, c_lt, c_le, c_eq, e0, c1, c3, s1, s2, vk]
        rw [sB_w, wB_wB] at g1
        exact g1
      · intro x h1 h2
        by_cases e : x = k
        · subst e
          rw [g3 x (by omega)]
          simp (disch := omega) only [sI_a, sI_b, sL_a, sL_b, sL_c, wA_a, wA_b, wA_c, wA_d, wB_a, wB_b, wB_c, wB_d, sA_w, sB_w, uN_s, uN_n, up_s, up_n, ul_s, ul_n, p_fst, p_snd]
        · exact g2 x (by omega) h2
      · intro x hx
        rw [g3 x (by omega)]
        simp (disch := omega) only [sI_a, sI_b, sL_a, sL_b, sL_c, wA_a, wA_b, wA_c, wA_d, wB_a, wB_b, wB_c, wB_d, sA_w, sB_w, uN_s, uN_n, up_s, up_n, ul_s, ul_n, p_fst, p_snd]
