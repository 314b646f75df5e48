/-! the two models of means are one, up to twenties -/
def Kd (r : Nat → Int32) : Nat → Int
  | 0 => 1
  | d + 1 => if 0 < rp r ((rd r 8).toNat - 2 - d) then Kd r d else 20 * Kd r d
theorem Kd_s (r : Nat → Int32) (d : Nat) : Kd r (d + 1) = if 0 < rp r ((rd r 8).toNat - 2 - d) then Kd r d else 20 * Kd r d := rfl
theorem Kd_b (r : Nat → Int32) : ∀ d, 1 ≤ Kd r d
  | 0 => Int.le_refl _
  | d + 1 => by
    have := Kd_b r d
    rw [Kd_s]
    split <;> omega
theorem Kd_q (r : Nat → Int32) : ∀ d, Qd d = mS r d * Kd r d
  | 0 => rfl
  | d + 1 => by
    have := Kd_q r d
    rw [show Qd (d + 1) = 20 * Qd d from rfl, Kd_s, mS_s, this]
    split <;> grind
theorem minTo_k {f g : Nat → Int} {k : Int} (hk : 0 < k) : ∀ {N : Nat}, (∀ n, n ≤ N → f n = g n * k) → minTo f N = minTo g N
  | 0, _ => rfl
  | N + 1, h => by
    have ih := minTo_k (N := N) hk (fun n hn => h n (by omega))
    have h1 := h (N + 1) (Nat.le_refl _)
    have h2 := h (minTo g N) (by have := minTo_le g N; omega)
    show (if f (N + 1) < f (minTo f N) then N + 1 else minTo f N) = (if g (N + 1) < g (minTo g N) then N + 1 else minTo g N)
    rw [ih, h1, h2]
    by_cases c : g (N + 1) < g (minTo g N)
    · rw [if_pos c, if_pos (Int.mul_lt_mul_of_pos_right c hk)]
    · rw [if_neg c, if_neg (by
        have := Int.mul_le_mul_of_nonneg_right (Int.not_lt.mp c) (Int.le_of_lt hk)
        omega)]
theorem rc_eq {lvM lv : Nat → Int} {su : Bool} {price s S K : Int} {x n : Nat} (h : lvM (x + n) = lv (x + n) * K) : rC lvM su price s (S * K) x n = cC lv (price * (if su then 0 else S)) (s * (if su then 0 else S)) x n * K := by
  unfold rC cC
  rw [h]
  cases su with
  | true => simp
  | false =>
    by_cases c : n = 0
    · subst c
      simp
    · simp only [Bool.false_eq_true, c, or_self, if_false]
      grind
def MR (how rule : Int) (ch : Bool) : Prop := (how = rule ∧ ch = false ∧ 0 ≤ rule ∧ rule ≤ 4) ∨ (how = rule + 6 ∧ ch = true ∧ 0 ≤ rule ∧ rule ≤ 3) ∨ (how = 5 ∧ rule = 0 ∧ ch = true)
theorem MR_ch {how rule : Int} {ch : Bool} (h : MR how rule ch) : decide (5 ≤ how) = ch := by
  rcases h with ⟨h1, h2, h3, h4⟩ | ⟨h1, h2, h3, h4⟩ | ⟨h1, h2, h3⟩
  · subst h2; exact decide_eq_false (by omega)
  · subst h2; exact decide_eq_true (by omega)
  · subst h3; exact decide_eq_true (by omega)
def mono (T : Nat) (A : Nat → Int) : Prop := ∀ x y, x ≤ y → y ≤ T → A x ≤ A y
theorem lvA_m {T : Nat} {l : Int} {A : Nat → Int} (hl : 0 ≤ l) (h0 : ∀ x, x ≤ T → 0 ≤ A x) (h : mono T A) : mono T (lvA 0 l A) := by
  intro x y hxy hy
  unfold lvA
  by_cases c : (x : Int) < l
  · rw [if_pos c]
    split
    · omega
    · exact h0 _ (by omega)
  · rw [if_neg c, if_neg (by omega)]
    exact h _ _ (by omega) (by omega)
theorem cC_0 (lv : Nat → Int) (p s : Int) (x n : Nat) : cC lv (p * 0) (s * 0) x n = lv (x + n) := by
  unfold cC
  simp
theorem mA_m {r : Nat → Int32} (h : ROK r) : ∀ d : Nat, (d : Int) < rd r 8 → mono (rd r 0).toNat (mA r 0 true d)
  | 0, _ => by
    intro x y hxy hy
    rw [mA_z, mA_z]
    exact Int.le_refl _
  | d + 1, hd => by
    obtain ⟨t0, t1, t2, t3, t4, t5, t8, t9⟩ := ROKb h
    have ih := mA_m h d (by omega)
    have l := lg_c h (i := (rd r 8).toNat - 2 - d) (by omega)
    have ab := mA_b h 0 true d (by omega)
    have pb := pumpB h (wp_b h (i := (rd r 8).toNat - 2 - d) (by omega)).1
    have lm : mono (rd r 0).toNat (mL r true d (mA r 0 true d)) := lvA_m (by omega) (fun x hx => (ab x hx).1) ih
    intro x y hxy hy
    rw [mA_s, mA_s]
    by_cases c : 0 < rp r ((rd r 8).toNat - 2 - d)
    · rw [if_pos c, if_pos c]
      unfold mA1
      simp only [if_true, cC_0]
      have e : ∀ (p : Int) (z : Nat), z ≤ (rd r 0).toNat → z + chN r 0 ((rd r 8).toNat - 2 - d) (mL r true d (mA r 0 true d)) 0 p z = (rd r 0).toNat := by
        intro p z hz
        unfold chN bo
        rw [if_neg (by omega), if_pos rfl]
        omega
      rw [e _ x (by omega), e _ x (by omega), e _ y hy, e _ y hy]
      have := Int.mul_le_mul_of_nonneg_left (lm x y hxy hy) (show 0 ≤ 2 * rd r (13 + 3 * wp r ((rd r 8).toNat - 2 - d)) by omega)
      omega
    · rw [if_neg c, if_neg c]
      exact lm x y hxy hy
theorem rP_eq {r : Nat → Int32} (h : ROK r) {how rule : Int} {ch : Bool} (hm : MR how rule ch) {i d : Nat} {lvM lv : Nat → Int} (hlv : ∀ x, x ≤ (rd r 0).toNat → lvM x = lv x * Kd r d) (hmo : how = 5 → mono (rd r 0).toNat lv) {price : Int} {x : Nat} (hx : x ≤ (rd r 0).toNat) : rP r how i d lvM price x = cC lv (price * (if ch then 0 else mS r d)) (rd r 2 * (if ch then 0 else mS r d)) x (chN r rule i lv (if ch then 0 else mS r d) price x) * Kd r d := by
  obtain ⟨t0, t1, t2, t3, t4, t5, t8, t9⟩ := ROKb h
  have kb := Kd_b r d
  have hch := MR_ch hm
  have rc : ∀ n, x + n ≤ (rd r 0).toNat → rC lvM (decide (5 ≤ how)) price (rd r 2) (Qd d) x n = cC lv (price * (if ch then 0 else mS r d)) (rd r 2 * (if ch then 0 else mS r d)) x n * Kd r d := by
    intro n hn
    rw [Kd_q r d, hch]
    exact rc_eq (hlv _ hn)
  have nb := rN_b h (how := how) (i := i) (lv := lvM) (tw := Qd d) (price := price) hx
  unfold rP
  rw [rc _ nb]
  rcases hm with ⟨h1, h2, h3, h4⟩ | ⟨h1, h2, h3, h4⟩ | ⟨h1, h2, h3⟩
  · by_cases c4 : rule = 4
    · have : rN r how i lvM (Qd d) price x = chN r rule i lv (if ch then 0 else mS r d) price x := by
        unfold rN chN
        rw [if_pos (by omega), if_pos c4]
        exact minTo_k (by omega) (fun n hn => rc n (by omega))
      rw [this]
    · have : rN r how i lvM (Qd d) price x = chN r rule i lv (if ch then 0 else mS r d) price x := by
        unfold rN chN
        rw [if_neg (by omega), if_neg (by omega), if_neg c4, if_neg (by omega), h1]
      rw [this]
  · have : rN r how i lvM (Qd d) price x = chN r rule i lv (if ch then 0 else mS r d) price x := by
      unfold rN chN
      rw [if_neg (c := how = 4) (by omega), if_neg (c := how = 5) (by omega), if_pos (c := 5 < how) (by omega), if_neg (c := rule = 4) (by omega), show how - 6 = rule by omega]
    rw [this]
  · have lm := hmo h1
    have nb' := chN_b h (rule := rule) (i := i) (lv := lv) (pen := if ch then 0 else mS r d) (price := price) hx
    have eT : x + chN r rule i lv (if ch then 0 else mS r d) price x = (rd r 0).toNat := by
      unfold chN bo
      rw [if_neg (by omega), if_pos h2]
      omega
    subst h3
    simp only [if_true, cC_0] at rc ⊢
    simp only [if_true] at eT
    rw [eT]
    congr 1
    have a1 := lm _ _ nb (Nat.le_refl _)
    have a2 : rC lvM (decide (5 ≤ how)) price (rd r 2) (Qd d) x ((rd r 0).toNat - x) ≤ rC lvM (decide (5 ≤ how)) price (rd r 2) (Qd d) x (rN r how i lvM (Qd d) price x) := by
      have := minTo_min (fun n => - rC lvM (decide (5 ≤ how)) price (rd r 2) (Qd d) x n) ((rd r 0).toNat - x) ((rd r 0).toNat - x) (Nat.le_refl _)
      have e : rN r how i lvM (Qd d) price x = minTo (fun n => - rC lvM (decide (5 ≤ how)) price (rd r 2) (Qd d) x n) ((rd r 0).toNat - x) := by
        unfold rN
        rw [if_neg (by omega), if_pos h1]
      rw [e]
      omega
    rw [rc _ nb, rc _ (by omega), show x + ((rd r 0).toNat - x) = (rd r 0).toNat by omega] at a2
    have a3 := Int.le_of_mul_le_mul_right a2 (by omega)
    omega
theorem mM_eq {r : Nat → Int32} (h : ROK r) {how rule : Int} {ch : Bool} (hm : MR how rule ch) : ∀ d : Nat, (d : Int) < rd r 8 → ∀ x, x ≤ (rd r 0).toNat → mM r how d x = mA r rule ch d x * Kd r d
  | 0, _, x, _ => by
    have := MR_ch hm
    rw [mM_z, mA_z, show Kd r 0 = 1 from rfl, Int.mul_one, ← this]
    by_cases c : 5 ≤ how
    · simp [c]
    · simp [c]
  | d + 1, hd, x, hx => by
    obtain ⟨t0, t1, t2, t3, t4, t5, t8, t9⟩ := ROKb h
    have ih := mM_eq h hm d (by omega)
    have hch := MR_ch hm
    have l := lg_c h (i := (rd r 8).toNat - 2 - d) (by omega)
    have rb := rp_b h (i := (rd r 8).toNat - 2 - d) (by omega)
    have hlv : ∀ x, x ≤ (rd r 0).toNat → rLv r how d (mM r how d) x = mL r ch d (mA r rule ch d) x * Kd r d := by
      intro x hx
      unfold rLv mL lvA
      rw [hch]
      by_cases c : (x : Int) < lg r ((rd r 8).toNat - 2 - d)
      · rw [if_pos c, if_pos c]
        cases ch with
        | true => simp
        | false =>
          simp only [Bool.false_eq_true, if_false]
          rw [Kd_q r d, Int.mul_assoc]
      · rw [if_neg c, if_neg c]
        exact ih _ (by omega)
    have hmo : how = 5 → mono (rd r 0).toNat (mL r ch d (mA r rule ch d)) := by
      intro h5
      rcases hm with ⟨h1, h2, h3, h4⟩ | ⟨h1, h2, h3, h4⟩ | ⟨h1, h2, h3⟩
      · omega
      · omega
      · subst h2
        subst h3
        exact lvA_m (by omega) (fun x hx => (mA_b h 0 true d (by omega) x hx).1) (mA_m h d (by omega))
    have e0 : rC (rLv r how d (mM r how d)) (decide (5 ≤ how)) 0 (rd r 2) (Qd d) x 0 = mL r ch d (mA r rule ch d) x * Kd r d := by
      unfold rC
      rw [if_pos (Or.inr rfl), Int.add_zero]
      exact hlv x hx
    rw [mM_s, mA_s, Kd_s]
    unfold mM1
    by_cases c : 0 < rp r ((rd r 8).toNat - 2 - d)
    · rw [if_pos c, if_pos c, if_neg (by omega), e0, rP_eq h hm hlv hmo hx, rP_eq h hm hlv hmo hx]
      unfold mA1
      grind
    · rw [if_neg c, if_neg c, if_pos (by omega), e0]
      grind
