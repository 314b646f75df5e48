/-! judge -/
theorem X9_legPints {F : Nat} {s : MS} {r : Nat → Int32} (hR : RR s r) (h : ROK r) {i : Nat} (hi : (i : Int) + 1 < (r 8).toInt) : f_X9_legPints F s (Int32.ofNat i) = some (Int32.ofInt (lg r i)) := by
  have h8 := h.2.2.2.2.2.2.2.2.1
  obtain ⟨g1, g2⟩ := i9 i (by omega)
  obtain ⟨g3, g4⟩ := i9 (i + 1) (by omega)
  have b1 := up_b h (i + 1) (by omega)
  have b2 := up_b h i (by omega)
  unfold f_X9_legPints
  rw [one_n, gd_t g3, lz_t, gd_t g1, lz_t, g2, g4]
  congr 1
  refine oi_e ?_
  have e : up r (i + 1) = up r i + lg r i := rfl
  rw [i_sub _ _ (by rw [RR_up hR i (by omega), RR_up hR (i + 1) (by omega)]; omega), RR_up hR i (by omega), RR_up hR (i + 1) (by omega), e]
  omega
/-- the first price at a station -/
def pr (r : Nat → Int32) (i : Nat) : Int32 := r (11 + 3 * (r (200 + i)).toNatClampNeg)
theorem pr_b {r : Nat → Int32} (h : ROK r) {i : Nat} (hi : (i : Int) < (r 8).toInt) : 0 ≤ (pr r i).toInt ∧ (pr r i).toInt ≤ 99 := by
  obtain ⟨a, ha, -, -, ea⟩ := wy h hi
  unfold pr
  rw [ea]
  exact (h.2.2.2.2.2.2.2.2.2.2.2.2.1 a ha).1
theorem X9_hasPumpAt {F : Nat} {s : MS} {r : Nat → Int32} (hR : RR s r) (h : ROK r) {i : Nat} (hi : (i : Int) < (r 8).toInt) : f_X9_hasPumpAt F s (Int32.ofNat i) = some (bi (decide (0 < (pr r i).toInt))) := by
  have h8 := h.2.2.2.2.2.2.2.2.1
  obtain ⟨g1, g2⟩ := i9 i (by omega)
  obtain ⟨a, ha, -, ea, ea'⟩ := wy h hi
  obtain ⟨g3, g4⟩ := i9 a ha
  unfold f_X9_hasPumpAt
  rw [gd_t g1, lz_t, g2, hR.2.2.2.2.1 i hi, ea, gd_t g3, lz_t, g4, (hR.2.2.2.1 a ha).1]
  have e : pr r i = r (11 + 3 * a) := by unfold pr; rw [ea']
  rw [e]
  simp only [i_le]
  have h0 : (0 : Int32).toInt = 0 := rfl
  rw [h0]
  by_cases c : (r (11 + 3 * a)).toInt ≤ 0
  · rw [if_pos c]
    have : ¬ 0 < (r (11 + 3 * a)).toInt := by omega
    simp [this, bi]
  · rw [if_neg c]
    have : 0 < (r (11 + 3 * a)).toInt := by omega
    simp [this, bi]
theorem X11_priceAt {F : Nat} {s : MS} (h : ROK (s.2.2.1 15)) {i : Nat} (hi : (i : Int) < (s.2.2.1 15 8).toInt) : f_X11_priceAt F s (Int32.ofNat i) = some (pr (s.2.2.1 15) i) := by
  have h8 := h.2.2.2.2.2.2.2.2.1
  obtain ⟨a, ha, -, ea, ea'⟩ := wy h hi
  unfold f_X11_priceAt
  rw [X11_placeOf (by omega), bd_some, ea, show (0 : Int32) = Int32.ofNat 0 from rfl, X11_pumpOf ha (by decide), bd_some]
  unfold pr
  rw [ea', show 11 + (3 * a + 0) = 11 + 3 * a by omega]
theorem judge_go {F : Nat} {sPl sRo sMo : MS} (hR : RR sRo (sMo.2.2.1 15)) (h : ROK (sMo.2.2.1 15)) (hP : PP sPl sMo) : ∀ (d k n n' : Nat) (x : Int32), (k : Int) + 1 + d = (sMo.2.2.1 15 8).toInt → d < n → d < n' → 0 ≤ x.toInt → x.toInt ≤ 40 → ∃ v, f_X6_failsAt_7 F sPl sRo n x (Int32.ofNat k) = some v ∧ f_X11_judged_9 F sMo n' x (Int32.ofNat k) = some v := by
  have h8 := h.2.2.2.2.2.2.2.2.1
  have e8 : sRo.1 8 = sMo.2.2.1 15 8 := hR.1 8 (by decide)
  have e0 : sRo.1 0 = sMo.2.2.1 15 0 := hR.1 0 (by decide)
  have ht := h.1
  have el : (sMo.2.2.1 15 8 - (1 : Int32)).toInt = (sMo.2.2.1 15 8).toInt - 1 := by
    rw [i_sub _ _ (by have : (1 : Int32).toInt = 1 := rfl; omega)]; rfl
  have z0 : (0 : Int32).toInt = 0 := rfl
  have q0 : (0 : Int32).toNatClampNeg = 0 := by decide
  intro d
  induction d with
  | zero =>
    intro k n n' x h1 h2 h3 _ _
    cases n with
    | zero => omega
    | succ n =>
      cases n' with
      | zero => omega
      | succ n' =>
        refine ⟨-2, ?_, ?_⟩
        · rw [f_X6_failsAt_7, e8, if_pos (by rw [i_le, el, lit_i _ (by omega)]; omega)]
        · rw [f_X11_judged_9, X11_lastStation h, bd_some, if_pos (by rw [i_le, oi (by omega), lit_i _ (by omega)]; omega)]
  | succ d ih =>
    intro k n n' x h1 h2 h3 x0 x1
    cases n with
    | zero => omega
    | succ n =>
      cases n' with
      | zero => omega
      | succ n' =>
        obtain ⟨g1, g2⟩ := i9 k (by omega)
        obtain ⟨p1, p2, p3⟩ := hP k (by omega)
        have l1 := lg_b h (i := k) (by omega)
        have b1 := pr_b h (i := k) (by omega)
        have ex : (x + sMo.2.2.1 17 k).toInt = x.toInt + (sMo.2.2.1 17 k).toInt := i_add _ _ (by omega)
        have ey : (sMo.2.2.1 17 k - Int32.ofInt (lg (sMo.2.2.1 15) k)).toInt = (sMo.2.2.1 17 k).toInt - lg (sMo.2.2.1 15) k := by
          rw [i_sub _ _ (by rw [oi (by omega)]; omega), oi (by omega)]
        have ez : (x + (sMo.2.2.1 17 k - Int32.ofInt (lg (sMo.2.2.1 15) k))).toInt = x.toInt + (sMo.2.2.1 17 k).toInt - lg (sMo.2.2.1 15) k := by
          rw [i_add _ _ (by rw [ey]; omega), ey]; omega
        have ew : (x + sMo.2.2.1 17 k - Int32.ofInt (lg (sMo.2.2.1 15) k)).toInt = x.toInt + (sMo.2.2.1 17 k).toInt - lg (sMo.2.2.1 15) k := by
          rw [i_sub _ _ (by rw [ex, oi (by omega)]; omega), ex, oi (by omega)]
        have eq : x + (sMo.2.2.1 17 k - Int32.ofInt (lg (sMo.2.2.1 15) k)) = x + sMo.2.2.1 17 k - Int32.ofInt (lg (sMo.2.2.1 15) k) := by rw [i_eq, ez, ew]
        rw [f_X6_failsAt_7, f_X11_judged_9, e8, if_neg (by rw [i_le, el, lit_i _ (by omega)]; omega), X11_lastStation h, bd_some, if_neg (by rw [i_le, oi (by omega), lit_i _ (by omega)]; omega), gd_t g1, lz_t, gd_t g1, gd_t g1, lz_t, g2, p1]
        -- behind the pump
        have key : ∃ v, f_X6_failsAt_43 F sPl sRo (f_X6_failsAt_7 F sPl sRo n) (x + sMo.2.2.1 17 k) (Int32.ofNat k) = some v ∧ f_X11_judged_34 F sMo (f_X11_judged_9 F sMo n') x (Int32.ofNat k) = some v := by
          unfold f_X6_failsAt_43 f_X11_judged_34
          have G1 : ∀ (o : Option Int32), gd (vpb (Int32.ofNat k) 9) o = o := fun _ => gd_t g1
          have G0 : ∀ (o : Option Int32), gd (vpb (0 : Int32) 300) o = o := fun _ => gd_t (by decide)
          rw [X9_legPints hR h (by omega), e0, X11_leg h (by omega)]
          simp only [G1, G0, lz_t, bd_some, g2, q0, one_n, i_lt, i_le]
          rw [ex, oi (by omega), z0, ez]
          by_cases c1 : (sMo.2.2.1 15 0).toInt < x.toInt + (sMo.2.2.1 17 k).toInt
          · rw [if_pos c1, if_neg (by omega)]
            exact ⟨_, rfl, rfl⟩
          · rw [if_neg c1, if_pos (c := x.toInt + (sMo.2.2.1 17 k).toInt ≤ (sMo.2.2.1 15 0).toInt) (by omega)]
            by_cases c2 : lg (sMo.2.2.1 15) k ≤ x.toInt + (sMo.2.2.1 17 k).toInt
            · rw [if_pos c2, if_pos (c := 0 ≤ x.toInt + (sMo.2.2.1 17 k).toInt - lg (sMo.2.2.1 15) k) (by omega), eq]
              exact ih (k + 1) n n' _ (by omega) (by omega) (by omega) (by rw [ew]; omega) (by rw [ew]; omega)
            · rw [if_neg c2, if_neg (by omega)]
              exact ⟨_, rfl, rfl⟩
        by_cases c : sMo.2.2.1 17 k ≤ 0
        · rw [if_pos c, if_pos c]
          exact key
        · rw [if_neg c, if_neg c, X9_hasPumpAt hR h (by omega), bd_some, X11_priceAt h (by omega), bd_some]
          by_cases c2 : pr (sMo.2.2.1 15) k = 0
          · rw [if_pos c2, if_pos (by rw [c2, z0]; decide)]
            exact ⟨_, rfl, rfl⟩
          · have c3 : 0 < (pr (sMo.2.2.1 15) k).toInt := by
              have : (pr (sMo.2.2.1 15) k).toInt ≠ 0 := fun q => c2 (by rw [i_eq]; exact q)
              omega
            rw [if_neg c2, if_neg (by simp [c3, bi])]
            exact key
/-- a road is told -/
theorem X9_isTold {F : Nat} {s : MS} {r : Nat → Int32} {h : Int32} (hR : RR s r) (H : HR r h) : f_X9_isTold F s = some h := by
  have e8 : s.1 8 = r 8 := hR.1 8 (by decide)
  have z0 : (0 : Int32).toInt = 0 := rfl
  unfold f_X9_isTold
  rw [e8]
  rcases H with ⟨h1, h2⟩ | ⟨h1, h2⟩
  · have h8 := h2.2.2.2.2.2.2.2.2.1
    rw [if_neg (by rw [i_le, z0]; omega), h1]
  · rw [if_pos (by rw [h2 8 (by decide)]; decide), h1]
theorem judged_eq {F : Nat} (hF : 100 ≤ F) {sPl sRo sMo : MS} (hR : RR sRo (sMo.2.2.1 15)) (h : ROK (sMo.2.2.1 15)) (hP : PP sPl sMo) : ∃ v, f_X6_failsAt F sPl sRo = some v ∧ f_X11_judged F sMo = some v := by
  have h8 := h.2.2.2.2.2.2.2.2.1
  have ht := h.1
  have hh := h.2.1
  have e1 : sRo.1 1 = sMo.2.2.1 15 1 := hR.1 1 (by decide)
  obtain ⟨v, v1, v2⟩ := judge_go (F := F) hR h hP ((sMo.2.2.1 15 8).toInt - 1).toNat 0 F F (sMo.2.2.1 15 1) (by omega) (by omega) (by omega) (by omega) (by omega)
  refine ⟨v, ?_, ?_⟩
  · unfold f_X6_failsAt
    rw [e1]; exact v1
  · unfold f_X11_judged
    rw [gd_t (by decide), lz_t]
    exact v2
theorem P_judge {F : Nat} (hF : 100 ≤ F) {sMn sRo sPl sMo : MS} (hR : RR sRo (sMo.2.2.1 15)) (H : HR (sMo.2.2.1 15) (sMo.1 14)) (hP : PP sPl sMo) :
    ∃ v sMn' sMo', f_X10_judge F sPl sRo sMn = some (v, sMn') ∧ f_X11_judge F sMo = some (v, sMo') ∧ TT sMn sMo sMn' sMo' := by
  unfold f_X10_judge f_X11_judge
  rw [X9_isTold hR H, bd_some, X11_good, bd_some, show (sI (sI sMo 0 0) 11 0).1 14 = sMo.1 14 from rfl]
  rcases H with ⟨h1, h2⟩ | ⟨h1, h2⟩
  · rw [h1, if_neg (by decide), if_neg (by decide)]
    obtain ⟨v, v1, v2⟩ := judged_eq (F := F) hF (sMo := sI (sI sMo 0 0) 11 0) hR h2 hP
    rw [v1, bd_some, v2, bd_some]
    exact ⟨_, _, _, rfl, rfl, TT_ok sMn sMo⟩
  · rw [h1, if_pos rfl, if_pos rfl]
    exact ⟨-1, _, _, rfl, rfl, TT_no sMn sMo 1⟩
