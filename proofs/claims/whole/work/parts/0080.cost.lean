/-! cost -/
theorem X9_priceAt0 {F : Nat} {s : MS} {r : Nat → Int32} (hR : RR s r) (h : ROK r) {i : Nat} (hi : (i : Int) < (r 8).toInt) : f_X9_priceAt F s (Int32.ofNat i) 0 = some (pr r i) := by
  have h8 := h.2.2.2.2.2.2.2.2.1
  obtain ⟨g1, g2⟩ := i9 i (by omega)
  obtain ⟨a, ha, -, ea, ea'⟩ := wy h hi
  obtain ⟨g3, g4⟩ := i9 a ha
  unfold f_X9_priceAt
  rw [if_pos rfl, gd_t g1, lz_t, g2, hR.2.2.2.2.1 i hi, ea, gd_t g3, lz_t, g4, (hR.2.2.2.1 a ha).1]
  unfold pr; rw [ea']
theorem last_le {r : Nat → Int32} (h : ROK r) {k : Nat} (hk : k < 100) : (r 8 - (1 : Int32) ≤ Int32.ofNat k) ↔ (r 8).toInt - 1 ≤ k := by
  have h8 := h.2.2.2.2.2.2.2.2.1
  rw [i_le, lit_i _ (by omega), i_sub _ _ (by have : (1 : Int32).toInt = 1 := rfl; omega)]
  have : (1 : Int32).toInt = 1 := rfl
  omega
theorem lastI_le {r : Nat → Int32} (h : ROK r) {k : Nat} (hk : k < 100) : (Int32.ofInt ((r 8).toInt - 1) ≤ Int32.ofNat k) ↔ (r 8).toInt - 1 ≤ k := by
  have h8 := h.2.2.2.2.2.2.2.2.1
  rw [i_le, lit_i _ (by omega), oi (by omega)]
theorem cost_go {F : Nat} {sPl sRo sMo : MS} (hR : RR sRo (sMo.2.2.1 15)) (h : ROK (sMo.2.2.1 15)) (hP : PP sPl sMo) : ∀ (d k n n' : Nat) (x : Int32), (k : Int) + 1 + d = (sMo.2.2.1 15 8).toInt → d < n → d < n' → ∃ v, f_X6_pence_4 F sPl sRo n x (Int32.ofNat k) = some v ∧ f_X11_cost_36 F n' x (Int32.ofNat k) sMo = some (v, sMo) := by
  have h8 := h.2.2.2.2.2.2.2.2.1
  have e8 : sRo.1 8 = sMo.2.2.1 15 8 := hR.1 8 (by decide)
  have e2 : sRo.1 2 = sMo.2.2.1 15 2 := hR.1 2 (by decide)
  have z0 : (0 : Int32).toInt = 0 := rfl
  have q2 : (2 : Int32).toNatClampNeg = 2 := by decide
  intro d
  induction d with
  | zero =>
    intro k n n' x h1 h2 h3
    cases n with
    | zero => omega
    | succ n =>
      cases n' with
      | zero => omega
      | succ n' =>
        refine ⟨x, ?_, ?_⟩
        · rw [f_X6_pence_4, e8, if_pos ((last_le h (by omega)).mpr (by omega))]
        · rw [f_X11_cost_36, X11_lastStation h, bd_some, if_pos ((lastI_le h (by omega)).mpr (by omega))]
  | succ d ih =>
    intro k n n' x h1 h2 h3
    cases n with
    | zero => omega
    | succ n =>
      cases n' with
      | zero => omega
      | succ n' =>
        obtain ⟨g1, g2⟩ := i9 k (by omega)
        obtain ⟨p1, p2, p3⟩ := hP k (by omega)
        have G1 : ∀ (o : Option Int32), gd (vpb (Int32.ofNat k) 9) o = o := fun _ => gd_t g1
        have G2 : ∀ (o : Option (Int32 × MS)), gd (vpb (Int32.ofNat k) 9) o = o := fun _ => gd_t g1
        have G0 : ∀ (o : Option (Int32 × MS)), gd (vpb (2 : Int32) 300) o = o := fun _ => gd_t (by decide)
        rw [f_X6_pence_4, f_X11_cost_36, e8, if_neg (fun q => absurd ((last_le h (by omega)).mp q) (by omega)), X11_lastStation h, bd_some, if_neg (fun q => absurd ((lastI_le h (by omega)).mp q) (by omega)), X9_priceAt0 hR h (by omega), X11_priceAt h (by omega)]
        unfold f_X6_pence_46 f_X11_cost_77
        simp only [G1, G2, G0, lz_t, bd_some, g2, q2, one_n, p1, e2]
        by_cases c : sMo.2.2.1 17 k = 0
        · rw [if_pos c, if_pos (by rw [c]; decide)]
          exact ih (k + 1) n n' _ (by omega) (by omega) (by omega)
        · have c3 : ¬ sMo.2.2.1 17 k ≤ 0 := by
            rw [i_le, z0]
            have : (sMo.2.2.1 17 k).toInt ≠ 0 := fun q => c (by rw [i_eq]; exact q)
            omega
          rw [if_neg c, if_neg c3]
          exact ih (k + 1) n n' _ (by omega) (by omega) (by omega)
theorem P_cost {F : Nat} (hF : 100 ≤ F) {sMn sRo sPl sMo : MS} (hR : RR sRo (sMo.2.2.1 15)) (H : HR (sMo.2.2.1 15) (sMo.1 14)) (hP : PP sPl sMo) :
    ∃ v sMn' sMo', f_X10_cost F sPl sRo sMn = some (v, sMn') ∧ f_X11_cost F sMo = some (v, sMo') ∧ TT sMn sMo sMn' sMo' := by
  unfold f_X10_cost f_X11_cost
  rw [X9_isTold hR H, bd_some, X11_good, bd_some, show (sI (sI sMo 0 0) 11 0).1 14 = sMo.1 14 from rfl]
  rcases H with ⟨h1, h2⟩ | ⟨h1, h2⟩
  · have h8 := h2.2.2.2.2.2.2.2.2.1
    rw [h1, if_neg (by decide), if_neg (by decide)]
    obtain ⟨v, v1, v2⟩ := judged_eq (F := F) hF (sMo := sI (sI sMo 0 0) 11 0) hR h2 hP
    rw [v1, bd_some, v2, bd_some]
    by_cases c : v = -2
    · rw [if_pos c, if_pos c]
      obtain ⟨w, w1, w2⟩ := cost_go (F := F) (sMo := sI (sI sMo 0 0) 11 0) hR h2 hP ((sMo.2.2.1 15 8).toInt - 1).toNat 0 F F 0 (by show _ = (sMo.2.2.1 15 8).toInt; omega) (by omega) (by omega)
      unfold f_X6_pence
      have l0 : Int32.ofNat 0 = 0 := rfl
      rw [l0] at w1 w2
      rw [w1, bd_some, w2]
      exact ⟨_, _, _, rfl, rfl, TT_ok sMn sMo⟩
    · rw [if_neg c, if_neg c]
      exact ⟨-1, _, _, rfl, rfl, TT_no sMn sMo 5⟩
  · rw [h1, if_pos rfl, if_pos rfl]
    exact ⟨-1, _, _, rfl, rfl, TT_no sMn sMo 1⟩
